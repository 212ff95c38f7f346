section
-- ===== PART A: goes FIRST, ahead of the names: the tables' words, and 'selects' of the private methods out of them =====
/-- a private method of a class that the tables say can be made, by its rows of tables_1 -/
def lw_okq (q : MethodName × Nat) : Prop := (q.1.cls ≠ "java/lang/invoke/MethodHandle" ∧ q.1.cls ≠ "java/lang/invoke/VarHandle") ∧ Cond.instantiable q.1.cls q.2 ∈ tables_1 ∧ Cond.privateMethod q.1 ∈ tables_1 ∧ Cond.instanceMethod q.1 ∈ tables_1
theorem lw_p0 : lw_okq (⟨"GlobeCorner", "isChild", "(I)Z"⟩, 10) := ⟨⟨by decide +kernel, by decide +kernel⟩, List.mem_of_getElem? (i := 21) (by decide +kernel), List.mem_of_getElem? (i := 289) (by decide +kernel), List.mem_of_getElem? (i := 290) (by decide +kernel)⟩
theorem lw_p1 : lw_okq (⟨"GlobeCorner$Globe", "care", "(IIIIZ)I"⟩, 10) := ⟨⟨by decide +kernel, by decide +kernel⟩, List.mem_of_getElem? (i := 35) (by decide +kernel), List.mem_of_getElem? (i := 304) (by decide +kernel), List.mem_of_getElem? (i := 305) (by decide +kernel)⟩
theorem lw_p2 : lw_okq (⟨"GlobeCorner$Globe", "factsOf", "(IIII)[I"⟩, 10) := ⟨⟨by decide +kernel, by decide +kernel⟩, List.mem_of_getElem? (i := 35) (by decide +kernel), List.mem_of_getElem? (i := 308) (by decide +kernel), List.mem_of_getElem? (i := 309) (by decide +kernel)⟩
theorem lw_p3 : lw_okq (⟨"GlobeCorner$Globe", "needNext", "(III)I"⟩, 10) := ⟨⟨by decide +kernel, by decide +kernel⟩, List.mem_of_getElem? (i := 35) (by decide +kernel), List.mem_of_getElem? (i := 333) (by decide +kernel), List.mem_of_getElem? (i := 334) (by decide +kernel)⟩
theorem lw_p4 : lw_okq (⟨"GlobeCorner$Globe", "fingersOn", "(I)I"⟩, 10) := ⟨⟨by decide +kernel, by decide +kernel⟩, List.mem_of_getElem? (i := 35) (by decide +kernel), List.mem_of_getElem? (i := 341) (by decide +kernel), List.mem_of_getElem? (i := 342) (by decide +kernel)⟩
theorem lw_p5 : lw_okq (⟨"GlobeCorner", "fittingNeeds", "(IZ)I"⟩, 10) := ⟨⟨by decide +kernel, by decide +kernel⟩, List.mem_of_getElem? (i := 21) (by decide +kernel), List.mem_of_getElem? (i := 348) (by decide +kernel), List.mem_of_getElem? (i := 349) (by decide +kernel)⟩
theorem lw_p6 : lw_okq (⟨"GlobeCorner$Reader", "isClause", "()Z"⟩, 5) := ⟨⟨by decide +kernel, by decide +kernel⟩, List.mem_of_getElem? (i := 135) (by decide +kernel), List.mem_of_getElem? (i := 417) (by decide +kernel), List.mem_of_getElem? (i := 418) (by decide +kernel)⟩
theorem lw_p7 : lw_okq (⟨"GlobeCorner$Reader", "next", "()I"⟩, 5) := ⟨⟨by decide +kernel, by decide +kernel⟩, List.mem_of_getElem? (i := 135) (by decide +kernel), List.mem_of_getElem? (i := 421) (by decide +kernel), List.mem_of_getElem? (i := 422) (by decide +kernel)⟩
theorem lw_p8 : lw_okq (⟨"GlobeCorner$Reader", "isGrow", "()Z"⟩, 5) := ⟨⟨by decide +kernel, by decide +kernel⟩, List.mem_of_getElem? (i := 135) (by decide +kernel), List.mem_of_getElem? (i := 425) (by decide +kernel), List.mem_of_getElem? (i := 426) (by decide +kernel)⟩
theorem lw_p9 : lw_okq (⟨"GlobeCorner$Reader", "isWord", "(Ljava/lang/String;)Z"⟩, 5) := ⟨⟨by decide +kernel, by decide +kernel⟩, List.mem_of_getElem? (i := 135) (by decide +kernel), List.mem_of_getElem? (i := 430) (by decide +kernel), List.mem_of_getElem? (i := 431) (by decide +kernel)⟩
theorem lw_p10 : lw_okq (⟨"GlobeCorner$Reader", "isSign", "(I)Z"⟩, 5) := ⟨⟨by decide +kernel, by decide +kernel⟩, List.mem_of_getElem? (i := 135) (by decide +kernel), List.mem_of_getElem? (i := 482) (by decide +kernel), List.mem_of_getElem? (i := 483) (by decide +kernel)⟩
theorem lw_p11 : lw_okq (⟨"GlobeCorner$Reader", "isNumber", "()Z"⟩, 5) := ⟨⟨by decide +kernel, by decide +kernel⟩, List.mem_of_getElem? (i := 135) (by decide +kernel), List.mem_of_getElem? (i := 486) (by decide +kernel), List.mem_of_getElem? (i := 487) (by decide +kernel)⟩
theorem lw_p12 : lw_okq (⟨"GlobeCorner$Reader", "isAny", "(I)Z"⟩, 5) := ⟨⟨by decide +kernel, by decide +kernel⟩, List.mem_of_getElem? (i := 135) (by decide +kernel), List.mem_of_getElem? (i := 492) (by decide +kernel), List.mem_of_getElem? (i := 493) (by decide +kernel)⟩
theorem lw_p13 : lw_okq (⟨"GlobeCorner$Reader", "isAll", "(I)Z"⟩, 5) := ⟨⟨by decide +kernel, by decide +kernel⟩, List.mem_of_getElem? (i := 135) (by decide +kernel), List.mem_of_getElem? (i := 496) (by decide +kernel), List.mem_of_getElem? (i := 497) (by decide +kernel)⟩
theorem lw_p14 : lw_okq (⟨"GlobeCorner$Reader", "isOne", "(I)Z"⟩, 5) := ⟨⟨by decide +kernel, by decide +kernel⟩, List.mem_of_getElem? (i := 135) (by decide +kernel), List.mem_of_getElem? (i := 500) (by decide +kernel), List.mem_of_getElem? (i := 501) (by decide +kernel)⟩
theorem lw_p15 : lw_okq (⟨"GlobeCorner$Reader", "isTest", "()Z"⟩, 5) := ⟨⟨by decide +kernel, by decide +kernel⟩, List.mem_of_getElem? (i := 135) (by decide +kernel), List.mem_of_getElem? (i := 504) (by decide +kernel), List.mem_of_getElem? (i := 505) (by decide +kernel)⟩
def lw_privs_1 : List (MethodName × Nat) := [(⟨"GlobeCorner", "isChild", "(I)Z"⟩, 10), (⟨"GlobeCorner$Globe", "care", "(IIIIZ)I"⟩, 10), (⟨"GlobeCorner$Globe", "factsOf", "(IIII)[I"⟩, 10), (⟨"GlobeCorner$Globe", "needNext", "(III)I"⟩, 10), (⟨"GlobeCorner$Globe", "fingersOn", "(I)I"⟩, 10), (⟨"GlobeCorner", "fittingNeeds", "(IZ)I"⟩, 10), (⟨"GlobeCorner$Reader", "isClause", "()Z"⟩, 5), (⟨"GlobeCorner$Reader", "next", "()I"⟩, 5), (⟨"GlobeCorner$Reader", "isGrow", "()Z"⟩, 5), (⟨"GlobeCorner$Reader", "isWord", "(Ljava/lang/String;)Z"⟩, 5), (⟨"GlobeCorner$Reader", "isSign", "(I)Z"⟩, 5), (⟨"GlobeCorner$Reader", "isNumber", "()Z"⟩, 5), (⟨"GlobeCorner$Reader", "isAny", "(I)Z"⟩, 5), (⟨"GlobeCorner$Reader", "isAll", "(I)Z"⟩, 5), (⟨"GlobeCorner$Reader", "isOne", "(I)Z"⟩, 5), (⟨"GlobeCorner$Reader", "isTest", "()Z"⟩, 5)]
theorem lw_r1 : ∀ q ∈ lw_privs_1, lw_okq q := List.forall_mem_cons.mpr ⟨lw_p0, List.forall_mem_cons.mpr ⟨lw_p1, List.forall_mem_cons.mpr ⟨lw_p2, List.forall_mem_cons.mpr ⟨lw_p3, List.forall_mem_cons.mpr ⟨lw_p4, List.forall_mem_cons.mpr ⟨lw_p5, List.forall_mem_cons.mpr ⟨lw_p6, List.forall_mem_cons.mpr ⟨lw_p7, List.forall_mem_cons.mpr ⟨lw_p8, List.forall_mem_cons.mpr ⟨lw_p9, List.forall_mem_cons.mpr ⟨lw_p10, List.forall_mem_cons.mpr ⟨lw_p11, List.forall_mem_cons.mpr ⟨lw_p12, List.forall_mem_cons.mpr ⟨lw_p13, List.forall_mem_cons.mpr ⟨lw_p14, List.forall_mem_cons.mpr ⟨lw_p15, fun _ h => absurd h List.not_mem_nil⟩⟩⟩⟩⟩⟩⟩⟩⟩⟩⟩⟩⟩⟩⟩⟩
theorem lw_p16 : lw_okq (⟨"GlobeCorner$Posts", "weigh", "(LGlobeCorner$Globe;)V"⟩, 2) := ⟨⟨by decide +kernel, by decide +kernel⟩, List.mem_of_getElem? (i := 159) (by decide +kernel), List.mem_of_getElem? (i := 599) (by decide +kernel), List.mem_of_getElem? (i := 600) (by decide +kernel)⟩
theorem lw_p17 : lw_okq (⟨"GlobeCorner$Posts", "mostOf", "(II)I"⟩, 2) := ⟨⟨by decide +kernel, by decide +kernel⟩, List.mem_of_getElem? (i := 159) (by decide +kernel), List.mem_of_getElem? (i := 612) (by decide +kernel), List.mem_of_getElem? (i := 613) (by decide +kernel)⟩
theorem lw_p18 : lw_okq (⟨"GlobeCorner$Posts", "withPlace", "(III)I"⟩, 2) := ⟨⟨by decide +kernel, by decide +kernel⟩, List.mem_of_getElem? (i := 159) (by decide +kernel), List.mem_of_getElem? (i := 616) (by decide +kernel), List.mem_of_getElem? (i := 617) (by decide +kernel)⟩
theorem lw_p19 : lw_okq (⟨"GlobeCorner$Posts", "firstBest", "(II)I"⟩, 2) := ⟨⟨by decide +kernel, by decide +kernel⟩, List.mem_of_getElem? (i := 159) (by decide +kernel), List.mem_of_getElem? (i := 624) (by decide +kernel), List.mem_of_getElem? (i := 625) (by decide +kernel)⟩
theorem lw_p20 : lw_okq (⟨"GlobeCorner$Acts", "run", "(IIII)I"⟩, 5) := ⟨⟨by decide +kernel, by decide +kernel⟩, List.mem_of_getElem? (i := 172) (by decide +kernel), List.mem_of_getElem? (i := 745) (by decide +kernel), List.mem_of_getElem? (i := 746) (by decide +kernel)⟩
theorem lw_p21 : lw_okq (⟨"GlobeCorner$Acts", "answer", "(IIII)I"⟩, 5) := ⟨⟨by decide +kernel, by decide +kernel⟩, List.mem_of_getElem? (i := 172) (by decide +kernel), List.mem_of_getElem? (i := 753) (by decide +kernel), List.mem_of_getElem? (i := 754) (by decide +kernel)⟩
theorem lw_p22 : lw_okq (⟨"GlobeCornerModel", "isOne", "(I)Z"⟩, 47) := ⟨⟨by decide +kernel, by decide +kernel⟩, List.mem_of_getElem? (i := 807) (by decide +kernel), List.mem_of_getElem? (i := 967) (by decide +kernel), List.mem_of_getElem? (i := 968) (by decide +kernel)⟩
theorem lw_p23 : lw_okq (⟨"GlobeCornerModel", "isMet", "(II)Z"⟩, 47) := ⟨⟨by decide +kernel, by decide +kernel⟩, List.mem_of_getElem? (i := 807) (by decide +kernel), List.mem_of_getElem? (i := 974) (by decide +kernel), List.mem_of_getElem? (i := 975) (by decide +kernel)⟩
theorem lw_p24 : lw_okq (⟨"GlobeCornerModel", "careOf", "(IIZ)I"⟩, 47) := ⟨⟨by decide +kernel, by decide +kernel⟩, List.mem_of_getElem? (i := 807) (by decide +kernel), List.mem_of_getElem? (i := 978) (by decide +kernel), List.mem_of_getElem? (i := 979) (by decide +kernel)⟩
theorem lw_p25 : lw_okq (⟨"GlobeCornerModel", "sum", "(II)I"⟩, 47) := ⟨⟨by decide +kernel, by decide +kernel⟩, List.mem_of_getElem? (i := 807) (by decide +kernel), List.mem_of_getElem? (i := 982) (by decide +kernel), List.mem_of_getElem? (i := 983) (by decide +kernel)⟩
theorem lw_p26 : lw_okq (⟨"GlobeCornerModel", "isTrue", "(III)Z"⟩, 47) := ⟨⟨by decide +kernel, by decide +kernel⟩, List.mem_of_getElem? (i := 807) (by decide +kernel), List.mem_of_getElem? (i := 986) (by decide +kernel), List.mem_of_getElem? (i := 987) (by decide +kernel)⟩
theorem lw_p27 : lw_okq (⟨"GlobeCornerModel", "letterOf", "(III)I"⟩, 47) := ⟨⟨by decide +kernel, by decide +kernel⟩, List.mem_of_getElem? (i := 807) (by decide +kernel), List.mem_of_getElem? (i := 990) (by decide +kernel), List.mem_of_getElem? (i := 991) (by decide +kernel)⟩
theorem lw_p28 : lw_okq (⟨"GlobeCornerModel", "well", "(I)I"⟩, 47) := ⟨⟨by decide +kernel, by decide +kernel⟩, List.mem_of_getElem? (i := 807) (by decide +kernel), List.mem_of_getElem? (i := 999) (by decide +kernel), List.mem_of_getElem? (i := 1000) (by decide +kernel)⟩
theorem lw_p29 : lw_okq (⟨"GlobeCornerModel", "keep", "([I)V"⟩, 47) := ⟨⟨by decide +kernel, by decide +kernel⟩, List.mem_of_getElem? (i := 807) (by decide +kernel), List.mem_of_getElem? (i := 1003) (by decide +kernel), List.mem_of_getElem? (i := 1004) (by decide +kernel)⟩
theorem lw_p30 : lw_okq (⟨"GlobeCornerModel", "goesHour", "()V"⟩, 47) := ⟨⟨by decide +kernel, by decide +kernel⟩, List.mem_of_getElem? (i := 807) (by decide +kernel), List.mem_of_getElem? (i := 1007) (by decide +kernel), List.mem_of_getElem? (i := 1008) (by decide +kernel)⟩
theorem lw_p31 : lw_okq (⟨"GlobeCornerModel", "growBy", "()I"⟩, 47) := ⟨⟨by decide +kernel, by decide +kernel⟩, List.mem_of_getElem? (i := 807) (by decide +kernel), List.mem_of_getElem? (i := 1011) (by decide +kernel), List.mem_of_getElem? (i := 1012) (by decide +kernel)⟩
def lw_privs_2 : List (MethodName × Nat) := [(⟨"GlobeCorner$Posts", "weigh", "(LGlobeCorner$Globe;)V"⟩, 2), (⟨"GlobeCorner$Posts", "mostOf", "(II)I"⟩, 2), (⟨"GlobeCorner$Posts", "withPlace", "(III)I"⟩, 2), (⟨"GlobeCorner$Posts", "firstBest", "(II)I"⟩, 2), (⟨"GlobeCorner$Acts", "run", "(IIII)I"⟩, 5), (⟨"GlobeCorner$Acts", "answer", "(IIII)I"⟩, 5), (⟨"GlobeCornerModel", "isOne", "(I)Z"⟩, 47), (⟨"GlobeCornerModel", "isMet", "(II)Z"⟩, 47), (⟨"GlobeCornerModel", "careOf", "(IIZ)I"⟩, 47), (⟨"GlobeCornerModel", "sum", "(II)I"⟩, 47), (⟨"GlobeCornerModel", "isTrue", "(III)Z"⟩, 47), (⟨"GlobeCornerModel", "letterOf", "(III)I"⟩, 47), (⟨"GlobeCornerModel", "well", "(I)I"⟩, 47), (⟨"GlobeCornerModel", "keep", "([I)V"⟩, 47), (⟨"GlobeCornerModel", "goesHour", "()V"⟩, 47), (⟨"GlobeCornerModel", "growBy", "()I"⟩, 47)]
theorem lw_r2 : ∀ q ∈ lw_privs_2, lw_okq q := List.forall_mem_cons.mpr ⟨lw_p16, List.forall_mem_cons.mpr ⟨lw_p17, List.forall_mem_cons.mpr ⟨lw_p18, List.forall_mem_cons.mpr ⟨lw_p19, List.forall_mem_cons.mpr ⟨lw_p20, List.forall_mem_cons.mpr ⟨lw_p21, List.forall_mem_cons.mpr ⟨lw_p22, List.forall_mem_cons.mpr ⟨lw_p23, List.forall_mem_cons.mpr ⟨lw_p24, List.forall_mem_cons.mpr ⟨lw_p25, List.forall_mem_cons.mpr ⟨lw_p26, List.forall_mem_cons.mpr ⟨lw_p27, List.forall_mem_cons.mpr ⟨lw_p28, List.forall_mem_cons.mpr ⟨lw_p29, List.forall_mem_cons.mpr ⟨lw_p30, List.forall_mem_cons.mpr ⟨lw_p31, fun _ h => absurd h List.not_mem_nil⟩⟩⟩⟩⟩⟩⟩⟩⟩⟩⟩⟩⟩⟩⟩⟩
theorem lw_p32 : lw_okq (⟨"GlobeCornerModel", "again", "([I)V"⟩, 47) := ⟨⟨by decide +kernel, by decide +kernel⟩, List.mem_of_getElem? (i := 807) (by decide +kernel), List.mem_of_getElem? (i := 1016) (by decide +kernel), List.mem_of_getElem? (i := 1017) (by decide +kernel)⟩
theorem lw_p33 : lw_okq (⟨"GlobeCornerModel", "needs", "(II)I"⟩, 47) := ⟨⟨by decide +kernel, by decide +kernel⟩, List.mem_of_getElem? (i := 807) (by decide +kernel), List.mem_of_getElem? (i := 1020) (by decide +kernel), List.mem_of_getElem? (i := 1021) (by decide +kernel)⟩
theorem lw_p34 : lw_okq (⟨"GlobeCornerModel", "isSeen", "()Z"⟩, 47) := ⟨⟨by decide +kernel, by decide +kernel⟩, List.mem_of_getElem? (i := 807) (by decide +kernel), List.mem_of_getElem? (i := 1024) (by decide +kernel), List.mem_of_getElem? (i := 1025) (by decide +kernel)⟩
theorem lw_p35 : lw_okq (⟨"GlobeCornerModel", "spins", "(I)V"⟩, 47) := ⟨⟨by decide +kernel, by decide +kernel⟩, List.mem_of_getElem? (i := 807) (by decide +kernel), List.mem_of_getElem? (i := 1043) (by decide +kernel), List.mem_of_getElem? (i := 1044) (by decide +kernel)⟩
theorem lw_p36 : lw_okq (⟨"GlobeCornerModel", "onSome", "()I"⟩, 47) := ⟨⟨by decide +kernel, by decide +kernel⟩, List.mem_of_getElem? (i := 807) (by decide +kernel), List.mem_of_getElem? (i := 1047) (by decide +kernel), List.mem_of_getElem? (i := 1048) (by decide +kernel)⟩
theorem lw_p37 : lw_okq (⟨"GlobeCornerModel", "isClause", "(I)Z"⟩, 47) := ⟨⟨by decide +kernel, by decide +kernel⟩, List.mem_of_getElem? (i := 807) (by decide +kernel), List.mem_of_getElem? (i := 1067) (by decide +kernel), List.mem_of_getElem? (i := 1068) (by decide +kernel)⟩
theorem lw_p38 : lw_okq (⟨"GlobeCornerModel", "isAll", "(Ljava/lang/String;)Z"⟩, 47) := ⟨⟨by decide +kernel, by decide +kernel⟩, List.mem_of_getElem? (i := 807) (by decide +kernel), List.mem_of_getElem? (i := 1072) (by decide +kernel), List.mem_of_getElem? (i := 1073) (by decide +kernel)⟩
theorem lw_p39 : lw_okq (⟨"GlobeCornerModel", "is", "(I)Z"⟩, 47) := ⟨⟨by decide +kernel, by decide +kernel⟩, List.mem_of_getElem? (i := 807) (by decide +kernel), List.mem_of_getElem? (i := 1078) (by decide +kernel), List.mem_of_getElem? (i := 1079) (by decide +kernel)⟩
theorem lw_p40 : lw_okq (⟨"GlobeCornerModel", "isNumber", "()Z"⟩, 47) := ⟨⟨by decide +kernel, by decide +kernel⟩, List.mem_of_getElem? (i := 807) (by decide +kernel), List.mem_of_getElem? (i := 1084) (by decide +kernel), List.mem_of_getElem? (i := 1085) (by decide +kernel)⟩
theorem lw_p41 : lw_okq (⟨"GlobeCornerModel", "isDigit", "()Z"⟩, 47) := ⟨⟨by decide +kernel, by decide +kernel⟩, List.mem_of_getElem? (i := 807) (by decide +kernel), List.mem_of_getElem? (i := 1088) (by decide +kernel), List.mem_of_getElem? (i := 1089) (by decide +kernel)⟩
theorem lw_p42 : lw_okq (⟨"GlobeCornerModel", "isE", "()Z"⟩, 47) := ⟨⟨by decide +kernel, by decide +kernel⟩, List.mem_of_getElem? (i := 807) (by decide +kernel), List.mem_of_getElem? (i := 1092) (by decide +kernel), List.mem_of_getElem? (i := 1093) (by decide +kernel)⟩
theorem lw_p43 : lw_okq (⟨"GlobeCornerModel", "isT", "()Z"⟩, 47) := ⟨⟨by decide +kernel, by decide +kernel⟩, List.mem_of_getElem? (i := 807) (by decide +kernel), List.mem_of_getElem? (i := 1096) (by decide +kernel), List.mem_of_getElem? (i := 1097) (by decide +kernel)⟩
theorem lw_p44 : lw_okq (⟨"GlobeCornerModel", "isF", "()Z"⟩, 47) := ⟨⟨by decide +kernel, by decide +kernel⟩, List.mem_of_getElem? (i := 807) (by decide +kernel), List.mem_of_getElem? (i := 1100) (by decide +kernel), List.mem_of_getElem? (i := 1101) (by decide +kernel)⟩
theorem lw_p45 : lw_okq (⟨"GlobeCornerModel", "isOpened", "(I)Z"⟩, 47) := ⟨⟨by decide +kernel, by decide +kernel⟩, List.mem_of_getElem? (i := 807) (by decide +kernel), List.mem_of_getElem? (i := 1104) (by decide +kernel), List.mem_of_getElem? (i := 1105) (by decide +kernel)⟩
theorem lw_p46 : lw_okq (⟨"GlobeCornerModel", "codes", "(I)Z"⟩, 47) := ⟨⟨by decide +kernel, by decide +kernel⟩, List.mem_of_getElem? (i := 807) (by decide +kernel), List.mem_of_getElem? (i := 1108) (by decide +kernel), List.mem_of_getElem? (i := 1109) (by decide +kernel)⟩
theorem lw_p47 : lw_okq (⟨"GlobeCornerModel", "isTest", "()Z"⟩, 47) := ⟨⟨by decide +kernel, by decide +kernel⟩, List.mem_of_getElem? (i := 807) (by decide +kernel), List.mem_of_getElem? (i := 1112) (by decide +kernel), List.mem_of_getElem? (i := 1113) (by decide +kernel)⟩
def lw_privs_3 : List (MethodName × Nat) := [(⟨"GlobeCornerModel", "again", "([I)V"⟩, 47), (⟨"GlobeCornerModel", "needs", "(II)I"⟩, 47), (⟨"GlobeCornerModel", "isSeen", "()Z"⟩, 47), (⟨"GlobeCornerModel", "spins", "(I)V"⟩, 47), (⟨"GlobeCornerModel", "onSome", "()I"⟩, 47), (⟨"GlobeCornerModel", "isClause", "(I)Z"⟩, 47), (⟨"GlobeCornerModel", "isAll", "(Ljava/lang/String;)Z"⟩, 47), (⟨"GlobeCornerModel", "is", "(I)Z"⟩, 47), (⟨"GlobeCornerModel", "isNumber", "()Z"⟩, 47), (⟨"GlobeCornerModel", "isDigit", "()Z"⟩, 47), (⟨"GlobeCornerModel", "isE", "()Z"⟩, 47), (⟨"GlobeCornerModel", "isT", "()Z"⟩, 47), (⟨"GlobeCornerModel", "isF", "()Z"⟩, 47), (⟨"GlobeCornerModel", "isOpened", "(I)Z"⟩, 47), (⟨"GlobeCornerModel", "codes", "(I)Z"⟩, 47), (⟨"GlobeCornerModel", "isTest", "()Z"⟩, 47)]
theorem lw_r3 : ∀ q ∈ lw_privs_3, lw_okq q := List.forall_mem_cons.mpr ⟨lw_p32, List.forall_mem_cons.mpr ⟨lw_p33, List.forall_mem_cons.mpr ⟨lw_p34, List.forall_mem_cons.mpr ⟨lw_p35, List.forall_mem_cons.mpr ⟨lw_p36, List.forall_mem_cons.mpr ⟨lw_p37, List.forall_mem_cons.mpr ⟨lw_p38, List.forall_mem_cons.mpr ⟨lw_p39, List.forall_mem_cons.mpr ⟨lw_p40, List.forall_mem_cons.mpr ⟨lw_p41, List.forall_mem_cons.mpr ⟨lw_p42, List.forall_mem_cons.mpr ⟨lw_p43, List.forall_mem_cons.mpr ⟨lw_p44, List.forall_mem_cons.mpr ⟨lw_p45, List.forall_mem_cons.mpr ⟨lw_p46, List.forall_mem_cons.mpr ⟨lw_p47, fun _ h => absurd h List.not_mem_nil⟩⟩⟩⟩⟩⟩⟩⟩⟩⟩⟩⟩⟩⟩⟩⟩
theorem lw_p48 : lw_okq (⟨"GlobeCornerModel", "posts", "()V"⟩, 47) := ⟨⟨by decide +kernel, by decide +kernel⟩, List.mem_of_getElem? (i := 807) (by decide +kernel), List.mem_of_getElem? (i := 1123) (by decide +kernel), List.mem_of_getElem? (i := 1124) (by decide +kernel)⟩
theorem lw_p49 : lw_okq (⟨"GlobeCornerModel", "tries", "(III)V"⟩, 47) := ⟨⟨by decide +kernel, by decide +kernel⟩, List.mem_of_getElem? (i := 807) (by decide +kernel), List.mem_of_getElem? (i := 1127) (by decide +kernel), List.mem_of_getElem? (i := 1128) (by decide +kernel)⟩
theorem lw_p50 : lw_okq (⟨"GlobeCornerModel", "allNeed", "()I"⟩, 47) := ⟨⟨by decide +kernel, by decide +kernel⟩, List.mem_of_getElem? (i := 807) (by decide +kernel), List.mem_of_getElem? (i := 1131) (by decide +kernel), List.mem_of_getElem? (i := 1132) (by decide +kernel)⟩
theorem lw_p51 : lw_okq (⟨"GlobeCornerModel", "allWell", "()I"⟩, 47) := ⟨⟨by decide +kernel, by decide +kernel⟩, List.mem_of_getElem? (i := 807) (by decide +kernel), List.mem_of_getElem? (i := 1135) (by decide +kernel), List.mem_of_getElem? (i := 1136) (by decide +kernel)⟩
theorem lw_p52 : lw_okq (⟨"GlobeCornerModel", "allStood", "()I"⟩, 47) := ⟨⟨by decide +kernel, by decide +kernel⟩, List.mem_of_getElem? (i := 807) (by decide +kernel), List.mem_of_getElem? (i := 1190) (by decide +kernel), List.mem_of_getElem? (i := 1191) (by decide +kernel)⟩
theorem lw_p53 : lw_okq (⟨"GlobeCornerModel", "points", "(III)I"⟩, 47) := ⟨⟨by decide +kernel, by decide +kernel⟩, List.mem_of_getElem? (i := 807) (by decide +kernel), List.mem_of_getElem? (i := 1218) (by decide +kernel), List.mem_of_getElem? (i := 1219) (by decide +kernel)⟩
theorem lw_p54 : lw_okq (⟨"GlobeCornerModel", "ran", "(I)V"⟩, 47) := ⟨⟨by decide +kernel, by decide +kernel⟩, List.mem_of_getElem? (i := 807) (by decide +kernel), List.mem_of_getElem? (i := 1222) (by decide +kernel), List.mem_of_getElem? (i := 1223) (by decide +kernel)⟩
theorem lw_p55 : lw_okq (⟨"GlobeCornerModel", "sees", "(III)I"⟩, 47) := ⟨⟨by decide +kernel, by decide +kernel⟩, List.mem_of_getElem? (i := 807) (by decide +kernel), List.mem_of_getElem? (i := 1229) (by decide +kernel), List.mem_of_getElem? (i := 1230) (by decide +kernel)⟩
theorem lw_p56 : lw_okq (⟨"GlobeCornerModel", "tells", "(III)I"⟩, 47) := ⟨⟨by decide +kernel, by decide +kernel⟩, List.mem_of_getElem? (i := 807) (by decide +kernel), List.mem_of_getElem? (i := 1233) (by decide +kernel), List.mem_of_getElem? (i := 1234) (by decide +kernel)⟩
def lw_privs_4 : List (MethodName × Nat) := [(⟨"GlobeCornerModel", "posts", "()V"⟩, 47), (⟨"GlobeCornerModel", "tries", "(III)V"⟩, 47), (⟨"GlobeCornerModel", "allNeed", "()I"⟩, 47), (⟨"GlobeCornerModel", "allWell", "()I"⟩, 47), (⟨"GlobeCornerModel", "allStood", "()I"⟩, 47), (⟨"GlobeCornerModel", "points", "(III)I"⟩, 47), (⟨"GlobeCornerModel", "ran", "(I)V"⟩, 47), (⟨"GlobeCornerModel", "sees", "(III)I"⟩, 47), (⟨"GlobeCornerModel", "tells", "(III)I"⟩, 47)]
theorem lw_r4 : ∀ q ∈ lw_privs_4, lw_okq q := List.forall_mem_cons.mpr ⟨lw_p48, List.forall_mem_cons.mpr ⟨lw_p49, List.forall_mem_cons.mpr ⟨lw_p50, List.forall_mem_cons.mpr ⟨lw_p51, List.forall_mem_cons.mpr ⟨lw_p52, List.forall_mem_cons.mpr ⟨lw_p53, List.forall_mem_cons.mpr ⟨lw_p54, List.forall_mem_cons.mpr ⟨lw_p55, List.forall_mem_cons.mpr ⟨lw_p56, fun _ h => absurd h List.not_mem_nil⟩⟩⟩⟩⟩⟩⟩⟩⟩
def lw_privs : List (MethodName × Nat) := lw_privs_1 ++ (lw_privs_2 ++ (lw_privs_3 ++ (lw_privs_4)))
def lw_tbl : List Cond := k2_sels lw_privs ++ tables_1
theorem lw_privs_ok : ∀ q ∈ lw_privs, lw_okq q := by
  show ∀ q ∈ lw_privs_1 ++ (lw_privs_2 ++ (lw_privs_3 ++ (lw_privs_4))), lw_okq q
  exact List.forall_mem_append.mpr ⟨lw_r1, List.forall_mem_append.mpr ⟨lw_r2, List.forall_mem_append.mpr ⟨lw_r3, lw_r4⟩⟩⟩
end
section
/-! THE SMALL MACHINE: the instructions that the claim's methods use, over cells by number. A cell's row: tag, number, contents (of what is only read), references (of final fields, of rows of references).
 tags: 0 an object (number: which kind), 1 ints, 2 bytes, 3 booleans, 4 longs (number: how many), 5 and 6 references (to kind 6, to kind 7), 7 ints that are only read, 8 bytes that are only read, 9 a text (number: the cell of its bytes), 11 what is only carried -/
abbrev mm_D : Type := Nat × Nat × (Nat → Int32) × List (Option Nat)
abbrev mm_M : Type := (Nat → Nat → Int32) × (Nat → Nat → Int64) × (Nat → Nat → Option Nat)
abbrev mm_W : Type := List mm_D × mm_M
abbrev mm_L : Type := List (Option Value)
/-- an instruction's row: itself, (pc, length), (a, b, c), (int, long), a switch's places -/
abbrev mm_R : Type := Instr × (Nat × Nat) × (Nat × Nat × Nat) × (Int32 × Int64) × List (Int32 × Nat)
abbrev mm_C : Type := Nat × mm_L × List Value × mm_W
def mm_sI (μ : mm_M) (q : Nat) (f : Nat → Int32) : mm_M := (fun c => if c = q then f else μ.1 c, μ.2.1, μ.2.2)
def mm_sJ (μ : mm_M) (q : Nat) (f : Nat → Int64) : mm_M := (μ.1, fun c => if c = q then f else μ.2.1 c, μ.2.2)
def mm_sR (μ : mm_M) (q : Nat) (f : Nat → Option Nat) : mm_M := (μ.1, μ.2.1, fun c => if c = q then f else μ.2.2 c)
def mm_ld (L : mm_L) (k : Nat) : Option Value := match L[k]? with
  | some o => o
  | none => none
def mm_lg (L : mm_L) (k : Nat) : Bool := match k with
  | 0 => false
  | j + 1 => match L[j]? with
    | some (some (.long _)) => true
    | some (some (.double _)) => true
    | _ => false
def mm_st1 (L : mm_L) (k : Nat) (v : Value) : Option mm_L := match mm_lg L k, Nat.blt k L.length with
  | false, true => some (L.set k (some v))
  | _, _ => none
def mm_st2 (L : mm_L) (k : Nat) (v : Value) : Option mm_L := match mm_lg L k, Nat.blt (k + 1) L.length with
  | false, true => some ((L.set k (some v)).set (k + 1) none)
  | _, _ => none
def mm_sw : List (Int32 × Nat) → Nat → Int32 → Nat
  | [], d, _ => d
  | (v, t) :: r, d, x => if x = v then t else mm_sw r d x
/-- how many words the operands take -/
def mm_wd : List Value → Nat
  | [] => 0
  | .long _ :: s => mm_wd s + 2
  | .double _ :: s => mm_wd s + 2
  | _ :: s => mm_wd s + 1
/-- a copy of items -/
def mm_cp (st : List Value) (w : mm_W) : Option (List Value × mm_W) := match st with
  | .int n :: .int dp :: .ref b :: .int sp :: .ref a :: s => match w.1[a]?, w.1[b]? with
    | some (ta, na, _, _), some (tb, nb, _, _) =>
      if n < 0 ∨ sp < 0 ∨ dp < 0 ∨ na < sp.toNatClampNeg + n.toNatClampNeg ∨ nb < dp.toNatClampNeg + n.toNatClampNeg ∨ 8 < mm_wd s then none
      else match ta == 1 && tb == 1, ta == 4 && tb == 4 with
        | true, _ => some (s, (w.1, mm_sI w.2 b (va_cpy (w.2.1 a) (w.2.1 b) sp.toNatClampNeg dp.toNatClampNeg n.toNatClampNeg)))
        | _, true => some (s, (w.1, mm_sJ w.2 b (va_cpy (w.2.2.1 a) (w.2.2.1 b) sp.toNatClampNeg dp.toNatClampNeg n.toNatClampNeg)))
        | _, _ => none
    | _, _ => none
  | _ => none
/-- how many fields of each kind -/
def mm_N : List Nat := [5, 4, 10, 2, 5, 4, 6, 3, 10, 47]
/-- a new object, new items: the cell comes behind all others, with nothing in it -/
def mm_new (w : mm_W) (d : mm_D) : mm_W := (w.1 ++ [d], mm_sR (mm_sJ (mm_sI w.2 w.1.length (fun _ => 0)) w.1.length (fun _ => 0)) w.1.length (fun _ => none))
/-- items of an array come as numbers: which tags, by the instruction -/
def mm_ial (w : mm_W) (q : Nat) (j : Int32) : Option Int32 := match w.1[q]? with
  | some (t, n, f, _) => if j < 0 ∨ n ≤ j.toNatClampNeg then none else match t == 1, t == 7 with
    | true, _ => some (w.2.1 q j.toNatClampNeg)
    | _, true => some (f j.toNatClampNeg)
    | _, _ => none
  | none => none
def mm_bal (w : mm_W) (q : Nat) (j : Int32) : Option Int32 := match w.1[q]? with
  | some (t, n, f, _) => if j < 0 ∨ n ≤ j.toNatClampNeg then none else match t == 2 || t == 3, t == 8 with
    | true, _ => some (w.2.1 q j.toNatClampNeg)
    | _, true => some (f j.toNatClampNeg)
    | _, _ => none
  | none => none
def mm_ias (w : mm_W) (q : Nat) (j x : Int32) : Option mm_W := match w.1[q]? with
  | some (t, n, _, _) => if j < 0 ∨ n ≤ j.toNatClampNeg then none else match t == 1 with
    | true => some (w.1, mm_sI w.2 q (upd (w.2.1 q) j.toNatClampNeg x))
    | _ => none
  | none => none
def mm_bas (w : mm_W) (q : Nat) (j x : Int32) : Option mm_W := match w.1[q]? with
  | some (t, n, _, _) => if j < 0 ∨ n ≤ j.toNatClampNeg then none else match t == 2, t == 3 with
    | true, _ => some (w.1, mm_sI w.2 q (upd (w.2.1 q) j.toNatClampNeg (vp_nar .byte x)))
    | _, true => some (w.1, mm_sI w.2 q (upd (w.2.1 q) j.toNatClampNeg (vp_nar .boolean x)))
    | _, _ => none
  | none => none
def mm_lal (w : mm_W) (q : Nat) (j : Int32) : Option Int64 := match w.1[q]? with
  | some (t, n, _, _) => if j < 0 ∨ n ≤ j.toNatClampNeg then none else match t == 4 with
    | true => some (w.2.2.1 q j.toNatClampNeg)
    | _ => none
  | none => none
def mm_las (w : mm_W) (q : Nat) (j : Int32) (x : Int64) : Option mm_W := match w.1[q]? with
  | some (t, n, _, _) => if j < 0 ∨ n ≤ j.toNatClampNeg then none else match t == 4 with
    | true => some (w.1, mm_sJ w.2 q (vp_updL (w.2.2.1 q) j.toNatClampNeg x))
    | _ => none
  | none => none
def mm_aal (w : mm_W) (q : Nat) (j : Int32) : Option Value := match w.1[q]? with
  | some (t, n, _, rs) => if j < 0 ∨ n ≤ j.toNatClampNeg then none else match t == 5 || t == 6 with
    | true => some (va_rf (rs.getD j.toNatClampNeg none))
    | _ => none
  | none => none
def mm_aas (w : mm_W) (q : Nat) (j : Int32) (x : Nat) : Option mm_W := match w.1[q]?, w.1[x]? with
  | some (t, n, f, rs), some (tx, nx, _, _) => if j < 0 ∨ n ≤ j.toNatClampNeg ∨ rs.length ≤ j.toNatClampNeg then none else match (t == 5 && (tx == 0 && nx == 6)) || (t == 6 && (tx == 0 && nx == 7)) with
    | true => some (w.1.set q (t, n, f, rs.set j.toNatClampNeg (some x)), w.2)
    | _ => none
  | _, _ => none
def mm_len (w : mm_W) (q : Nat) : Option Int32 := match w.1[q]? with
  | some (t, n, _, _) => match Nat.blt 0 t && Nat.blt t 9 with
    | true => some (Int32.ofNat n)
    | _ => none
  | none => none
/-- a field read: a the object's kind, b the place, c how it is kept (0 a number, 1 a reference, 2 a final reference, 3 a text's bytes, 4 a text's coder) -/
def mm_gf (w : mm_W) (q a b c : Nat) : Option Value := match w.1[q]? with
  | some (t, n, _, rs) => match t == 0 && n == a, t == 9, c with
    | true, _, 0 => some (.int (w.2.1 q b))
    | true, _, 1 => some (va_rf (w.2.2.2 q b))
    | true, _, 2 => some (va_rf (rs.getD b none))
    | _, true, 3 => some (.ref n)
    | _, true, 4 => some (.int 0)
    | _, _, _ => none
  | none => none
/-- a field written: as above; 5: a boolean -/
def mm_pf (w : mm_W) (q a b c : Nat) (v : Value) : Option mm_W := match w.1[q]? with
  | some (t, n, f, rs) => match t == 0 && n == a, c, v with
    | true, 0, .int x => some (w.1, mm_sI w.2 q (upd (w.2.1 q) b x))
    | true, 5, .int x => if x = 0 ∨ x = 1 then some (w.1, mm_sI w.2 q (upd (w.2.1 q) b x)) else none
    | true, 1, .ref x => some (w.1, mm_sR w.2 q (va_up (w.2.2.2 q) b (some x)))
    | true, 1, .null => some (w.1, mm_sR w.2 q (va_up (w.2.2.2 q) b none))
    | true, 2, .ref x => match Nat.blt b rs.length with
      | true => some (w.1.set q (t, n, f, rs.set b (some x)), w.2)
      | _ => none
    | _, _, _ => none
  | none => none
def mm_i1 (st : List Value) (g : Int32 → Option Value) : Option (List Value) := match st with
  | .int x :: s => match g x with
    | some v => some (v :: s)
    | none => none
  | _ => none
def mm_i2 (st : List Value) (g : Int32 → Int32 → Option Value) : Option (List Value) := match st with
  | .int y :: .int x :: s => match g x y with
    | some v => some (v :: s)
    | none => none
  | _ => none
def mm_j2 (st : List Value) (g : Int64 → Int64 → Option Value) : Option (List Value) := match st with
  | .long y :: .long x :: s => match g x y with
    | some v => some (v :: s)
    | none => none
  | _ => none
/-- what only changes the operands -/
def mm_op (r : mm_R) (st : List Value) : Option (List Value) := match r.1 with
  | .iconst _ => some (.int r.2.2.2.1.1 :: st)
  | .bipush _ => some (.int r.2.2.2.1.1 :: st)
  | .sipush _ => some (.int r.2.2.2.1.1 :: st)
  | .ldc _ => match r.2.2.1.2.2 with
    | 0 => some (.int r.2.2.2.1.1 :: st)
    | _ => some (.ref r.2.2.1.1 :: st)
  | .ldc_w _ => some (.int r.2.2.2.1.1 :: st)
  | .ldc2_w _ => some (.long r.2.2.2.1.2 :: st)
  | .lconst _ => some (.long r.2.2.2.1.2 :: st)
  | .getstatic _ => match r.2.2.1.2.2 with
    | 0 => some (.int r.2.2.2.1.1 :: st)
    | _ => some (.ref r.2.2.1.1 :: st)
  | .iadd => mm_i2 st (fun x y => some (.int (x + y)))
  | .isub => mm_i2 st (fun x y => some (.int (x - y)))
  | .imul => mm_i2 st (fun x y => some (.int (x * y)))
  | .iand => mm_i2 st (fun x y => some (.int (x &&& y)))
  | .ior => mm_i2 st (fun x y => some (.int (x ||| y)))
  | .ixor => mm_i2 st (fun x y => some (.int (x ^^^ y)))
  | .ishl => mm_i2 st (fun x y => some (.int (x <<< (y &&& 31))))
  | .ishr => mm_i2 st (fun x y => some (.int (x >>> (y &&& 31))))
  | .iushr => mm_i2 st (fun x y => some (.int (x.toUInt32 >>> (y.toUInt32 &&& Int32.toUInt32 31)).toInt32))
  | .idiv => mm_i2 st (fun x y => if y = 0 then none else some (.int (x / y)))
  | .irem => mm_i2 st (fun x y => if y = 0 then none else some (.int (x - x / y * y)))
  | .ineg => mm_i1 st (fun x => some (.int (-x)))
  | .i2l => mm_i1 st (fun x => some (.long x.toInt64))
  | .i2b => mm_i1 st (fun x => some (.int x.toInt8.toInt32))
  | .i2s => mm_i1 st (fun x => some (.int x.toInt16.toInt32))
  | .i2c => mm_i1 st (fun x => some (.int (x.toUInt32 % 65536).toInt32))
  | .ladd => mm_j2 st (fun x y => some (.long (x + y)))
  | .land => mm_j2 st (fun x y => some (.long (x &&& y)))
  | .lor => mm_j2 st (fun x y => some (.long (x ||| y)))
  | .lxor => mm_j2 st (fun x y => some (.long (x ^^^ y)))
  | .ldiv => mm_j2 st (fun x y => if y = 0 then none else some (.long (x / y)))
  | .lrem => mm_j2 st (fun x y => if y = 0 then none else some (.long (x - x / y * y)))
  | .lcmp => mm_j2 st (fun x y => some (.int (lg_cmp x y)))
  | .lneg => match st with
    | .long x :: s => some (.long (-x) :: s)
    | _ => none
  | .l2i => match st with
    | .long x :: s => some (.int x.toInt32 :: s)
    | _ => none
  | .lshl => match st with
    | .int y :: .long x :: s => some (.long (x <<< (y.toInt64 &&& 63)) :: s)
    | _ => none
  | .lshr => match st with
    | .int y :: .long x :: s => some (.long (x >>> (y.toInt64 &&& 63)) :: s)
    | _ => none
  | .dup => match st with
    | .int x :: s => some (.int x :: .int x :: s)
    | .ref x :: s => some (.ref x :: .ref x :: s)
    | _ => none
  | .pop => match st with
    | .int _ :: s => some s
    | .ref _ :: s => some s
    | _ => none
  | .dup_x1 => match st with
    | .int x :: .ref y :: s => some (.int x :: .ref y :: .int x :: s)
    | _ => none
  | .dup2 => match st with
    | .int x :: .ref y :: s => some (.int x :: .ref y :: .int x :: .ref y :: s)
    | _ => none
  | _ => none
/-- where it goes on, what is left of the operands -/
def mm_jp (r : mm_R) (i : Nat) (st : List Value) : Option (Nat × List Value) := match r.1 with
  | .goto _ => some (r.2.2.1.2.1, st)
  | .ifCond cd _ => match st with
    | .int x :: s => match cd with
      | .eq => some (if x = 0 then r.2.2.1.2.1 else i + 1, s)
      | .ne => some (if x = 0 then i + 1 else r.2.2.1.2.1, s)
      | .lt => some (if x < 0 then r.2.2.1.2.1 else i + 1, s)
      | .ge => some (if 0 ≤ x then r.2.2.1.2.1 else i + 1, s)
      | .gt => some (if 0 < x then r.2.2.1.2.1 else i + 1, s)
      | .le => some (if x ≤ 0 then r.2.2.1.2.1 else i + 1, s)
    | _ => none
  | .if_icmp cd _ => match st with
    | .int y :: .int x :: s => match cd with
      | .eq => some (if x = y then r.2.2.1.2.1 else i + 1, s)
      | .ne => some (if x = y then i + 1 else r.2.2.1.2.1, s)
      | .lt => some (if x < y then r.2.2.1.2.1 else i + 1, s)
      | .ge => some (if y ≤ x then r.2.2.1.2.1 else i + 1, s)
      | .gt => some (if y < x then r.2.2.1.2.1 else i + 1, s)
      | .le => some (if x ≤ y then r.2.2.1.2.1 else i + 1, s)
    | _ => none
  | .ifnonnull _ => match st with
    | .ref x :: s => match x == 13 with
      | false => some (r.2.2.1.2.1, s)
      | _ => none
    | .null :: s => some (i + 1, s)
    | _ => none
  | .tableswitch _ _ _ _ => match st with
    | .int x :: s => some (mm_sw r.2.2.2.2 r.2.2.1.2.1 x, s)
    | _ => none
  | .lookupswitch _ _ => match st with
    | .int x :: s => some (mm_sw r.2.2.2.2 r.2.2.1.2.1 x, s)
    | _ => none
  | _ => none
/-- what reads and writes the method's own places -/
def mm_lo (r : mm_R) (L : mm_L) (st : List Value) : Option (mm_L × List Value) := match r.1 with
  | .iload _ => match mm_ld L r.2.2.1.1 with
    | some (.int x) => some (L, .int x :: st)
    | _ => none
  | .iload_n _ => match mm_ld L r.2.2.1.1 with
    | some (.int x) => some (L, .int x :: st)
    | _ => none
  | .lload _ => match mm_ld L r.2.2.1.1 with
    | some (.long x) => some (L, .long x :: st)
    | _ => none
  | .lload_n _ => match mm_ld L r.2.2.1.1 with
    | some (.long x) => some (L, .long x :: st)
    | _ => none
  | .aload _ => match mm_ld L r.2.2.1.1 with
    | some (.ref x) => some (L, .ref x :: st)
    | _ => none
  | .aload_n _ => match mm_ld L r.2.2.1.1 with
    | some (.ref x) => some (L, .ref x :: st)
    | _ => none
  | .istore _ => match st with
    | .int x :: s => match mm_st1 L r.2.2.1.1 (.int x) with
      | some L' => some (L', s)
      | none => none
    | _ => none
  | .istore_n _ => match st with
    | .int x :: s => match mm_st1 L r.2.2.1.1 (.int x) with
      | some L' => some (L', s)
      | none => none
    | _ => none
  | .lstore _ => match st with
    | .long x :: s => match mm_st2 L r.2.2.1.1 (.long x) with
      | some L' => some (L', s)
      | none => none
    | _ => none
  | .astore _ => match st with
    | .ref x :: s => match mm_st1 L r.2.2.1.1 (.ref x) with
      | some L' => some (L', s)
      | none => none
    | _ => none
  | .astore_n _ => match st with
    | .ref x :: s => match mm_st1 L r.2.2.1.1 (.ref x) with
      | some L' => some (L', s)
      | none => none
    | _ => none
  | .iinc _ _ => match mm_ld L r.2.2.1.1 with
    | some (.int x) => match mm_st1 L r.2.2.1.1 (.int (x + r.2.2.2.1.1)) with
      | some L' => some (L', st)
      | none => none
    | _ => none
  | _ => none
/-- what reads and writes cells -/
def mm_he (r : mm_R) (st : List Value) (w : mm_W) : Option (List Value × mm_W) := match r.1 with
  | .getfield _ => match st with
    | .ref q :: s => match mm_gf w q r.2.2.1.1 r.2.2.1.2.1 r.2.2.1.2.2 with
      | some v => some (v :: s, w)
      | none => none
    | _ => none
  | .putfield _ => match st with
    | v :: .ref q :: s => match mm_pf w q r.2.2.1.1 r.2.2.1.2.1 r.2.2.1.2.2 v with
      | some w' => some (s, w')
      | none => none
    | _ => none
  | .iaload => match st with
    | .int j :: .ref q :: s => match mm_ial w q j with
      | some x => some (.int x :: s, w)
      | none => none
    | _ => none
  | .baload => match st with
    | .int j :: .ref q :: s => match mm_bal w q j with
      | some x => some (.int x :: s, w)
      | none => none
    | _ => none
  | .laload => match st with
    | .int j :: .ref q :: s => match mm_lal w q j with
      | some x => some (.long x :: s, w)
      | none => none
    | _ => none
  | .aaload => match st with
    | .int j :: .ref q :: s => match mm_aal w q j with
      | some x => some (x :: s, w)
      | none => none
    | _ => none
  | .iastore => match st with
    | .int x :: .int j :: .ref q :: s => match mm_ias w q j x with
      | some w' => some (s, w')
      | none => none
    | _ => none
  | .bastore => match st with
    | .int x :: .int j :: .ref q :: s => match mm_bas w q j x with
      | some w' => some (s, w')
      | none => none
    | _ => none
  | .lastore => match st with
    | .long x :: .int j :: .ref q :: s => match mm_las w q j x with
      | some w' => some (s, w')
      | none => none
    | _ => none
  | .aastore => match st with
    | .ref x :: .int j :: .ref q :: s => match mm_aas w q j x with
      | some w' => some (s, w')
      | none => none
    | _ => none
  | .arraylength => match st with
    | .ref q :: s => match mm_len w q with
      | some x => some (.int x :: s, w)
      | none => none
    | _ => none
  | .new _ => some (.ref w.1.length :: st, mm_new w (0, r.2.2.1.1, (fun _ => 0), List.replicate (mm_N.getD r.2.2.1.1 0) none))
  | .newarray _ => match st with
    | .int n :: s => if n < 0 ∨ 100000 < n.toNatClampNeg then none else some (.ref w.1.length :: s, mm_new w (r.2.2.1.1, n.toNatClampNeg, (fun _ => 0), []))
    | _ => none
  | .anewarray _ => match st with
    | .int n :: s => if n < 0 ∨ 100000 < n.toNatClampNeg then none else some (.ref w.1.length :: s, mm_new w (r.2.2.1.1, n.toNatClampNeg, (fun _ => 0), List.replicate n.toNatClampNeg none))
    | _ => none
  | .invokespecial _ => match r.2.2.1.2.2, st with
    | 4, .ref x :: s => match Nat.ble (mm_wd s) 8 && !(x == 13) with
      | true => some (s, w)
      | _ => none
    | _, _ => none
  | .invokestatic _ => match r.2.2.1.2.2 with
    | 5 => mm_cp st w
    | 6 => match st with
      | .int y :: .int x :: s => match Nat.ble (mm_wd s) 8 with
        | true => some (.int (if x < y then y else x) :: s, w)
        | _ => none
      | _ => none
    | 7 => match st with
      | .int y :: .int x :: s => match Nat.ble (mm_wd s) 8 with
        | true => some (.int (if y < x then y else x) :: s, w)
        | _ => none
      | _ => none
    | 8 => match st with
      | .long x :: s => match Nat.ble (mm_wd s) 8 with
        | true => some (.long (if 0 < x then x else -x) :: s, w)
        | _ => none
      | _ => none
    | _ => none
  | _ => none
/-- one instruction that is no call and no end -/
def mm_stp (r : mm_R) (i : Nat) (L : mm_L) (st : List Value) (w : mm_W) : Option mm_C :=
  match mm_op r st with
  | some st' => some (i + 1, L, st', w)
  | none => match mm_lo r L st with
    | some (L', st') => some (i + 1, L', st', w)
    | none => match mm_jp r i st with
      | some (i', st') => some (i', L, st', w)
      | none => match mm_he r st w with
        | some (st', w') => some (i + 1, L, st', w')
        | none => none
/-- an end -/
def mm_ret (r : mm_R) (st : List Value) : Option (Option Value) := match r.1 with
  | .ireturn => match st with
    | [.int x] => match r.2.2.1.1 with
      | 0 => some (some (.int x))
      | 1 => if x = 0 ∨ x = 1 then some (some (.int x)) else none
      | 2 => if vp_nar .char x = x then some (some (.int x)) else none
      | _ => if vp_nar .byte x = x then some (some (.int x)) else none
    | _ => none
  | .lreturn => match st with
    | [.long x] => some (some (.long x))
    | _ => none
  | .areturn => match st with
    | [.ref x] => some (some (.ref x))
    | _ => none
  | .return_ => match st with
    | [] => some none
    | _ => none
  | _ => none
/-- a call: whom, with what, what is left: the row's a, b (how many values), c (0 static, 1 by the object, 2 a making, 3 a making of a nest mate) -/
def mm_cl (r : mm_R) (st : List Value) : Option (Nat × List Value × List Value) :=
  match Nat.ble r.2.2.1.2.1 st.length && Nat.ble (mm_wd (st.drop r.2.2.1.2.1)) 8, Nat.blt r.2.2.1.2.2 4 with
  | true, true => match r.1 with
    | .invokevirtual _ => some (r.2.2.1.1, (st.take r.2.2.1.2.1).reverse, st.drop r.2.2.1.2.1)
    | .invokestatic _ => some (r.2.2.1.1, (st.take r.2.2.1.2.1).reverse, st.drop r.2.2.1.2.1)
    | .invokespecial _ => some (r.2.2.1.1, (st.take r.2.2.1.2.1).reverse, st.drop r.2.2.1.2.1)
    | _ => none
  | _, _ => none
def mm_sl : List Value → mm_L
  | [] => []
  | .long x :: r => some (.long x) :: none :: mm_sl r
  | .double x :: r => some (.double x) :: none :: mm_sl r
  | v :: r => some v :: mm_sl r
def mm_ent (ml : Nat) (as : List Value) : mm_L := mm_sl as ++ List.replicate (ml - (mm_sl as).length) none
end
section
/-- 0: java/util/Arrays.fill([II)V -/
def mm_r0_0 : List mm_R := [
  (.iconst 0, (0, 1), (0, 0, 0), (0, 0), []),
  (.istore_n 2, (1, 1), (2, 0, 0), (0, 0), []),
  (.aload_n 0, (2, 1), (0, 0, 0), (0, 0), []),
  (.arraylength, (3, 1), (0, 0, 0), (0, 0), []),
  (.istore_n 3, (4, 1), (3, 0, 0), (0, 0), []),
  (.iload_n 2, (5, 1), (2, 0, 0), (0, 0), []),
  (.iload_n 3, (6, 1), (3, 0, 0), (0, 0), []),
  (.if_icmp .ge 13, (7, 3), (0, 14, 0), (0, 0), []),
  (.aload_n 0, (10, 1), (0, 0, 0), (0, 0), []),
  (.iload_n 2, (11, 1), (2, 0, 0), (0, 0), []),
  (.iload_n 1, (12, 1), (1, 0, 0), (0, 0), []),
  (.iastore, (13, 1), (0, 0, 0), (0, 0), []),
  (.iinc 2 1, (14, 3), (2, 0, 0), (1, 0), []),
  (.goto (-12), (17, 3), (0, 5, 0), (0, 0), []),
  (.return_, (20, 1), (0, 0, 0), (0, 0), [])]
def mm_r0 : List (List mm_R) := [mm_r0_0]
/-- 1: java/util/Arrays.fill([JJ)V -/
def mm_r1_0 : List mm_R := [
  (.iconst 0, (0, 1), (0, 0, 0), (0, 0), []),
  (.istore_n 3, (1, 1), (3, 0, 0), (0, 0), []),
  (.aload_n 0, (2, 1), (0, 0, 0), (0, 0), []),
  (.arraylength, (3, 1), (0, 0, 0), (0, 0), []),
  (.istore 4, (4, 2), (4, 0, 0), (0, 0), []),
  (.iload_n 3, (6, 1), (3, 0, 0), (0, 0), []),
  (.iload 4, (7, 2), (4, 0, 0), (0, 0), []),
  (.if_icmp .ge 13, (9, 3), (0, 14, 0), (0, 0), []),
  (.aload_n 0, (12, 1), (0, 0, 0), (0, 0), []),
  (.iload_n 3, (13, 1), (3, 0, 0), (0, 0), []),
  (.lload_n 1, (14, 1), (1, 0, 0), (0, 0), []),
  (.lastore, (15, 1), (0, 0, 0), (0, 0), []),
  (.iinc 3 1, (16, 3), (3, 0, 0), (1, 0), []),
  (.goto (-13), (19, 3), (0, 5, 0), (0, 0), []),
  (.return_, (22, 1), (0, 0, 0), (0, 0), [])]
def mm_r1 : List (List mm_R) := [mm_r1_0]
/-- 2: java/lang/Math.min(II)I -/
def mm_r2_0 : List mm_R := [
  (.iload_n 0, (0, 1), (0, 0, 0), (0, 0), []),
  (.iload_n 1, (1, 1), (1, 0, 0), (0, 0), []),
  (.if_icmp .gt 7, (2, 3), (0, 5, 0), (0, 0), []),
  (.iload_n 0, (5, 1), (0, 0, 0), (0, 0), []),
  (.goto 4, (6, 3), (0, 6, 0), (0, 0), []),
  (.iload_n 1, (9, 1), (1, 0, 0), (0, 0), []),
  (.ireturn, (10, 1), (0, 0, 0), (0, 0), [])]
def mm_r2 : List (List mm_R) := [mm_r2_0]
/-- 3: java/lang/Math.max(II)I -/
def mm_r3_0 : List mm_R := [
  (.iload_n 0, (0, 1), (0, 0, 0), (0, 0), []),
  (.iload_n 1, (1, 1), (1, 0, 0), (0, 0), []),
  (.if_icmp .lt 7, (2, 3), (0, 5, 0), (0, 0), []),
  (.iload_n 0, (5, 1), (0, 0, 0), (0, 0), []),
  (.goto 4, (6, 3), (0, 6, 0), (0, 0), []),
  (.iload_n 1, (9, 1), (1, 0, 0), (0, 0), []),
  (.ireturn, (10, 1), (0, 0, 0), (0, 0), [])]
def mm_r3 : List (List mm_R) := [mm_r3_0]
/-- 4: java/lang/Math.abs(J)J -/
def mm_r4_0 : List mm_R := [
  (.lload_n 0, (0, 1), (0, 0, 0), (0, 0), []),
  (.lconst 0, (1, 1), (0, 0, 0), (0, 0), []),
  (.lcmp, (2, 1), (0, 0, 0), (0, 0), []),
  (.ifCond .ge 8, (3, 3), (0, 7, 0), (0, 0), []),
  (.lload_n 0, (6, 1), (0, 0, 0), (0, 0), []),
  (.lneg, (7, 1), (0, 0, 0), (0, 0), []),
  (.goto 4, (8, 3), (0, 8, 0), (0, 0), []),
  (.lload_n 0, (11, 1), (0, 0, 0), (0, 0), []),
  (.lreturn, (12, 1), (0, 0, 0), (0, 0), [])]
def mm_r4 : List (List mm_R) := [mm_r4_0]
/-- 5: java/lang/Integer.bitCount(I)I -/
def mm_r5_0 : List mm_R := [
  (.iload_n 0, (0, 1), (0, 0, 0), (0, 0), []),
  (.iload_n 0, (1, 1), (0, 0, 0), (0, 0), []),
  (.iconst 1, (2, 1), (0, 0, 0), (1, 0), []),
  (.iushr, (3, 1), (0, 0, 0), (0, 0), []),
  (.ldc_w 265, (4, 3), (0, 0, 0), (1431655765, 0), []),
  (.iand, (7, 1), (0, 0, 0), (0, 0), []),
  (.isub, (8, 1), (0, 0, 0), (0, 0), []),
  (.istore_n 0, (9, 1), (0, 0, 0), (0, 0), []),
  (.iload_n 0, (10, 1), (0, 0, 0), (0, 0), []),
  (.ldc_w 266, (11, 3), (0, 0, 0), (858993459, 0), []),
  (.iand, (14, 1), (0, 0, 0), (0, 0), []),
  (.iload_n 0, (15, 1), (0, 0, 0), (0, 0), []),
  (.iconst 2, (16, 1), (0, 0, 0), (2, 0), []),
  (.iushr, (17, 1), (0, 0, 0), (0, 0), []),
  (.ldc_w 266, (18, 3), (0, 0, 0), (858993459, 0), []),
  (.iand, (21, 1), (0, 0, 0), (0, 0), []),
  (.iadd, (22, 1), (0, 0, 0), (0, 0), []),
  (.istore_n 0, (23, 1), (0, 0, 0), (0, 0), []),
  (.iload_n 0, (24, 1), (0, 0, 0), (0, 0), []),
  (.iload_n 0, (25, 1), (0, 0, 0), (0, 0), []),
  (.iconst 4, (26, 1), (0, 0, 0), (4, 0), []),
  (.iushr, (27, 1), (0, 0, 0), (0, 0), []),
  (.iadd, (28, 1), (0, 0, 0), (0, 0), []),
  (.ldc_w 267, (29, 3), (0, 0, 0), (252645135, 0), []),
  (.iand, (32, 1), (0, 0, 0), (0, 0), []),
  (.istore_n 0, (33, 1), (0, 0, 0), (0, 0), []),
  (.iload_n 0, (34, 1), (0, 0, 0), (0, 0), []),
  (.iload_n 0, (35, 1), (0, 0, 0), (0, 0), []),
  (.bipush 8, (36, 2), (0, 0, 0), (8, 0), []),
  (.iushr, (38, 1), (0, 0, 0), (0, 0), []),
  (.iadd, (39, 1), (0, 0, 0), (0, 0), []),
  (.istore_n 0, (40, 1), (0, 0, 0), (0, 0), [])]
def mm_r5_1 : List mm_R := [
  (.iload_n 0, (41, 1), (0, 0, 0), (0, 0), []),
  (.iload_n 0, (42, 1), (0, 0, 0), (0, 0), []),
  (.bipush 16, (43, 2), (0, 0, 0), (16, 0), []),
  (.iushr, (45, 1), (0, 0, 0), (0, 0), []),
  (.iadd, (46, 1), (0, 0, 0), (0, 0), []),
  (.istore_n 0, (47, 1), (0, 0, 0), (0, 0), []),
  (.iload_n 0, (48, 1), (0, 0, 0), (0, 0), []),
  (.bipush 63, (49, 2), (0, 0, 0), (63, 0), []),
  (.iand, (51, 1), (0, 0, 0), (0, 0), []),
  (.ireturn, (52, 1), (0, 0, 0), (0, 0), [])]
def mm_r5 : List (List mm_R) := [mm_r5_0, mm_r5_1]
/-- 6: java/lang/String.length()I -/
def mm_r6_0 : List mm_R := [
  (.aload_n 0, (0, 1), (0, 0, 0), (0, 0), []),
  (.getfield 9, (1, 3), (0, 0, 3), (0, 0), []),
  (.arraylength, (4, 1), (0, 0, 0), (0, 0), []),
  (.aload_n 0, (5, 1), (0, 0, 0), (0, 0), []),
  (.invokevirtual 335, (6, 3), (7, 1, 1), (0, 0), []),
  (.ishr, (9, 1), (0, 0, 0), (0, 0), []),
  (.ireturn, (10, 1), (0, 0, 0), (0, 0), [])]
def mm_r6 : List (List mm_R) := [mm_r6_0]
/-- 7: java/lang/String.coder()B -/
def mm_r7_0 : List mm_R := [
  (.getstatic 38, (0, 3), (0, 0, 0), (1, 0), []),
  (.ifCond .eq 10, (3, 3), (0, 5, 0), (0, 0), []),
  (.aload_n 0, (6, 1), (0, 0, 0), (0, 0), []),
  (.getfield 15, (7, 3), (0, 0, 4), (0, 0), []),
  (.goto 4, (10, 3), (0, 6, 0), (0, 0), []),
  (.iconst 1, (13, 1), (0, 0, 0), (1, 0), []),
  (.ireturn, (14, 1), (3, 0, 0), (0, 0), [])]
def mm_r7 : List (List mm_R) := [mm_r7_0]
/-- 8: java/lang/String.charAt(I)C -/
def mm_r8_0 : List mm_R := [
  (.aload_n 0, (0, 1), (0, 0, 0), (0, 0), []),
  (.invokevirtual 492, (1, 3), (9, 1, 1), (0, 0), []),
  (.ifCond .eq 12, (4, 3), (0, 8, 0), (0, 0), []),
  (.aload_n 0, (7, 1), (0, 0, 0), (0, 0), []),
  (.getfield 9, (8, 3), (0, 0, 3), (0, 0), []),
  (.iload_n 1, (11, 1), (1, 0, 0), (0, 0), []),
  (.invokestatic 495, (12, 3), (13, 2, 0), (0, 0), []),
  (.ireturn, (15, 1), (2, 0, 0), (0, 0), []),
  (.aload_n 0, (16, 1), (0, 0, 0), (0, 0), []),
  (.getfield 9, (17, 3), (0, 0, 3), (0, 0), []),
  (.iload_n 1, (20, 1), (1, 0, 0), (0, 0), []),
  (.invokestatic 498, (21, 3), (0, 0, 9), (0, 0), []),
  (.ireturn, (24, 1), (2, 0, 0), (0, 0), [])]
def mm_r8 : List (List mm_R) := [mm_r8_0]
/-- 9: java/lang/String.isLatin1()Z -/
def mm_r9_0 : List mm_R := [
  (.getstatic 38, (0, 3), (0, 0, 0), (1, 0), []),
  (.ifCond .eq 14, (3, 3), (0, 7, 0), (0, 0), []),
  (.aload_n 0, (6, 1), (0, 0, 0), (0, 0), []),
  (.getfield 15, (7, 3), (0, 0, 4), (0, 0), []),
  (.ifCond .ne 7, (10, 3), (0, 7, 0), (0, 0), []),
  (.iconst 1, (13, 1), (0, 0, 0), (1, 0), []),
  (.goto 4, (14, 3), (0, 8, 0), (0, 0), []),
  (.iconst 0, (17, 1), (0, 0, 0), (0, 0), []),
  (.ireturn, (18, 1), (1, 0, 0), (0, 0), [])]
def mm_r9 : List (List mm_R) := [mm_r9_0]
/-- 10: java/lang/String.checkIndex(II)V -/
def mm_r10_0 : List mm_R := [
  (.iload_n 0, (0, 1), (0, 0, 0), (0, 0), []),
  (.iload_n 1, (1, 1), (1, 0, 0), (0, 0), []),
  (.getstatic 1053, (2, 3), (13, 0, 1), (0, 0), []),
  (.invokestatic 1059, (5, 3), (17, 3, 0), (0, 0), []),
  (.pop, (8, 1), (0, 0, 0), (0, 0), []),
  (.return_, (9, 1), (0, 0, 0), (0, 0), [])]
def mm_r10 : List (List mm_R) := [mm_r10_0]
/-- 11: java/lang/String.indexOf(I)I -/
def mm_r11_0 : List mm_R := [
  (.aload_n 0, (0, 1), (0, 0, 0), (0, 0), []),
  (.iload_n 1, (1, 1), (1, 0, 0), (0, 0), []),
  (.iconst 0, (2, 1), (0, 0, 0), (0, 0), []),
  (.invokevirtual 633, (3, 3), (12, 3, 1), (0, 0), []),
  (.ireturn, (6, 1), (0, 0, 0), (0, 0), [])]
def mm_r11 : List (List mm_R) := [mm_r11_0]
/-- 12: java/lang/String.indexOf(II)I -/
def mm_r12_0 : List mm_R := [
  (.aload_n 0, (0, 1), (0, 0, 0), (0, 0), []),
  (.invokevirtual 492, (1, 3), (9, 1, 1), (0, 0), []),
  (.ifCond .eq 19, (4, 3), (0, 11, 0), (0, 0), []),
  (.aload_n 0, (7, 1), (0, 0, 0), (0, 0), []),
  (.getfield 9, (8, 3), (0, 0, 3), (0, 0), []),
  (.iload_n 1, (11, 1), (1, 0, 0), (0, 0), []),
  (.iload_n 2, (12, 1), (2, 0, 0), (0, 0), []),
  (.aload_n 0, (13, 1), (0, 0, 0), (0, 0), []),
  (.invokevirtual 505, (14, 3), (6, 1, 1), (0, 0), []),
  (.invokestatic 637, (17, 3), (14, 4, 0), (0, 0), []),
  (.goto 16, (20, 3), (0, 18, 0), (0, 0), []),
  (.aload_n 0, (23, 1), (0, 0, 0), (0, 0), []),
  (.getfield 9, (24, 3), (0, 0, 3), (0, 0), []),
  (.iload_n 1, (27, 1), (1, 0, 0), (0, 0), []),
  (.iload_n 2, (28, 1), (2, 0, 0), (0, 0), []),
  (.aload_n 0, (29, 1), (0, 0, 0), (0, 0), []),
  (.invokevirtual 505, (30, 3), (6, 1, 1), (0, 0), []),
  (.invokestatic 640, (33, 3), (0, 0, 9), (0, 0), []),
  (.ireturn, (36, 1), (0, 0, 0), (0, 0), [])]
def mm_r12 : List (List mm_R) := [mm_r12_0]
/-- 13: java/lang/StringLatin1.charAt([BI)C -/
def mm_r13_0 : List mm_R := [
  (.iload_n 1, (0, 1), (1, 0, 0), (0, 0), []),
  (.aload_n 0, (1, 1), (0, 0, 0), (0, 0), []),
  (.arraylength, (2, 1), (0, 0, 0), (0, 0), []),
  (.invokestatic 9, (3, 3), (10, 2, 0), (0, 0), []),
  (.aload_n 0, (6, 1), (0, 0, 0), (0, 0), []),
  (.iload_n 1, (7, 1), (1, 0, 0), (0, 0), []),
  (.baload, (8, 1), (0, 0, 0), (0, 0), []),
  (.sipush 255, (9, 3), (0, 0, 0), (255, 0), []),
  (.iand, (12, 1), (0, 0, 0), (0, 0), []),
  (.i2c, (13, 1), (0, 0, 0), (0, 0), []),
  (.ireturn, (14, 1), (2, 0, 0), (0, 0), [])]
def mm_r13 : List (List mm_R) := [mm_r13_0]
/-- 14: java/lang/StringLatin1.indexOf([BIII)I -/
def mm_r14_0 : List mm_R := [
  (.iload_n 1, (0, 1), (1, 0, 0), (0, 0), []),
  (.invokestatic 88, (1, 3), (15, 1, 0), (0, 0), []),
  (.ifCond .ne 5, (4, 3), (0, 5, 0), (0, 0), []),
  (.iconst (-1), (7, 1), (0, 0, 0), ((-1), 0), []),
  (.ireturn, (8, 1), (0, 0, 0), (0, 0), []),
  (.iload_n 2, (9, 1), (2, 0, 0), (0, 0), []),
  (.iconst 0, (10, 1), (0, 0, 0), (0, 0), []),
  (.invokestatic 92, (11, 3), (0, 0, 6), (0, 0), []),
  (.istore_n 2, (14, 1), (2, 0, 0), (0, 0), []),
  (.iload_n 3, (15, 1), (3, 0, 0), (0, 0), []),
  (.aload_n 0, (16, 1), (0, 0, 0), (0, 0), []),
  (.arraylength, (17, 1), (0, 0, 0), (0, 0), []),
  (.invokestatic 38, (18, 3), (0, 0, 7), (0, 0), []),
  (.istore_n 3, (21, 1), (3, 0, 0), (0, 0), []),
  (.iload_n 2, (22, 1), (2, 0, 0), (0, 0), []),
  (.iload_n 3, (23, 1), (3, 0, 0), (0, 0), []),
  (.if_icmp .lt 5, (24, 3), (0, 19, 0), (0, 0), []),
  (.iconst (-1), (27, 1), (0, 0, 0), ((-1), 0), []),
  (.ireturn, (28, 1), (0, 0, 0), (0, 0), []),
  (.aload_n 0, (29, 1), (0, 0, 0), (0, 0), []),
  (.iload_n 1, (30, 1), (1, 0, 0), (0, 0), []),
  (.iload_n 2, (31, 1), (2, 0, 0), (0, 0), []),
  (.iload_n 3, (32, 1), (3, 0, 0), (0, 0), []),
  (.invokestatic 95, (33, 3), (16, 4, 0), (0, 0), []),
  (.ireturn, (36, 1), (0, 0, 0), (0, 0), [])]
def mm_r14 : List (List mm_R) := [mm_r14_0]
/-- 15: java/lang/StringLatin1.canEncode(I)Z -/
def mm_r15_0 : List mm_R := [
  (.iload_n 0, (0, 1), (0, 0, 0), (0, 0), []),
  (.ifCond .lt 14, (1, 3), (0, 7, 0), (0, 0), []),
  (.iload_n 0, (4, 1), (0, 0, 0), (0, 0), []),
  (.sipush 255, (5, 3), (0, 0, 0), (255, 0), []),
  (.if_icmp .gt 7, (8, 3), (0, 7, 0), (0, 0), []),
  (.iconst 1, (11, 1), (0, 0, 0), (1, 0), []),
  (.goto 4, (12, 3), (0, 8, 0), (0, 0), []),
  (.iconst 0, (15, 1), (0, 0, 0), (0, 0), []),
  (.ireturn, (16, 1), (1, 0, 0), (0, 0), [])]
def mm_r15 : List (List mm_R) := [mm_r15_0]
/-- 16: java/lang/StringLatin1.indexOfChar([BIII)I -/
def mm_r16_0 : List mm_R := [
  (.iload_n 1, (0, 1), (1, 0, 0), (0, 0), []),
  (.i2b, (1, 1), (0, 0, 0), (0, 0), []),
  (.istore 4, (2, 2), (4, 0, 0), (0, 0), []),
  (.iload_n 2, (4, 1), (2, 0, 0), (0, 0), []),
  (.istore 5, (5, 2), (5, 0, 0), (0, 0), []),
  (.iload 5, (7, 2), (5, 0, 0), (0, 0), []),
  (.iload_n 3, (9, 1), (3, 0, 0), (0, 0), []),
  (.if_icmp .ge 21, (10, 3), (0, 17, 0), (0, 0), []),
  (.aload_n 0, (13, 1), (0, 0, 0), (0, 0), []),
  (.iload 5, (14, 2), (5, 0, 0), (0, 0), []),
  (.baload, (16, 1), (0, 0, 0), (0, 0), []),
  (.iload 4, (17, 2), (4, 0, 0), (0, 0), []),
  (.if_icmp .ne 6, (19, 3), (0, 15, 0), (0, 0), []),
  (.iload 5, (22, 2), (5, 0, 0), (0, 0), []),
  (.ireturn, (24, 1), (0, 0, 0), (0, 0), []),
  (.iinc 5 1, (25, 3), (5, 0, 0), (1, 0), []),
  (.goto (-21), (28, 3), (0, 5, 0), (0, 0), []),
  (.iconst (-1), (31, 1), (0, 0, 0), ((-1), 0), []),
  (.ireturn, (32, 1), (0, 0, 0), (0, 0), [])]
def mm_r16 : List (List mm_R) := [mm_r16_0]
/-- 17: jdk/internal/util/Preconditions.checkIndex(IILjava/util/function/BiFunction;)I -/
def mm_r17_0 : List mm_R := [
  (.iload_n 0, (0, 1), (0, 0, 0), (0, 0), []),
  (.ifCond .lt 8, (1, 3), (0, 5, 0), (0, 0), []),
  (.iload_n 0, (4, 1), (0, 0, 0), (0, 0), []),
  (.iload_n 1, (5, 1), (1, 0, 0), (0, 0), []),
  (.if_icmp .lt 10, (6, 3), (0, 10, 0), (0, 0), []),
  (.aload_n 2, (9, 1), (2, 0, 0), (0, 0), []),
  (.iload_n 0, (10, 1), (0, 0, 0), (0, 0), []),
  (.iload_n 1, (11, 1), (1, 0, 0), (0, 0), []),
  (.invokestatic 95, (12, 3), (0, 0, 9), (0, 0), []),
  (.athrow, (15, 1), (0, 0, 0), (0, 0), []),
  (.iload_n 0, (16, 1), (0, 0, 0), (0, 0), []),
  (.ireturn, (17, 1), (0, 0, 0), (0, 0), [])]
def mm_r17 : List (List mm_R) := [mm_r17_0]
/-- 18: GlobeCorner$Acts.<init>()V -/
def mm_r18_0 : List mm_R := [
  (.aload_n 0, (0, 1), (0, 0, 0), (0, 0), []),
  (.invokespecial 3, (1, 3), (0, 0, 4), (0, 0), []),
  (.aload_n 0, (4, 1), (0, 0, 0), (0, 0), []),
  (.bipush 20, (5, 2), (0, 0, 0), (20, 0), []),
  (.newarray .int, (7, 2), (1, 0, 0), (0, 0), []),
  (.putfield 9, (9, 3), (0, 0, 2), (0, 0), []),
  (.return_, (12, 1), (0, 0, 0), (0, 0), [])]
def mm_r18 : List (List mm_R) := [mm_r18_0]
/-- 19: GlobeCorner$Acts.forget()V -/
def mm_r19_0 : List mm_R := [
  (.aload_n 0, (0, 1), (0, 0, 0), (0, 0), []),
  (.iconst 0, (1, 1), (0, 0, 0), (0, 0), []),
  (.putfield 15, (2, 3), (0, 1, 0), (0, 0), []),
  (.return_, (5, 1), (0, 0, 0), (0, 0), [])]
def mm_r19 : List (List mm_R) := [mm_r19_0]
/-- 20: GlobeCorner$Acts.begin(LGlobeCorner$Globe;III)I -/
def mm_r20_0 : List mm_R := [
  (.aload_n 0, (0, 1), (0, 0, 0), (0, 0), []),
  (.aload_n 1, (1, 1), (1, 0, 0), (0, 0), []),
  (.getfield 25, (2, 3), (2, 4, 2), (0, 0), []),
  (.iload_n 2, (5, 1), (2, 0, 0), (0, 0), []),
  (.iaload, (6, 1), (0, 0, 0), (0, 0), []),
  (.putfield 30, (7, 3), (0, 2, 0), (0, 0), []),
  (.aload_n 0, (10, 1), (0, 0, 0), (0, 0), []),
  (.iload_n 2, (11, 1), (2, 0, 0), (0, 0), []),
  (.putfield 32, (12, 3), (0, 3, 0), (0, 0), []),
  (.aload_n 0, (15, 1), (0, 0, 0), (0, 0), []),
  (.aload_n 1, (16, 1), (1, 0, 0), (0, 0), []),
  (.getfield 35, (17, 3), (2, 5, 2), (0, 0), []),
  (.iload_n 2, (20, 1), (2, 0, 0), (0, 0), []),
  (.iaload, (21, 1), (0, 0, 0), (0, 0), []),
  (.putfield 38, (22, 3), (0, 4, 0), (0, 0), []),
  (.aload_n 0, (25, 1), (0, 0, 0), (0, 0), []),
  (.aload_n 0, (26, 1), (0, 0, 0), (0, 0), []),
  (.getfield 30, (27, 3), (0, 2, 0), (0, 0), []),
  (.iload_n 3, (30, 1), (3, 0, 0), (0, 0), []),
  (.iload 4, (31, 2), (4, 0, 0), (0, 0), []),
  (.iconst 0, (33, 1), (0, 0, 0), (0, 0), []),
  (.invokevirtual 40, (34, 3), (21, 5, 1), (0, 0), []),
  (.ireturn, (37, 1), (0, 0, 0), (0, 0), [])]
def mm_r20 : List (List mm_R) := [mm_r20_0]
/-- 21: GlobeCorner$Acts.run(IIII)I -/
def mm_r21_0 : List mm_R := [
  (.iload_n 1, (0, 1), (1, 0, 0), (0, 0), []),
  (.istore 5, (1, 2), (5, 0, 0), (0, 0), []),
  (.iconst 0, (3, 1), (0, 0, 0), (0, 0), []),
  (.istore 6, (4, 2), (6, 0, 0), (0, 0), []),
  (.iload 6, (6, 2), (6, 0, 0), (0, 0), []),
  (.bipush 7, (8, 2), (0, 0, 0), (7, 0), []),
  (.if_icmp .ge 35, (10, 3), (0, 23, 0), (0, 0), []),
  (.iload 5, (13, 2), (5, 0, 0), (0, 0), []),
  (.ifCond .le 30, (15, 3), (0, 23, 0), (0, 0), []),
  (.getstatic 44, (18, 3), (2, 0, 1), (0, 0), []),
  (.iload 5, (21, 2), (5, 0, 0), (0, 0), []),
  (.iconst 3, (23, 1), (0, 0, 0), (3, 0), []),
  (.imul, (24, 1), (0, 0, 0), (0, 0), []),
  (.iload_n 2, (25, 1), (2, 0, 0), (0, 0), []),
  (.iadd, (26, 1), (0, 0, 0), (0, 0), []),
  (.iaload, (27, 1), (0, 0, 0), (0, 0), []),
  (.ifCond .ne 17, (28, 3), (0, 23, 0), (0, 0), []),
  (.getstatic 47, (31, 3), (1, 0, 1), (0, 0), []),
  (.iload 5, (34, 2), (5, 0, 0), (0, 0), []),
  (.iaload, (36, 1), (0, 0, 0), (0, 0), []),
  (.istore 5, (37, 2), (5, 0, 0), (0, 0), []),
  (.iinc 6 1, (39, 3), (6, 0, 0), (1, 0), []),
  (.goto (-36), (42, 3), (0, 4, 0), (0, 0), []),
  (.iload 5, (45, 2), (5, 0, 0), (0, 0), []),
  (.ifCond .lt 10, (47, 3), (0, 28, 0), (0, 0), []),
  (.iload 4, (50, 2), (4, 0, 0), (0, 0), []),
  (.bipush 20, (52, 2), (0, 0, 0), (20, 0), []),
  (.if_icmp .le 5, (54, 3), (0, 30, 0), (0, 0), []),
  (.iconst 0, (57, 1), (0, 0, 0), (0, 0), []),
  (.ireturn, (58, 1), (0, 0, 0), (0, 0), []),
  (.getstatic 44, (59, 3), (2, 0, 1), (0, 0), []),
  (.iload 5, (62, 2), (5, 0, 0), (0, 0), [])]
def mm_r21_1 : List mm_R := [
  (.iconst 3, (64, 1), (0, 0, 0), (3, 0), []),
  (.imul, (65, 1), (0, 0, 0), (0, 0), []),
  (.iload_n 2, (66, 1), (2, 0, 0), (0, 0), []),
  (.iadd, (67, 1), (0, 0, 0), (0, 0), []),
  (.iaload, (68, 1), (0, 0, 0), (0, 0), []),
  (.istore 6, (69, 2), (6, 0, 0), (0, 0), []),
  (.aload_n 0, (71, 1), (0, 0, 0), (0, 0), []),
  (.getfield 15, (72, 3), (0, 1, 0), (0, 0), []),
  (.aload_n 0, (75, 1), (0, 0, 0), (0, 0), []),
  (.getfield 9, (76, 3), (0, 0, 2), (0, 0), []),
  (.arraylength, (79, 1), (0, 0, 0), (0, 0), []),
  (.if_icmp .ge 14, (80, 3), (0, 50, 0), (0, 0), []),
  (.aload_n 0, (83, 1), (0, 0, 0), (0, 0), []),
  (.getfield 9, (84, 3), (0, 0, 2), (0, 0), []),
  (.aload_n 0, (87, 1), (0, 0, 0), (0, 0), []),
  (.getfield 15, (88, 3), (0, 1, 0), (0, 0), []),
  (.iload 6, (91, 2), (6, 0, 0), (0, 0), []),
  (.iastore, (93, 1), (0, 0, 0), (0, 0), []),
  (.aload_n 0, (94, 1), (0, 0, 0), (0, 0), []),
  (.dup, (95, 1), (0, 0, 0), (0, 0), []),
  (.getfield 15, (96, 3), (0, 1, 0), (0, 0), []),
  (.iconst 1, (99, 1), (0, 0, 0), (1, 0), []),
  (.iadd, (100, 1), (0, 0, 0), (0, 0), []),
  (.putfield 15, (101, 3), (0, 1, 0), (0, 0), []),
  (.aload_n 0, (104, 1), (0, 0, 0), (0, 0), []),
  (.iload 6, (105, 2), (6, 0, 0), (0, 0), []),
  (.getstatic 47, (107, 3), (1, 0, 1), (0, 0), []),
  (.iload 5, (110, 2), (5, 0, 0), (0, 0), []),
  (.iaload, (112, 1), (0, 0, 0), (0, 0), []),
  (.iload_n 3, (113, 1), (3, 0, 0), (0, 0), []),
  (.iload 4, (114, 2), (4, 0, 0), (0, 0), []),
  (.iconst 1, (116, 1), (0, 0, 0), (1, 0), [])]
def mm_r21_2 : List mm_R := [
  (.iadd, (117, 1), (0, 0, 0), (0, 0), []),
  (.invokevirtual 50, (118, 3), (22, 5, 1), (0, 0), []),
  (.ireturn, (121, 1), (0, 0, 0), (0, 0), [])]
def mm_r21 : List (List mm_R) := [mm_r21_0, mm_r21_1, mm_r21_2]
/-- 22: GlobeCorner$Acts.answer(IIII)I -/
def mm_r22_0 : List mm_R := [
  (.iload_n 1, (0, 1), (1, 0, 0), (0, 0), []),
  (.lookupswitch 260 #[(10, 99), (11, 106), (12, 124), (20, 139), (30, 152), (40, 164), (50, 187), (51, 198), (60, 210), (70, 225), (71, 245)], (1, 99), (0, 112, 0), (0, 0), [(10, 2), (11, 7), (12, 18), (20, 28), (30, 37), (40, 46), (50, 61), (51, 69), (60, 78), (70, 88), (71, 102)]),
  (.iload_n 3, (100, 1), (3, 0, 0), (0, 0), []),
  (.aload_n 0, (101, 1), (0, 0, 0), (0, 0), []),
  (.getfield 32, (102, 3), (0, 3, 0), (0, 0), []),
  (.iadd, (105, 1), (0, 0, 0), (0, 0), []),
  (.ireturn, (106, 1), (0, 0, 0), (0, 0), []),
  (.aload_n 0, (107, 1), (0, 0, 0), (0, 0), []),
  (.aload_n 0, (108, 1), (0, 0, 0), (0, 0), []),
  (.getfield 30, (109, 3), (0, 2, 0), (0, 0), []),
  (.iconst 0, (112, 1), (0, 0, 0), (0, 0), []),
  (.iload_n 3, (113, 1), (3, 0, 0), (0, 0), []),
  (.iload 4, (114, 2), (4, 0, 0), (0, 0), []),
  (.invokevirtual 40, (116, 3), (21, 5, 1), (0, 0), []),
  (.aload_n 0, (119, 1), (0, 0, 0), (0, 0), []),
  (.getfield 38, (120, 3), (0, 4, 0), (0, 0), []),
  (.isub, (123, 1), (0, 0, 0), (0, 0), []),
  (.ireturn, (124, 1), (0, 0, 0), (0, 0), []),
  (.aload_n 0, (125, 1), (0, 0, 0), (0, 0), []),
  (.aload_n 0, (126, 1), (0, 0, 0), (0, 0), []),
  (.getfield 30, (127, 3), (0, 2, 0), (0, 0), []),
  (.iconst 1, (130, 1), (0, 0, 0), (1, 0), []),
  (.iload_n 3, (131, 1), (3, 0, 0), (0, 0), []),
  (.iload 4, (132, 2), (4, 0, 0), (0, 0), []),
  (.invokevirtual 40, (134, 3), (21, 5, 1), (0, 0), []),
  (.iconst 2, (137, 1), (0, 0, 0), (2, 0), []),
  (.imul, (138, 1), (0, 0, 0), (0, 0), []),
  (.ireturn, (139, 1), (0, 0, 0), (0, 0), []),
  (.aload_n 0, (140, 1), (0, 0, 0), (0, 0), []),
  (.iload_n 2, (141, 1), (2, 0, 0), (0, 0), []),
  (.iconst 1, (142, 1), (0, 0, 0), (1, 0), []),
  (.iload_n 3, (143, 1), (3, 0, 0), (0, 0), [])]
def mm_r22_1 : List mm_R := [
  (.iload 4, (144, 2), (4, 0, 0), (0, 0), []),
  (.invokevirtual 40, (146, 3), (21, 5, 1), (0, 0), []),
  (.bipush 6, (149, 2), (0, 0, 0), (6, 0), []),
  (.ixor, (151, 1), (0, 0, 0), (0, 0), []),
  (.ireturn, (152, 1), (0, 0, 0), (0, 0), []),
  (.aload_n 0, (153, 1), (0, 0, 0), (0, 0), []),
  (.iload_n 2, (154, 1), (2, 0, 0), (0, 0), []),
  (.iconst 0, (155, 1), (0, 0, 0), (0, 0), []),
  (.iload_n 3, (156, 1), (3, 0, 0), (0, 0), []),
  (.iconst 3, (157, 1), (0, 0, 0), (3, 0), []),
  (.imul, (158, 1), (0, 0, 0), (0, 0), []),
  (.iload 4, (159, 2), (4, 0, 0), (0, 0), []),
  (.invokevirtual 40, (161, 3), (21, 5, 1), (0, 0), []),
  (.ireturn, (164, 1), (0, 0, 0), (0, 0), []),
  (.aload_n 0, (165, 1), (0, 0, 0), (0, 0), []),
  (.iload_n 2, (166, 1), (2, 0, 0), (0, 0), []),
  (.iconst 2, (167, 1), (0, 0, 0), (2, 0), []),
  (.iload_n 3, (168, 1), (3, 0, 0), (0, 0), []),
  (.iload 4, (169, 2), (4, 0, 0), (0, 0), []),
  (.invokevirtual 40, (171, 3), (21, 5, 1), (0, 0), []),
  (.aload_n 0, (174, 1), (0, 0, 0), (0, 0), []),
  (.aload_n 0, (175, 1), (0, 0, 0), (0, 0), []),
  (.getfield 30, (176, 3), (0, 2, 0), (0, 0), []),
  (.iconst 1, (179, 1), (0, 0, 0), (1, 0), []),
  (.iconst 1, (180, 1), (0, 0, 0), (1, 0), []),
  (.iload 4, (181, 2), (4, 0, 0), (0, 0), []),
  (.invokevirtual 40, (183, 3), (21, 5, 1), (0, 0), []),
  (.iadd, (186, 1), (0, 0, 0), (0, 0), []),
  (.ireturn, (187, 1), (0, 0, 0), (0, 0), []),
  (.aload_n 0, (188, 1), (0, 0, 0), (0, 0), []),
  (.iload_n 2, (189, 1), (2, 0, 0), (0, 0), []),
  (.iconst 0, (190, 1), (0, 0, 0), (0, 0), [])]
def mm_r22_2 : List mm_R := [
  (.iload_n 3, (191, 1), (3, 0, 0), (0, 0), []),
  (.iload 4, (192, 2), (4, 0, 0), (0, 0), []),
  (.invokevirtual 40, (194, 3), (21, 5, 1), (0, 0), []),
  (.ineg, (197, 1), (0, 0, 0), (0, 0), []),
  (.ireturn, (198, 1), (0, 0, 0), (0, 0), []),
  (.aload_n 0, (199, 1), (0, 0, 0), (0, 0), []),
  (.iload_n 2, (200, 1), (2, 0, 0), (0, 0), []),
  (.iconst 1, (201, 1), (0, 0, 0), (1, 0), []),
  (.iload_n 3, (202, 1), (3, 0, 0), (0, 0), []),
  (.iconst 1, (203, 1), (0, 0, 0), (1, 0), []),
  (.iadd, (204, 1), (0, 0, 0), (0, 0), []),
  (.iload 4, (205, 2), (4, 0, 0), (0, 0), []),
  (.invokevirtual 40, (207, 3), (21, 5, 1), (0, 0), []),
  (.ireturn, (210, 1), (0, 0, 0), (0, 0), []),
  (.aload_n 0, (211, 1), (0, 0, 0), (0, 0), []),
  (.iload_n 2, (212, 1), (2, 0, 0), (0, 0), []),
  (.iconst 2, (213, 1), (0, 0, 0), (2, 0), []),
  (.iload_n 3, (214, 1), (3, 0, 0), (0, 0), []),
  (.aload_n 0, (215, 1), (0, 0, 0), (0, 0), []),
  (.getfield 32, (216, 3), (0, 3, 0), (0, 0), []),
  (.isub, (219, 1), (0, 0, 0), (0, 0), []),
  (.iload 4, (220, 2), (4, 0, 0), (0, 0), []),
  (.invokevirtual 40, (222, 3), (21, 5, 1), (0, 0), []),
  (.ireturn, (225, 1), (0, 0, 0), (0, 0), []),
  (.aload_n 0, (226, 1), (0, 0, 0), (0, 0), []),
  (.iload_n 2, (227, 1), (2, 0, 0), (0, 0), []),
  (.iconst 1, (228, 1), (0, 0, 0), (1, 0), []),
  (.iload_n 3, (229, 1), (3, 0, 0), (0, 0), []),
  (.iload 4, (230, 2), (4, 0, 0), (0, 0), []),
  (.invokevirtual 40, (232, 3), (21, 5, 1), (0, 0), []),
  (.aload_n 0, (235, 1), (0, 0, 0), (0, 0), []),
  (.iload_n 2, (236, 1), (2, 0, 0), (0, 0), [])]
def mm_r22_3 : List mm_R := [
  (.iconst 0, (237, 1), (0, 0, 0), (0, 0), []),
  (.iconst 2, (238, 1), (0, 0, 0), (2, 0), []),
  (.iload 4, (239, 2), (4, 0, 0), (0, 0), []),
  (.invokevirtual 40, (241, 3), (21, 5, 1), (0, 0), []),
  (.iadd, (244, 1), (0, 0, 0), (0, 0), []),
  (.ireturn, (245, 1), (0, 0, 0), (0, 0), []),
  (.aload_n 0, (246, 1), (0, 0, 0), (0, 0), []),
  (.iload_n 2, (247, 1), (2, 0, 0), (0, 0), []),
  (.iconst 0, (248, 1), (0, 0, 0), (0, 0), []),
  (.iload_n 3, (249, 1), (3, 0, 0), (0, 0), []),
  (.iload 4, (250, 2), (4, 0, 0), (0, 0), []),
  (.invokevirtual 40, (252, 3), (21, 5, 1), (0, 0), []),
  (.aload_n 0, (255, 1), (0, 0, 0), (0, 0), []),
  (.getfield 38, (256, 3), (0, 4, 0), (0, 0), []),
  (.ixor, (259, 1), (0, 0, 0), (0, 0), []),
  (.ireturn, (260, 1), (0, 0, 0), (0, 0), []),
  (.iconst 0, (261, 1), (0, 0, 0), (0, 0), []),
  (.ireturn, (262, 1), (0, 0, 0), (0, 0), [])]
def mm_r22 : List (List mm_R) := [mm_r22_0, mm_r22_1, mm_r22_2, mm_r22_3]
/-- 23: GlobeCorner$Acts.keptBodies()I -/
def mm_r23_0 : List mm_R := [
  (.aload_n 0, (0, 1), (0, 0, 0), (0, 0), []),
  (.getfield 15, (1, 3), (0, 1, 0), (0, 0), []),
  (.aload_n 0, (4, 1), (0, 0, 0), (0, 0), []),
  (.getfield 9, (5, 3), (0, 0, 2), (0, 0), []),
  (.arraylength, (8, 1), (0, 0, 0), (0, 0), []),
  (.invokestatic 19, (9, 3), (0, 0, 7), (0, 0), []),
  (.ireturn, (12, 1), (0, 0, 0), (0, 0), [])]
def mm_r23 : List (List mm_R) := [mm_r23_0]
/-- 24: GlobeCorner$Corner.<init>()V -/
def mm_r24_0 : List mm_R := [
  (.aload_n 0, (0, 1), (0, 0, 0), (0, 0), []),
  (.invokespecial 3, (1, 3), (0, 0, 4), (0, 0), []),
  (.aload_n 0, (4, 1), (0, 0, 0), (0, 0), []),
  (.new 9, (5, 3), (2, 0, 0), (0, 0), []),
  (.dup, (8, 1), (0, 0, 0), (0, 0), []),
  (.invokespecial 11, (9, 3), (26, 1, 2), (0, 0), []),
  (.putfield 12, (12, 3), (1, 0, 2), (0, 0), []),
  (.aload_n 0, (15, 1), (0, 0, 0), (0, 0), []),
  (.new 18, (16, 3), (5, 0, 0), (0, 0), []),
  (.dup, (19, 1), (0, 0, 0), (0, 0), []),
  (.iconst 5, (20, 1), (0, 0, 0), (5, 0), []),
  (.invokespecial 20, (21, 3), (69, 2, 2), (0, 0), []),
  (.putfield 23, (24, 3), (1, 1, 2), (0, 0), []),
  (.aload_n 0, (27, 1), (0, 0, 0), (0, 0), []),
  (.new 18, (28, 3), (5, 0, 0), (0, 0), []),
  (.dup, (31, 1), (0, 0, 0), (0, 0), []),
  (.bipush 10, (32, 2), (0, 0, 0), (10, 0), []),
  (.invokespecial 20, (34, 3), (69, 2, 2), (0, 0), []),
  (.putfield 27, (37, 3), (1, 2, 2), (0, 0), []),
  (.aload_n 0, (40, 1), (0, 0, 0), (0, 0), []),
  (.new 18, (41, 3), (5, 0, 0), (0, 0), []),
  (.dup, (44, 1), (0, 0, 0), (0, 0), []),
  (.bipush 8, (45, 2), (0, 0, 0), (8, 0), []),
  (.invokespecial 20, (47, 3), (69, 2, 2), (0, 0), []),
  (.putfield 30, (50, 3), (1, 3, 2), (0, 0), []),
  (.return_, (53, 1), (0, 0, 0), (0, 0), [])]
def mm_r24 : List (List mm_R) := [mm_r24_0]
/-- 25: GlobeCorner$Corner.copyFrom(LGlobeCorner$Corner;)V -/
def mm_r25_0 : List mm_R := [
  (.aload_n 0, (0, 1), (0, 0, 0), (0, 0), []),
  (.getfield 12, (1, 3), (1, 0, 2), (0, 0), []),
  (.aload_n 1, (4, 1), (1, 0, 0), (0, 0), []),
  (.getfield 12, (5, 3), (1, 0, 2), (0, 0), []),
  (.invokevirtual 33, (8, 3), (36, 2, 1), (0, 0), []),
  (.aload_n 0, (11, 1), (0, 0, 0), (0, 0), []),
  (.getfield 23, (12, 3), (1, 1, 2), (0, 0), []),
  (.aload_n 1, (15, 1), (1, 0, 0), (0, 0), []),
  (.getfield 23, (16, 3), (1, 1, 2), (0, 0), []),
  (.invokevirtual 37, (19, 3), (72, 2, 1), (0, 0), []),
  (.aload_n 0, (22, 1), (0, 0, 0), (0, 0), []),
  (.getfield 27, (23, 3), (1, 2, 2), (0, 0), []),
  (.aload_n 1, (26, 1), (1, 0, 0), (0, 0), []),
  (.getfield 27, (27, 3), (1, 2, 2), (0, 0), []),
  (.invokevirtual 37, (30, 3), (72, 2, 1), (0, 0), []),
  (.aload_n 0, (33, 1), (0, 0, 0), (0, 0), []),
  (.getfield 30, (34, 3), (1, 3, 2), (0, 0), []),
  (.aload_n 1, (37, 1), (1, 0, 0), (0, 0), []),
  (.getfield 30, (38, 3), (1, 3, 2), (0, 0), []),
  (.invokevirtual 37, (41, 3), (72, 2, 1), (0, 0), []),
  (.return_, (44, 1), (0, 0, 0), (0, 0), [])]
def mm_r25 : List (List mm_R) := [mm_r25_0]
/-- 26: GlobeCorner$Globe.<init>()V -/
def mm_r26_0 : List mm_R := [
  (.aload_n 0, (0, 1), (0, 0, 0), (0, 0), []),
  (.invokespecial 3, (1, 3), (0, 0, 4), (0, 0), []),
  (.aload_n 0, (4, 1), (0, 0, 0), (0, 0), []),
  (.bipush 12, (5, 2), (0, 0, 0), (12, 0), []),
  (.newarray .int, (7, 2), (1, 0, 0), (0, 0), []),
  (.putfield 9, (9, 3), (2, 3, 2), (0, 0), []),
  (.aload_n 0, (12, 1), (0, 0, 0), (0, 0), []),
  (.bipush 6, (13, 2), (0, 0, 0), (6, 0), []),
  (.newarray .int, (15, 2), (1, 0, 0), (0, 0), []),
  (.putfield 15, (17, 3), (2, 4, 2), (0, 0), []),
  (.aload_n 0, (20, 1), (0, 0, 0), (0, 0), []),
  (.bipush 6, (21, 2), (0, 0, 0), (6, 0), []),
  (.newarray .int, (23, 2), (1, 0, 0), (0, 0), []),
  (.putfield 18, (25, 3), (2, 5, 2), (0, 0), []),
  (.aload_n 0, (28, 1), (0, 0, 0), (0, 0), []),
  (.bipush 6, (29, 2), (0, 0, 0), (6, 0), []),
  (.newarray .int, (31, 2), (1, 0, 0), (0, 0), []),
  (.putfield 21, (33, 3), (2, 6, 2), (0, 0), []),
  (.aload_n 0, (36, 1), (0, 0, 0), (0, 0), []),
  (.bipush 6, (37, 2), (0, 0, 0), (6, 0), []),
  (.newarray .int, (39, 2), (1, 0, 0), (0, 0), []),
  (.putfield 24, (41, 3), (2, 7, 2), (0, 0), []),
  (.aload_n 0, (44, 1), (0, 0, 0), (0, 0), []),
  (.bipush 24, (45, 2), (0, 0, 0), (24, 0), []),
  (.newarray .int, (47, 2), (1, 0, 0), (0, 0), []),
  (.putfield 27, (49, 3), (2, 8, 2), (0, 0), []),
  (.aload_n 0, (52, 1), (0, 0, 0), (0, 0), []),
  (.bipush 6, (53, 2), (0, 0, 0), (6, 0), []),
  (.newarray .int, (55, 2), (1, 0, 0), (0, 0), []),
  (.putfield 32, (57, 3), (2, 9, 2), (0, 0), []),
  (.aload_n 0, (60, 1), (0, 0, 0), (0, 0), []),
  (.getfield 9, (61, 3), (2, 3, 2), (0, 0), [])]
def mm_r26_1 : List mm_R := [
  (.bipush 20, (64, 2), (0, 0, 0), (20, 0), []),
  (.invokestatic 35, (66, 3), (0, 2, 0), (0, 0), []),
  (.aload_n 0, (69, 1), (0, 0, 0), (0, 0), []),
  (.getfield 21, (70, 3), (2, 6, 2), (0, 0), []),
  (.bipush (-5), (73, 2), (0, 0, 0), ((-5), 0), []),
  (.invokestatic 35, (75, 3), (0, 2, 0), (0, 0), []),
  (.return_, (78, 1), (0, 0, 0), (0, 0), [])]
def mm_r26 : List (List mm_R) := [mm_r26_0, mm_r26_1]
/-- 27: GlobeCorner$Globe.join(II)I -/
def mm_r27_0 : List mm_R := [
  (.aload_n 0, (0, 1), (0, 0, 0), (0, 0), []),
  (.getfield 45, (1, 3), (2, 1, 0), (0, 0), []),
  (.bipush 6, (4, 2), (0, 0, 0), (6, 0), []),
  (.if_icmp .lt 6, (6, 3), (0, 6, 0), (0, 0), []),
  (.bipush (-4), (9, 2), (0, 0, 0), ((-4), 0), []),
  (.ireturn, (11, 1), (0, 0, 0), (0, 0), []),
  (.aload_n 0, (12, 1), (0, 0, 0), (0, 0), []),
  (.getfield 15, (13, 3), (2, 4, 2), (0, 0), []),
  (.aload_n 0, (16, 1), (0, 0, 0), (0, 0), []),
  (.getfield 45, (17, 3), (2, 1, 0), (0, 0), []),
  (.iload_n 1, (20, 1), (1, 0, 0), (0, 0), []),
  (.iastore, (21, 1), (0, 0, 0), (0, 0), []),
  (.aload_n 0, (22, 1), (0, 0, 0), (0, 0), []),
  (.getfield 18, (23, 3), (2, 5, 2), (0, 0), []),
  (.aload_n 0, (26, 1), (0, 0, 0), (0, 0), []),
  (.getfield 45, (27, 3), (2, 1, 0), (0, 0), []),
  (.iload_n 2, (30, 1), (2, 0, 0), (0, 0), []),
  (.iastore, (31, 1), (0, 0, 0), (0, 0), []),
  (.aload_n 0, (32, 1), (0, 0, 0), (0, 0), []),
  (.getfield 21, (33, 3), (2, 6, 2), (0, 0), []),
  (.aload_n 0, (36, 1), (0, 0, 0), (0, 0), []),
  (.getfield 45, (37, 3), (2, 1, 0), (0, 0), []),
  (.bipush (-5), (40, 2), (0, 0, 0), ((-5), 0), []),
  (.iastore, (42, 1), (0, 0, 0), (0, 0), []),
  (.aload_n 0, (43, 1), (0, 0, 0), (0, 0), []),
  (.getfield 24, (44, 3), (2, 7, 2), (0, 0), []),
  (.aload_n 0, (47, 1), (0, 0, 0), (0, 0), []),
  (.getfield 45, (48, 3), (2, 1, 0), (0, 0), []),
  (.iconst 0, (51, 1), (0, 0, 0), (0, 0), []),
  (.iastore, (52, 1), (0, 0, 0), (0, 0), []),
  (.iconst 0, (53, 1), (0, 0, 0), (0, 0), []),
  (.istore_n 3, (54, 1), (3, 0, 0), (0, 0), [])]
def mm_r27_1 : List mm_R := [
  (.iload_n 3, (55, 1), (3, 0, 0), (0, 0), []),
  (.iconst 4, (56, 1), (0, 0, 0), (4, 0), []),
  (.if_icmp .ge 23, (57, 3), (0, 47, 0), (0, 0), []),
  (.aload_n 0, (60, 1), (0, 0, 0), (0, 0), []),
  (.getfield 27, (61, 3), (2, 8, 2), (0, 0), []),
  (.aload_n 0, (64, 1), (0, 0, 0), (0, 0), []),
  (.getfield 45, (65, 3), (2, 1, 0), (0, 0), []),
  (.iconst 4, (68, 1), (0, 0, 0), (4, 0), []),
  (.imul, (69, 1), (0, 0, 0), (0, 0), []),
  (.iload_n 3, (70, 1), (3, 0, 0), (0, 0), []),
  (.iadd, (71, 1), (0, 0, 0), (0, 0), []),
  (.iconst 0, (72, 1), (0, 0, 0), (0, 0), []),
  (.iastore, (73, 1), (0, 0, 0), (0, 0), []),
  (.iinc 3 1, (74, 3), (3, 0, 0), (1, 0), []),
  (.goto (-22), (77, 3), (0, 32, 0), (0, 0), []),
  (.aload_n 0, (80, 1), (0, 0, 0), (0, 0), []),
  (.dup, (81, 1), (0, 0, 0), (0, 0), []),
  (.getfield 45, (82, 3), (2, 1, 0), (0, 0), []),
  (.iconst 1, (85, 1), (0, 0, 0), (1, 0), []),
  (.iadd, (86, 1), (0, 0, 0), (0, 0), []),
  (.putfield 45, (87, 3), (2, 1, 0), (0, 0), []),
  (.aload_n 0, (90, 1), (0, 0, 0), (0, 0), []),
  (.getfield 45, (91, 3), (2, 1, 0), (0, 0), []),
  (.iconst 1, (94, 1), (0, 0, 0), (1, 0), []),
  (.isub, (95, 1), (0, 0, 0), (0, 0), []),
  (.ireturn, (96, 1), (0, 0, 0), (0, 0), [])]
def mm_r27 : List (List mm_R) := [mm_r27_0, mm_r27_1]
/-- 28: GlobeCorner$Globe.isAnotherOn(II)Z -/
def mm_r28_0 : List mm_R := [
  (.iconst 0, (0, 1), (0, 0, 0), (0, 0), []),
  (.istore_n 3, (1, 1), (3, 0, 0), (0, 0), []),
  (.iload_n 3, (2, 1), (3, 0, 0), (0, 0), []),
  (.aload_n 0, (3, 1), (0, 0, 0), (0, 0), []),
  (.getfield 45, (4, 3), (2, 1, 0), (0, 0), []),
  (.if_icmp .ge 26, (7, 3), (0, 19, 0), (0, 0), []),
  (.iload_n 3, (10, 1), (3, 0, 0), (0, 0), []),
  (.iload_n 1, (11, 1), (1, 0, 0), (0, 0), []),
  (.if_icmp .eq 15, (12, 3), (0, 17, 0), (0, 0), []),
  (.aload_n 0, (15, 1), (0, 0, 0), (0, 0), []),
  (.getfield 21, (16, 3), (2, 6, 2), (0, 0), []),
  (.iload_n 3, (19, 1), (3, 0, 0), (0, 0), []),
  (.iaload, (20, 1), (0, 0, 0), (0, 0), []),
  (.iload_n 2, (21, 1), (2, 0, 0), (0, 0), []),
  (.if_icmp .ne 5, (22, 3), (0, 17, 0), (0, 0), []),
  (.iconst 1, (25, 1), (0, 0, 0), (1, 0), []),
  (.ireturn, (26, 1), (1, 0, 0), (0, 0), []),
  (.iinc 3 1, (27, 3), (3, 0, 0), (1, 0), []),
  (.goto (-28), (30, 3), (0, 2, 0), (0, 0), []),
  (.iconst 0, (33, 1), (0, 0, 0), (0, 0), []),
  (.ireturn, (34, 1), (1, 0, 0), (0, 0), [])]
def mm_r28 : List (List mm_R) := [mm_r28_0]
/-- 29: GlobeCorner$Globe.careNow(IIZ)I -/
def mm_r29_0 : List mm_R := [
  (.aload_n 0, (0, 1), (0, 0, 0), (0, 0), []),
  (.iload_n 1, (1, 1), (1, 0, 0), (0, 0), []),
  (.iload_n 2, (2, 1), (2, 0, 0), (0, 0), []),
  (.aload_n 0, (3, 1), (0, 0, 0), (0, 0), []),
  (.getfield 9, (4, 3), (2, 3, 2), (0, 0), []),
  (.iload_n 2, (7, 1), (2, 0, 0), (0, 0), []),
  (.iaload, (8, 1), (0, 0, 0), (0, 0), []),
  (.iconst 0, (9, 1), (0, 0, 0), (0, 0), []),
  (.iload_n 3, (10, 1), (3, 0, 0), (0, 0), []),
  (.invokevirtual 61, (11, 3), (30, 6, 1), (0, 0), []),
  (.ireturn, (14, 1), (0, 0, 0), (0, 0), [])]
def mm_r29 : List (List mm_R) := [mm_r29_0]
/-- 30: GlobeCorner$Globe.care(IIIIZ)I -/
def mm_r30_0 : List mm_R := [
  (.aload_n 0, (0, 1), (0, 0, 0), (0, 0), []),
  (.getfield 48, (1, 3), (2, 2, 1), (0, 0), []),
  (.ifnonnull 7, (4, 3), (0, 5, 0), (0, 0), []),
  (.iconst 4, (7, 1), (0, 0, 0), (4, 0), []),
  (.goto 19, (8, 3), (0, 14, 0), (0, 0), []),
  (.aload_n 0, (11, 1), (0, 0, 0), (0, 0), []),
  (.getfield 48, (12, 3), (2, 2, 1), (0, 0), []),
  (.aload_n 0, (15, 1), (0, 0, 0), (0, 0), []),
  (.iload_n 1, (16, 1), (1, 0, 0), (0, 0), []),
  (.iload_n 2, (17, 1), (2, 0, 0), (0, 0), []),
  (.iload_n 3, (18, 1), (3, 0, 0), (0, 0), []),
  (.iload 4, (19, 2), (4, 0, 0), (0, 0), []),
  (.invokevirtual 65, (21, 3), (31, 5, 1), (0, 0), []),
  (.invokevirtual 69, (24, 3), (74, 2, 1), (0, 0), []),
  (.istore 6, (27, 2), (6, 0, 0), (0, 0), []),
  (.aload_n 0, (29, 1), (0, 0, 0), (0, 0), []),
  (.getfield 41, (30, 3), (2, 0, 0), (0, 0), []),
  (.iload 4, (33, 2), (4, 0, 0), (0, 0), []),
  (.iadd, (35, 1), (0, 0, 0), (0, 0), []),
  (.iconst 4, (36, 1), (0, 0, 0), (4, 0), []),
  (.irem, (37, 1), (0, 0, 0), (0, 0), []),
  (.iconst 3, (38, 1), (0, 0, 0), (3, 0), []),
  (.if_icmp .ne 7, (39, 3), (0, 25, 0), (0, 0), []),
  (.iconst 0, (42, 1), (0, 0, 0), (0, 0), []),
  (.goto 5, (43, 3), (0, 26, 0), (0, 0), []),
  (.iload 6, (46, 2), (6, 0, 0), (0, 0), []),
  (.istore 7, (48, 2), (7, 0, 0), (0, 0), []),
  (.aload_n 0, (50, 1), (0, 0, 0), (0, 0), []),
  (.getfield 15, (51, 3), (2, 4, 2), (0, 0), []),
  (.iload_n 1, (54, 1), (1, 0, 0), (0, 0), []),
  (.iaload, (55, 1), (0, 0, 0), (0, 0), []),
  (.tableswitch 117 1 6 #[40, 50, 55, 58, 79, 101], (56, 40), (0, 86, 0), (0, 0), [(1, 32), (2, 39), (3, 43), (4, 45), (5, 58), (6, 73)])]
def mm_r30_1 : List mm_R := [
  (.iload 6, (96, 2), (6, 0, 0), (0, 0), []),
  (.aload_n 0, (98, 1), (0, 0, 0), (0, 0), []),
  (.getfield 18, (99, 3), (2, 5, 2), (0, 0), []),
  (.iload_n 1, (102, 1), (1, 0, 0), (0, 0), []),
  (.iaload, (103, 1), (0, 0, 0), (0, 0), []),
  (.iadd, (104, 1), (0, 0, 0), (0, 0), []),
  (.ireturn, (105, 1), (0, 0, 0), (0, 0), []),
  (.iload 6, (106, 2), (6, 0, 0), (0, 0), []),
  (.iconst 2, (108, 1), (0, 0, 0), (2, 0), []),
  (.idiv, (109, 1), (0, 0, 0), (0, 0), []),
  (.ireturn, (110, 1), (0, 0, 0), (0, 0), []),
  (.iload 7, (111, 2), (7, 0, 0), (0, 0), []),
  (.ireturn, (113, 1), (0, 0, 0), (0, 0), []),
  (.iload 6, (114, 2), (6, 0, 0), (0, 0), []),
  (.aload_n 0, (116, 1), (0, 0, 0), (0, 0), []),
  (.getfield 18, (117, 3), (2, 5, 2), (0, 0), []),
  (.iload_n 1, (120, 1), (1, 0, 0), (0, 0), []),
  (.iaload, (121, 1), (0, 0, 0), (0, 0), []),
  (.iadd, (122, 1), (0, 0, 0), (0, 0), []),
  (.iload 5, (123, 2), (5, 0, 0), (0, 0), []),
  (.ifCond .eq 7, (125, 3), (0, 55, 0), (0, 0), []),
  (.iconst 2, (128, 1), (0, 0, 0), (2, 0), []),
  (.goto 4, (129, 3), (0, 56, 0), (0, 0), []),
  (.iconst 1, (132, 1), (0, 0, 0), (1, 0), []),
  (.imul, (133, 1), (0, 0, 0), (0, 0), []),
  (.ireturn, (134, 1), (0, 0, 0), (0, 0), []),
  (.iload 6, (135, 2), (6, 0, 0), (0, 0), []),
  (.iconst 2, (137, 1), (0, 0, 0), (2, 0), []),
  (.idiv, (138, 1), (0, 0, 0), (0, 0), []),
  (.bipush 9, (139, 2), (0, 0, 0), (9, 0), []),
  (.aload_n 0, (141, 1), (0, 0, 0), (0, 0), []),
  (.getfield 24, (142, 3), (2, 7, 2), (0, 0), [])]
def mm_r30_2 : List mm_R := [
  (.iload_n 1, (145, 1), (1, 0, 0), (0, 0), []),
  (.iaload, (146, 1), (0, 0, 0), (0, 0), []),
  (.iload 4, (147, 2), (4, 0, 0), (0, 0), []),
  (.iadd, (149, 1), (0, 0, 0), (0, 0), []),
  (.iconst 5, (150, 1), (0, 0, 0), (5, 0), []),
  (.idiv, (151, 1), (0, 0, 0), (0, 0), []),
  (.invokestatic 73, (152, 3), (0, 0, 7), (0, 0), []),
  (.isub, (155, 1), (0, 0, 0), (0, 0), []),
  (.ireturn, (156, 1), (0, 0, 0), (0, 0), []),
  (.iload 7, (157, 2), (7, 0, 0), (0, 0), []),
  (.aload_n 0, (159, 1), (0, 0, 0), (0, 0), []),
  (.getfield 27, (160, 3), (2, 8, 2), (0, 0), []),
  (.iload_n 1, (163, 1), (1, 0, 0), (0, 0), []),
  (.iconst 4, (164, 1), (0, 0, 0), (4, 0), []),
  (.imul, (165, 1), (0, 0, 0), (0, 0), []),
  (.iload_n 2, (166, 1), (2, 0, 0), (0, 0), []),
  (.iconst 4, (167, 1), (0, 0, 0), (4, 0), []),
  (.irem, (168, 1), (0, 0, 0), (0, 0), []),
  (.iadd, (169, 1), (0, 0, 0), (0, 0), []),
  (.iaload, (170, 1), (0, 0, 0), (0, 0), []),
  (.iadd, (171, 1), (0, 0, 0), (0, 0), []),
  (.ireturn, (172, 1), (0, 0, 0), (0, 0), []),
  (.iload 6, (173, 2), (6, 0, 0), (0, 0), []),
  (.ireturn, (175, 1), (0, 0, 0), (0, 0), [])]
def mm_r30 : List (List mm_R) := [mm_r30_0, mm_r30_1, mm_r30_2]
/-- 31: GlobeCorner$Globe.factsOf(IIII)[I -/
def mm_r31_0 : List mm_R := [
  (.aload_n 0, (0, 1), (0, 0, 0), (0, 0), []),
  (.getfield 32, (1, 3), (2, 9, 2), (0, 0), []),
  (.iconst 0, (4, 1), (0, 0, 0), (0, 0), []),
  (.iload_n 1, (5, 1), (1, 0, 0), (0, 0), []),
  (.iastore, (6, 1), (0, 0, 0), (0, 0), []),
  (.aload_n 0, (7, 1), (0, 0, 0), (0, 0), []),
  (.getfield 32, (8, 3), (2, 9, 2), (0, 0), []),
  (.iconst 1, (11, 1), (0, 0, 0), (1, 0), []),
  (.aload_n 0, (12, 1), (0, 0, 0), (0, 0), []),
  (.getfield 15, (13, 3), (2, 4, 2), (0, 0), []),
  (.iload_n 1, (16, 1), (1, 0, 0), (0, 0), []),
  (.iaload, (17, 1), (0, 0, 0), (0, 0), []),
  (.iastore, (18, 1), (0, 0, 0), (0, 0), []),
  (.aload_n 0, (19, 1), (0, 0, 0), (0, 0), []),
  (.getfield 32, (20, 3), (2, 9, 2), (0, 0), []),
  (.iconst 2, (23, 1), (0, 0, 0), (2, 0), []),
  (.aload_n 0, (24, 1), (0, 0, 0), (0, 0), []),
  (.getfield 18, (25, 3), (2, 5, 2), (0, 0), []),
  (.iload_n 1, (28, 1), (1, 0, 0), (0, 0), []),
  (.iaload, (29, 1), (0, 0, 0), (0, 0), []),
  (.iastore, (30, 1), (0, 0, 0), (0, 0), []),
  (.aload_n 0, (31, 1), (0, 0, 0), (0, 0), []),
  (.getfield 32, (32, 3), (2, 9, 2), (0, 0), []),
  (.iconst 3, (35, 1), (0, 0, 0), (3, 0), []),
  (.iload_n 2, (36, 1), (2, 0, 0), (0, 0), []),
  (.iastore, (37, 1), (0, 0, 0), (0, 0), []),
  (.aload_n 0, (38, 1), (0, 0, 0), (0, 0), []),
  (.getfield 32, (39, 3), (2, 9, 2), (0, 0), []),
  (.iconst 4, (42, 1), (0, 0, 0), (4, 0), []),
  (.iload_n 3, (43, 1), (3, 0, 0), (0, 0), []),
  (.bipush 10, (44, 2), (0, 0, 0), (10, 0), []),
  (.idiv, (46, 1), (0, 0, 0), (0, 0), [])]
def mm_r31_1 : List mm_R := [
  (.iastore, (47, 1), (0, 0, 0), (0, 0), []),
  (.aload_n 0, (48, 1), (0, 0, 0), (0, 0), []),
  (.getfield 32, (49, 3), (2, 9, 2), (0, 0), []),
  (.iconst 5, (52, 1), (0, 0, 0), (5, 0), []),
  (.aload_n 0, (53, 1), (0, 0, 0), (0, 0), []),
  (.getfield 41, (54, 3), (2, 0, 0), (0, 0), []),
  (.iload 4, (57, 2), (4, 0, 0), (0, 0), []),
  (.iadd, (59, 1), (0, 0, 0), (0, 0), []),
  (.bipush 10, (60, 2), (0, 0, 0), (10, 0), []),
  (.irem, (62, 1), (0, 0, 0), (0, 0), []),
  (.iastore, (63, 1), (0, 0, 0), (0, 0), []),
  (.aload_n 0, (64, 1), (0, 0, 0), (0, 0), []),
  (.getfield 32, (65, 3), (2, 9, 2), (0, 0), []),
  (.areturn, (68, 1), (0, 0, 0), (0, 0), [])]
def mm_r31 : List (List mm_R) := [mm_r31_0, mm_r31_1]
/-- 32: GlobeCorner$Globe.hoursUntilWell(I)I -/
def mm_r32_0 : List mm_R := [
  (.aload_n 0, (0, 1), (0, 0, 0), (0, 0), []),
  (.getfield 9, (1, 3), (2, 3, 2), (0, 0), []),
  (.iload_n 1, (4, 1), (1, 0, 0), (0, 0), []),
  (.iaload, (5, 1), (0, 0, 0), (0, 0), []),
  (.istore_n 2, (6, 1), (2, 0, 0), (0, 0), []),
  (.iconst 0, (7, 1), (0, 0, 0), (0, 0), []),
  (.istore_n 3, (8, 1), (3, 0, 0), (0, 0), []),
  (.iload_n 3, (9, 1), (3, 0, 0), (0, 0), []),
  (.bipush 60, (10, 2), (0, 0, 0), (60, 0), []),
  (.if_icmp .gt 23, (12, 3), (0, 22, 0), (0, 0), []),
  (.iload_n 2, (15, 1), (2, 0, 0), (0, 0), []),
  (.ifCond .ne 5, (16, 3), (0, 14, 0), (0, 0), []),
  (.iload_n 3, (19, 1), (3, 0, 0), (0, 0), []),
  (.ireturn, (20, 1), (0, 0, 0), (0, 0), []),
  (.aload_n 0, (21, 1), (0, 0, 0), (0, 0), []),
  (.iload_n 1, (22, 1), (1, 0, 0), (0, 0), []),
  (.iload_n 2, (23, 1), (2, 0, 0), (0, 0), []),
  (.iload_n 3, (24, 1), (3, 0, 0), (0, 0), []),
  (.invokevirtual 79, (25, 3), (33, 4, 1), (0, 0), []),
  (.istore_n 2, (28, 1), (2, 0, 0), (0, 0), []),
  (.iinc 3 1, (29, 3), (3, 0, 0), (1, 0), []),
  (.goto (-23), (32, 3), (0, 7, 0), (0, 0), []),
  (.bipush (-5), (35, 2), (0, 0, 0), ((-5), 0), []),
  (.ireturn, (37, 1), (0, 0, 0), (0, 0), [])]
def mm_r32 : List (List mm_R) := [mm_r32_0]
/-- 33: GlobeCorner$Globe.needNext(III)I -/
def mm_r33_0 : List mm_R := [
  (.iload_n 2, (0, 1), (2, 0, 0), (0, 0), []),
  (.aload_n 0, (1, 1), (0, 0, 0), (0, 0), []),
  (.invokevirtual 83, (2, 3), (34, 1, 1), (0, 0), []),
  (.iadd, (5, 1), (0, 0, 0), (0, 0), []),
  (.istore 4, (6, 2), (4, 0, 0), (0, 0), []),
  (.aload_n 0, (8, 1), (0, 0, 0), (0, 0), []),
  (.iload_n 1, (9, 1), (1, 0, 0), (0, 0), []),
  (.invokevirtual 86, (10, 3), (35, 2, 1), (0, 0), []),
  (.iconst 1, (13, 1), (0, 0, 0), (1, 0), []),
  (.if_icmp .le 7, (14, 3), (0, 12, 0), (0, 0), []),
  (.iconst 1, (17, 1), (0, 0, 0), (1, 0), []),
  (.goto 4, (18, 3), (0, 13, 0), (0, 0), []),
  (.iconst 0, (21, 1), (0, 0, 0), (0, 0), []),
  (.istore 5, (22, 2), (5, 0, 0), (0, 0), []),
  (.iconst 0, (24, 1), (0, 0, 0), (0, 0), []),
  (.istore 6, (25, 2), (6, 0, 0), (0, 0), []),
  (.iload 6, (27, 2), (6, 0, 0), (0, 0), []),
  (.aload_n 0, (29, 1), (0, 0, 0), (0, 0), []),
  (.getfield 45, (30, 3), (2, 1, 0), (0, 0), []),
  (.if_icmp .ge 40, (33, 3), (0, 40, 0), (0, 0), []),
  (.aload_n 0, (36, 1), (0, 0, 0), (0, 0), []),
  (.getfield 21, (37, 3), (2, 6, 2), (0, 0), []),
  (.iload 6, (40, 2), (6, 0, 0), (0, 0), []),
  (.iaload, (42, 1), (0, 0, 0), (0, 0), []),
  (.iload_n 1, (43, 1), (1, 0, 0), (0, 0), []),
  (.if_icmp .ne 23, (44, 3), (0, 38, 0), (0, 0), []),
  (.iload 4, (47, 2), (4, 0, 0), (0, 0), []),
  (.iconst 0, (49, 1), (0, 0, 0), (0, 0), []),
  (.aload_n 0, (50, 1), (0, 0, 0), (0, 0), []),
  (.iload 6, (51, 2), (6, 0, 0), (0, 0), []),
  (.iload_n 1, (53, 1), (1, 0, 0), (0, 0), []),
  (.iload_n 2, (54, 1), (2, 0, 0), (0, 0), [])]
def mm_r33_1 : List mm_R := [
  (.iload_n 3, (55, 1), (3, 0, 0), (0, 0), []),
  (.iload 5, (56, 2), (5, 0, 0), (0, 0), []),
  (.invokevirtual 61, (58, 3), (30, 6, 1), (0, 0), []),
  (.invokestatic 90, (61, 3), (0, 0, 6), (0, 0), []),
  (.isub, (64, 1), (0, 0, 0), (0, 0), []),
  (.istore 4, (65, 2), (4, 0, 0), (0, 0), []),
  (.iinc 6 1, (67, 3), (6, 0, 0), (1, 0), []),
  (.goto (-43), (70, 3), (0, 16, 0), (0, 0), []),
  (.iconst 0, (73, 1), (0, 0, 0), (0, 0), []),
  (.bipush 99, (74, 2), (0, 0, 0), (99, 0), []),
  (.iload 4, (76, 2), (4, 0, 0), (0, 0), []),
  (.invokestatic 73, (78, 3), (0, 0, 7), (0, 0), []),
  (.invokestatic 90, (81, 3), (0, 0, 6), (0, 0), []),
  (.ireturn, (84, 1), (0, 0, 0), (0, 0), [])]
def mm_r33 : List (List mm_R) := [mm_r33_0, mm_r33_1]
/-- 34: GlobeCorner$Globe.grow()I -/
def mm_r34_0 : List mm_R := [
  (.aload_n 0, (0, 1), (0, 0, 0), (0, 0), []),
  (.getfield 48, (1, 3), (2, 2, 1), (0, 0), []),
  (.ifnonnull 7, (4, 3), (0, 5, 0), (0, 0), []),
  (.iconst 2, (7, 1), (0, 0, 0), (2, 0), []),
  (.goto 10, (8, 3), (0, 8, 0), (0, 0), []),
  (.aload_n 0, (11, 1), (0, 0, 0), (0, 0), []),
  (.getfield 48, (12, 3), (2, 2, 1), (0, 0), []),
  (.getfield 58, (15, 3), (6, 0, 0), (0, 0), []),
  (.ireturn, (18, 1), (0, 0, 0), (0, 0), [])]
def mm_r34 : List (List mm_R) := [mm_r34_0]
/-- 35: GlobeCorner$Globe.fingersOn(I)I -/
def mm_r35_0 : List mm_R := [
  (.iconst 0, (0, 1), (0, 0, 0), (0, 0), []),
  (.istore_n 2, (1, 1), (2, 0, 0), (0, 0), []),
  (.iconst 0, (2, 1), (0, 0, 0), (0, 0), []),
  (.istore_n 3, (3, 1), (3, 0, 0), (0, 0), []),
  (.iload_n 3, (4, 1), (3, 0, 0), (0, 0), []),
  (.aload_n 0, (5, 1), (0, 0, 0), (0, 0), []),
  (.getfield 45, (6, 3), (2, 1, 0), (0, 0), []),
  (.if_icmp .ge 22, (9, 3), (0, 17, 0), (0, 0), []),
  (.aload_n 0, (12, 1), (0, 0, 0), (0, 0), []),
  (.getfield 21, (13, 3), (2, 6, 2), (0, 0), []),
  (.iload_n 3, (16, 1), (3, 0, 0), (0, 0), []),
  (.iaload, (17, 1), (0, 0, 0), (0, 0), []),
  (.iload_n 1, (18, 1), (1, 0, 0), (0, 0), []),
  (.if_icmp .ne 6, (19, 3), (0, 15, 0), (0, 0), []),
  (.iinc 2 1, (22, 3), (2, 0, 0), (1, 0), []),
  (.iinc 3 1, (25, 3), (3, 0, 0), (1, 0), []),
  (.goto (-24), (28, 3), (0, 4, 0), (0, 0), []),
  (.iload_n 2, (31, 1), (2, 0, 0), (0, 0), []),
  (.ireturn, (32, 1), (0, 0, 0), (0, 0), [])]
def mm_r35 : List (List mm_R) := [mm_r35_0]
/-- 36: GlobeCorner$Globe.copyFrom(LGlobeCorner$Globe;)V -/
def mm_r36_0 : List mm_R := [
  (.aload_n 0, (0, 1), (0, 0, 0), (0, 0), []),
  (.aload_n 1, (1, 1), (1, 0, 0), (0, 0), []),
  (.getfield 41, (2, 3), (2, 0, 0), (0, 0), []),
  (.putfield 41, (5, 3), (2, 0, 0), (0, 0), []),
  (.aload_n 0, (8, 1), (0, 0, 0), (0, 0), []),
  (.aload_n 1, (9, 1), (1, 0, 0), (0, 0), []),
  (.getfield 45, (10, 3), (2, 1, 0), (0, 0), []),
  (.putfield 45, (13, 3), (2, 1, 0), (0, 0), []),
  (.aload_n 0, (16, 1), (0, 0, 0), (0, 0), []),
  (.aload_n 1, (17, 1), (1, 0, 0), (0, 0), []),
  (.getfield 48, (18, 3), (2, 2, 1), (0, 0), []),
  (.putfield 48, (21, 3), (2, 2, 1), (0, 0), []),
  (.aload_n 1, (24, 1), (1, 0, 0), (0, 0), []),
  (.getfield 9, (25, 3), (2, 3, 2), (0, 0), []),
  (.iconst 0, (28, 1), (0, 0, 0), (0, 0), []),
  (.aload_n 0, (29, 1), (0, 0, 0), (0, 0), []),
  (.getfield 9, (30, 3), (2, 3, 2), (0, 0), []),
  (.iconst 0, (33, 1), (0, 0, 0), (0, 0), []),
  (.bipush 12, (34, 2), (0, 0, 0), (12, 0), []),
  (.invokestatic 52, (36, 3), (0, 0, 5), (0, 0), []),
  (.aload_n 1, (39, 1), (1, 0, 0), (0, 0), []),
  (.getfield 15, (40, 3), (2, 4, 2), (0, 0), []),
  (.iconst 0, (43, 1), (0, 0, 0), (0, 0), []),
  (.aload_n 0, (44, 1), (0, 0, 0), (0, 0), []),
  (.getfield 15, (45, 3), (2, 4, 2), (0, 0), []),
  (.iconst 0, (48, 1), (0, 0, 0), (0, 0), []),
  (.bipush 6, (49, 2), (0, 0, 0), (6, 0), []),
  (.invokestatic 52, (51, 3), (0, 0, 5), (0, 0), []),
  (.aload_n 1, (54, 1), (1, 0, 0), (0, 0), []),
  (.getfield 18, (55, 3), (2, 5, 2), (0, 0), []),
  (.iconst 0, (58, 1), (0, 0, 0), (0, 0), []),
  (.aload_n 0, (59, 1), (0, 0, 0), (0, 0), [])]
def mm_r36_1 : List mm_R := [
  (.getfield 18, (60, 3), (2, 5, 2), (0, 0), []),
  (.iconst 0, (63, 1), (0, 0, 0), (0, 0), []),
  (.bipush 6, (64, 2), (0, 0, 0), (6, 0), []),
  (.invokestatic 52, (66, 3), (0, 0, 5), (0, 0), []),
  (.aload_n 1, (69, 1), (1, 0, 0), (0, 0), []),
  (.getfield 21, (70, 3), (2, 6, 2), (0, 0), []),
  (.iconst 0, (73, 1), (0, 0, 0), (0, 0), []),
  (.aload_n 0, (74, 1), (0, 0, 0), (0, 0), []),
  (.getfield 21, (75, 3), (2, 6, 2), (0, 0), []),
  (.iconst 0, (78, 1), (0, 0, 0), (0, 0), []),
  (.bipush 6, (79, 2), (0, 0, 0), (6, 0), []),
  (.invokestatic 52, (81, 3), (0, 0, 5), (0, 0), []),
  (.aload_n 1, (84, 1), (1, 0, 0), (0, 0), []),
  (.getfield 24, (85, 3), (2, 7, 2), (0, 0), []),
  (.iconst 0, (88, 1), (0, 0, 0), (0, 0), []),
  (.aload_n 0, (89, 1), (0, 0, 0), (0, 0), []),
  (.getfield 24, (90, 3), (2, 7, 2), (0, 0), []),
  (.iconst 0, (93, 1), (0, 0, 0), (0, 0), []),
  (.bipush 6, (94, 2), (0, 0, 0), (6, 0), []),
  (.invokestatic 52, (96, 3), (0, 0, 5), (0, 0), []),
  (.aload_n 1, (99, 1), (1, 0, 0), (0, 0), []),
  (.getfield 27, (100, 3), (2, 8, 2), (0, 0), []),
  (.iconst 0, (103, 1), (0, 0, 0), (0, 0), []),
  (.aload_n 0, (104, 1), (0, 0, 0), (0, 0), []),
  (.getfield 27, (105, 3), (2, 8, 2), (0, 0), []),
  (.iconst 0, (108, 1), (0, 0, 0), (0, 0), []),
  (.bipush 24, (109, 2), (0, 0, 0), (24, 0), []),
  (.invokestatic 52, (111, 3), (0, 0, 5), (0, 0), []),
  (.return_, (114, 1), (0, 0, 0), (0, 0), [])]
def mm_r36 : List (List mm_R) := [mm_r36_0, mm_r36_1]
/-- 37: GlobeCorner$Globe.isAllSoBut(ILGlobeCorner$Rows;)Z -/
def mm_r37_0 : List mm_R := [
  (.iconst 0, (0, 1), (0, 0, 0), (0, 0), []),
  (.istore_n 3, (1, 1), (3, 0, 0), (0, 0), []),
  (.iload_n 3, (2, 1), (3, 0, 0), (0, 0), []),
  (.bipush 12, (3, 2), (0, 0, 0), (12, 0), []),
  (.if_icmp .ge 25, (5, 3), (0, 17, 0), (0, 0), []),
  (.iload_n 3, (8, 1), (3, 0, 0), (0, 0), []),
  (.iload_n 1, (9, 1), (1, 0, 0), (0, 0), []),
  (.if_icmp .eq 14, (10, 3), (0, 15, 0), (0, 0), []),
  (.aload_n 0, (13, 1), (0, 0, 0), (0, 0), []),
  (.iload_n 3, (14, 1), (3, 0, 0), (0, 0), []),
  (.aload_n 2, (15, 1), (2, 0, 0), (0, 0), []),
  (.invokevirtual 103, (16, 3), (38, 3, 1), (0, 0), []),
  (.ifCond .ne 5, (19, 3), (0, 15, 0), (0, 0), []),
  (.iconst 0, (22, 1), (0, 0, 0), (0, 0), []),
  (.ireturn, (23, 1), (1, 0, 0), (0, 0), []),
  (.iinc 3 1, (24, 3), (3, 0, 0), (1, 0), []),
  (.goto (-25), (27, 3), (0, 2, 0), (0, 0), []),
  (.iconst 1, (30, 1), (0, 0, 0), (1, 0), []),
  (.ireturn, (31, 1), (1, 0, 0), (0, 0), [])]
def mm_r37 : List (List mm_R) := [mm_r37_0]
/-- 38: GlobeCorner$Globe.isSo(ILGlobeCorner$Rows;)Z -/
def mm_r38_0 : List mm_R := [
  (.iconst (-1), (0, 1), (0, 0, 0), ((-1), 0), []),
  (.istore_n 3, (1, 1), (3, 0, 0), (0, 0), []),
  (.iconst 0, (2, 1), (0, 0, 0), (0, 0), []),
  (.istore 4, (3, 2), (4, 0, 0), (0, 0), []),
  (.iload 4, (5, 2), (4, 0, 0), (0, 0), []),
  (.aload_n 2, (7, 1), (2, 0, 0), (0, 0), []),
  (.getfield 107, (8, 3), (5, 3, 0), (0, 0), []),
  (.if_icmp .ge 32, (11, 3), (0, 23, 0), (0, 0), []),
  (.aload_n 2, (14, 1), (2, 0, 0), (0, 0), []),
  (.getfield 112, (15, 3), (5, 0, 2), (0, 0), []),
  (.iload 4, (18, 2), (4, 0, 0), (0, 0), []),
  (.iaload, (20, 1), (0, 0, 0), (0, 0), []),
  (.iload_n 1, (21, 1), (1, 0, 0), (0, 0), []),
  (.if_icmp .ne 15, (22, 3), (0, 21, 0), (0, 0), []),
  (.iload_n 3, (25, 1), (3, 0, 0), (0, 0), []),
  (.aload_n 2, (26, 1), (2, 0, 0), (0, 0), []),
  (.getfield 115, (27, 3), (5, 1, 2), (0, 0), []),
  (.iload 4, (30, 2), (4, 0, 0), (0, 0), []),
  (.iaload, (32, 1), (0, 0, 0), (0, 0), []),
  (.invokestatic 90, (33, 3), (0, 0, 6), (0, 0), []),
  (.istore_n 3, (36, 1), (3, 0, 0), (0, 0), []),
  (.iinc 4 1, (37, 3), (4, 0, 0), (1, 0), []),
  (.goto (-35), (40, 3), (0, 4, 0), (0, 0), []),
  (.aload_n 0, (43, 1), (0, 0, 0), (0, 0), []),
  (.getfield 9, (44, 3), (2, 3, 2), (0, 0), []),
  (.iload_n 1, (47, 1), (1, 0, 0), (0, 0), []),
  (.iaload, (48, 1), (0, 0, 0), (0, 0), []),
  (.istore 4, (49, 2), (4, 0, 0), (0, 0), []),
  (.iconst 0, (51, 1), (0, 0, 0), (0, 0), []),
  (.istore 5, (52, 2), (5, 0, 0), (0, 0), []),
  (.iload 5, (54, 2), (5, 0, 0), (0, 0), []),
  (.iload_n 3, (56, 1), (3, 0, 0), (0, 0), [])]
def mm_r38_1 : List mm_R := [
  (.if_icmp .gt 87, (57, 3), (0, 75, 0), (0, 0), []),
  (.iconst 0, (60, 1), (0, 0, 0), (0, 0), []),
  (.istore 6, (61, 2), (6, 0, 0), (0, 0), []),
  (.iload 6, (63, 2), (6, 0, 0), (0, 0), []),
  (.aload_n 2, (65, 1), (2, 0, 0), (0, 0), []),
  (.getfield 107, (66, 3), (5, 3, 0), (0, 0), []),
  (.if_icmp .ge 58, (69, 3), (0, 67, 0), (0, 0), []),
  (.aload_n 2, (72, 1), (2, 0, 0), (0, 0), []),
  (.getfield 112, (73, 3), (5, 0, 2), (0, 0), []),
  (.iload 6, (76, 2), (6, 0, 0), (0, 0), []),
  (.iaload, (78, 1), (0, 0, 0), (0, 0), []),
  (.iload_n 1, (79, 1), (1, 0, 0), (0, 0), []),
  (.if_icmp .ne 19, (80, 3), (0, 53, 0), (0, 0), []),
  (.aload_n 2, (83, 1), (2, 0, 0), (0, 0), []),
  (.getfield 115, (84, 3), (5, 1, 2), (0, 0), []),
  (.iload 6, (87, 2), (6, 0, 0), (0, 0), []),
  (.iaload, (89, 1), (0, 0, 0), (0, 0), []),
  (.iload 5, (90, 2), (5, 0, 0), (0, 0), []),
  (.if_icmp .ne 7, (92, 3), (0, 53, 0), (0, 0), []),
  (.iconst 1, (95, 1), (0, 0, 0), (1, 0), []),
  (.goto 4, (96, 3), (0, 54, 0), (0, 0), []),
  (.iconst 0, (99, 1), (0, 0, 0), (0, 0), []),
  (.istore 7, (100, 2), (7, 0, 0), (0, 0), []),
  (.iload 7, (102, 2), (7, 0, 0), (0, 0), []),
  (.ifCond .eq 17, (104, 3), (0, 65, 0), (0, 0), []),
  (.aload_n 2, (107, 1), (2, 0, 0), (0, 0), []),
  (.getfield 118, (108, 3), (5, 2, 2), (0, 0), []),
  (.iload 6, (111, 2), (6, 0, 0), (0, 0), []),
  (.iaload, (113, 1), (0, 0, 0), (0, 0), []),
  (.iload 4, (114, 2), (4, 0, 0), (0, 0), []),
  (.if_icmp .eq 5, (116, 3), (0, 65, 0), (0, 0), []),
  (.iconst 0, (119, 1), (0, 0, 0), (0, 0), [])]
def mm_r38_2 : List mm_R := [
  (.ireturn, (120, 1), (1, 0, 0), (0, 0), []),
  (.iinc 6 1, (121, 3), (6, 0, 0), (1, 0), []),
  (.goto (-61), (124, 3), (0, 35, 0), (0, 0), []),
  (.aload_n 0, (127, 1), (0, 0, 0), (0, 0), []),
  (.iload_n 1, (128, 1), (1, 0, 0), (0, 0), []),
  (.iload 4, (129, 2), (4, 0, 0), (0, 0), []),
  (.iload 5, (131, 2), (5, 0, 0), (0, 0), []),
  (.invokevirtual 79, (133, 3), (33, 4, 1), (0, 0), []),
  (.istore 4, (136, 2), (4, 0, 0), (0, 0), []),
  (.iinc 5 1, (138, 3), (5, 0, 0), (1, 0), []),
  (.goto (-87), (141, 3), (0, 30, 0), (0, 0), []),
  (.iconst 1, (144, 1), (0, 0, 0), (1, 0), []),
  (.ireturn, (145, 1), (1, 0, 0), (0, 0), [])]
def mm_r38 : List (List mm_R) := [mm_r38_0, mm_r38_1, mm_r38_2]
/-- 39: GlobeCorner$Globe.carryFingers(I)V -/
def mm_r39_0 : List mm_R := [
  (.iconst 0, (0, 1), (0, 0, 0), (0, 0), []),
  (.istore_n 2, (1, 1), (2, 0, 0), (0, 0), []),
  (.iload_n 2, (2, 1), (2, 0, 0), (0, 0), []),
  (.aload_n 0, (3, 1), (0, 0, 0), (0, 0), []),
  (.getfield 45, (4, 3), (2, 1, 0), (0, 0), []),
  (.if_icmp .ge 35, (7, 3), (0, 25, 0), (0, 0), []),
  (.aload_n 0, (10, 1), (0, 0, 0), (0, 0), []),
  (.getfield 21, (11, 3), (2, 6, 2), (0, 0), []),
  (.iload_n 2, (14, 1), (2, 0, 0), (0, 0), []),
  (.iaload, (15, 1), (0, 0, 0), (0, 0), []),
  (.ifCond .lt 20, (16, 3), (0, 23, 0), (0, 0), []),
  (.aload_n 0, (19, 1), (0, 0, 0), (0, 0), []),
  (.getfield 21, (20, 3), (2, 6, 2), (0, 0), []),
  (.iload_n 2, (23, 1), (2, 0, 0), (0, 0), []),
  (.aload_n 0, (24, 1), (0, 0, 0), (0, 0), []),
  (.getfield 21, (25, 3), (2, 6, 2), (0, 0), []),
  (.iload_n 2, (28, 1), (2, 0, 0), (0, 0), []),
  (.iaload, (29, 1), (0, 0, 0), (0, 0), []),
  (.iload_n 1, (30, 1), (1, 0, 0), (0, 0), []),
  (.iadd, (31, 1), (0, 0, 0), (0, 0), []),
  (.bipush 12, (32, 2), (0, 0, 0), (12, 0), []),
  (.irem, (34, 1), (0, 0, 0), (0, 0), []),
  (.iastore, (35, 1), (0, 0, 0), (0, 0), []),
  (.iinc 2 1, (36, 3), (2, 0, 0), (1, 0), []),
  (.goto (-37), (39, 3), (0, 2, 0), (0, 0), []),
  (.return_, (42, 1), (0, 0, 0), (0, 0), [])]
def mm_r39 : List (List mm_R) := [mm_r39_0]
/-- 40: GlobeCorner$Globe.fingersOnPlaces()I -/
def mm_r40_0 : List mm_R := [
  (.iconst 0, (0, 1), (0, 0, 0), (0, 0), []),
  (.istore_n 1, (1, 1), (1, 0, 0), (0, 0), []),
  (.iconst 0, (2, 1), (0, 0, 0), (0, 0), []),
  (.istore_n 2, (3, 1), (2, 0, 0), (0, 0), []),
  (.iload_n 2, (4, 1), (2, 0, 0), (0, 0), []),
  (.aload_n 0, (5, 1), (0, 0, 0), (0, 0), []),
  (.getfield 45, (6, 3), (2, 1, 0), (0, 0), []),
  (.if_icmp .ge 21, (9, 3), (0, 16, 0), (0, 0), []),
  (.aload_n 0, (12, 1), (0, 0, 0), (0, 0), []),
  (.getfield 21, (13, 3), (2, 6, 2), (0, 0), []),
  (.iload_n 2, (16, 1), (2, 0, 0), (0, 0), []),
  (.iaload, (17, 1), (0, 0, 0), (0, 0), []),
  (.ifCond .lt 6, (18, 3), (0, 14, 0), (0, 0), []),
  (.iinc 1 1, (21, 3), (1, 0, 0), (1, 0), []),
  (.iinc 2 1, (24, 3), (2, 0, 0), (1, 0), []),
  (.goto (-23), (27, 3), (0, 4, 0), (0, 0), []),
  (.iload_n 1, (30, 1), (1, 0, 0), (0, 0), []),
  (.ireturn, (31, 1), (0, 0, 0), (0, 0), [])]
def mm_r40 : List (List mm_R) := [mm_r40_0]
/-- 41: GlobeCorner$Globe.allNeedBehind(I)I -/
def mm_r41_0 : List mm_R := [
  (.iconst 0, (0, 1), (0, 0, 0), (0, 0), []),
  (.istore_n 2, (1, 1), (2, 0, 0), (0, 0), []),
  (.iconst 0, (2, 1), (0, 0, 0), (0, 0), []),
  (.istore_n 3, (3, 1), (3, 0, 0), (0, 0), []),
  (.iload_n 3, (4, 1), (3, 0, 0), (0, 0), []),
  (.bipush 12, (5, 2), (0, 0, 0), (12, 0), []),
  (.if_icmp .ge 18, (7, 3), (0, 16, 0), (0, 0), []),
  (.iload_n 2, (10, 1), (2, 0, 0), (0, 0), []),
  (.aload_n 0, (11, 1), (0, 0, 0), (0, 0), []),
  (.iload_n 3, (12, 1), (3, 0, 0), (0, 0), []),
  (.iload_n 1, (13, 1), (1, 0, 0), (0, 0), []),
  (.invokevirtual 93, (14, 3), (42, 3, 1), (0, 0), []),
  (.iadd, (17, 1), (0, 0, 0), (0, 0), []),
  (.istore_n 2, (18, 1), (2, 0, 0), (0, 0), []),
  (.iinc 3 1, (19, 3), (3, 0, 0), (1, 0), []),
  (.goto (-18), (22, 3), (0, 4, 0), (0, 0), []),
  (.iload_n 2, (25, 1), (2, 0, 0), (0, 0), []),
  (.ireturn, (26, 1), (0, 0, 0), (0, 0), [])]
def mm_r41 : List (List mm_R) := [mm_r41_0]
/-- 42: GlobeCorner$Globe.needBehind(II)I -/
def mm_r42_0 : List mm_R := [
  (.aload_n 0, (0, 1), (0, 0, 0), (0, 0), []),
  (.getfield 9, (1, 3), (2, 3, 2), (0, 0), []),
  (.iload_n 1, (4, 1), (1, 0, 0), (0, 0), []),
  (.iaload, (5, 1), (0, 0, 0), (0, 0), []),
  (.istore_n 3, (6, 1), (3, 0, 0), (0, 0), []),
  (.iconst 0, (7, 1), (0, 0, 0), (0, 0), []),
  (.istore 4, (8, 2), (4, 0, 0), (0, 0), []),
  (.iload 4, (10, 2), (4, 0, 0), (0, 0), []),
  (.iload_n 2, (12, 1), (2, 0, 0), (0, 0), []),
  (.if_icmp .ge 18, (13, 3), (0, 18, 0), (0, 0), []),
  (.aload_n 0, (16, 1), (0, 0, 0), (0, 0), []),
  (.iload_n 1, (17, 1), (1, 0, 0), (0, 0), []),
  (.iload_n 3, (18, 1), (3, 0, 0), (0, 0), []),
  (.iload 4, (19, 2), (4, 0, 0), (0, 0), []),
  (.invokevirtual 79, (21, 3), (33, 4, 1), (0, 0), []),
  (.istore_n 3, (24, 1), (3, 0, 0), (0, 0), []),
  (.iinc 4 1, (25, 3), (4, 0, 0), (1, 0), []),
  (.goto (-18), (28, 3), (0, 7, 0), (0, 0), []),
  (.iload_n 3, (31, 1), (3, 0, 0), (0, 0), []),
  (.ireturn, (32, 1), (0, 0, 0), (0, 0), [])]
def mm_r42 : List (List mm_R) := [mm_r42_0]
/-- 43: GlobeCorner$Globe.wellBehind(I)I -/
def mm_r43_0 : List mm_R := [
  (.iconst 0, (0, 1), (0, 0, 0), (0, 0), []),
  (.istore_n 2, (1, 1), (2, 0, 0), (0, 0), []),
  (.iconst 0, (2, 1), (0, 0, 0), (0, 0), []),
  (.istore_n 3, (3, 1), (3, 0, 0), (0, 0), []),
  (.iload_n 3, (4, 1), (3, 0, 0), (0, 0), []),
  (.bipush 12, (5, 2), (0, 0, 0), (12, 0), []),
  (.if_icmp .ge 21, (7, 3), (0, 15, 0), (0, 0), []),
  (.aload_n 0, (10, 1), (0, 0, 0), (0, 0), []),
  (.iload_n 3, (11, 1), (3, 0, 0), (0, 0), []),
  (.iload_n 1, (12, 1), (1, 0, 0), (0, 0), []),
  (.invokevirtual 93, (13, 3), (42, 3, 1), (0, 0), []),
  (.ifCond .ne 6, (16, 3), (0, 13, 0), (0, 0), []),
  (.iinc 2 1, (19, 3), (2, 0, 0), (1, 0), []),
  (.iinc 3 1, (22, 3), (3, 0, 0), (1, 0), []),
  (.goto (-21), (25, 3), (0, 4, 0), (0, 0), []),
  (.iload_n 2, (28, 1), (2, 0, 0), (0, 0), []),
  (.ireturn, (29, 1), (0, 0, 0), (0, 0), [])]
def mm_r43 : List (List mm_R) := [mm_r43_0]
/-- 44: GlobeCorner$Globe.goHour()V -/
def mm_r44_0 : List mm_R := [
  (.iconst 0, (0, 1), (0, 0, 0), (0, 0), []),
  (.istore_n 1, (1, 1), (1, 0, 0), (0, 0), []),
  (.iload_n 1, (2, 1), (1, 0, 0), (0, 0), []),
  (.bipush 12, (3, 2), (0, 0, 0), (12, 0), []),
  (.if_icmp .ge 27, (5, 3), (0, 19, 0), (0, 0), []),
  (.aload_n 0, (8, 1), (0, 0, 0), (0, 0), []),
  (.getfield 9, (9, 3), (2, 3, 2), (0, 0), []),
  (.iload_n 1, (12, 1), (1, 0, 0), (0, 0), []),
  (.aload_n 0, (13, 1), (0, 0, 0), (0, 0), []),
  (.iload_n 1, (14, 1), (1, 0, 0), (0, 0), []),
  (.aload_n 0, (15, 1), (0, 0, 0), (0, 0), []),
  (.getfield 9, (16, 3), (2, 3, 2), (0, 0), []),
  (.iload_n 1, (19, 1), (1, 0, 0), (0, 0), []),
  (.iaload, (20, 1), (0, 0, 0), (0, 0), []),
  (.iconst 0, (21, 1), (0, 0, 0), (0, 0), []),
  (.invokevirtual 79, (22, 3), (33, 4, 1), (0, 0), []),
  (.iastore, (25, 1), (0, 0, 0), (0, 0), []),
  (.iinc 1 1, (26, 3), (1, 0, 0), (1, 0), []),
  (.goto (-27), (29, 3), (0, 2, 0), (0, 0), []),
  (.iconst 0, (32, 1), (0, 0, 0), (0, 0), []),
  (.istore_n 1, (33, 1), (1, 0, 0), (0, 0), []),
  (.iload_n 1, (34, 1), (1, 0, 0), (0, 0), []),
  (.aload_n 0, (35, 1), (0, 0, 0), (0, 0), []),
  (.getfield 45, (36, 3), (2, 1, 0), (0, 0), []),
  (.if_icmp .ge 28, (39, 3), (0, 40, 0), (0, 0), []),
  (.aload_n 0, (42, 1), (0, 0, 0), (0, 0), []),
  (.getfield 21, (43, 3), (2, 6, 2), (0, 0), []),
  (.iload_n 1, (46, 1), (1, 0, 0), (0, 0), []),
  (.iaload, (47, 1), (0, 0, 0), (0, 0), []),
  (.ifCond .lt 13, (48, 3), (0, 38, 0), (0, 0), []),
  (.aload_n 0, (51, 1), (0, 0, 0), (0, 0), []),
  (.getfield 24, (52, 3), (2, 7, 2), (0, 0), [])]
def mm_r44_1 : List mm_R := [
  (.iload_n 1, (55, 1), (1, 0, 0), (0, 0), []),
  (.dup2, (56, 1), (0, 0, 0), (0, 0), []),
  (.iaload, (57, 1), (0, 0, 0), (0, 0), []),
  (.iconst 1, (58, 1), (0, 0, 0), (1, 0), []),
  (.iadd, (59, 1), (0, 0, 0), (0, 0), []),
  (.iastore, (60, 1), (0, 0, 0), (0, 0), []),
  (.iinc 1 1, (61, 3), (1, 0, 0), (1, 0), []),
  (.goto (-30), (64, 3), (0, 21, 0), (0, 0), []),
  (.aload_n 0, (67, 1), (0, 0, 0), (0, 0), []),
  (.dup, (68, 1), (0, 0, 0), (0, 0), []),
  (.getfield 41, (69, 3), (2, 0, 0), (0, 0), []),
  (.iconst 1, (72, 1), (0, 0, 0), (1, 0), []),
  (.iadd, (73, 1), (0, 0, 0), (0, 0), []),
  (.putfield 41, (74, 3), (2, 0, 0), (0, 0), []),
  (.return_, (77, 1), (0, 0, 0), (0, 0), [])]
def mm_r44 : List (List mm_R) := [mm_r44_0, mm_r44_1]
/-- 45: GlobeCorner$Globe.gather(II)V -/
def mm_r45_0 : List mm_R := [
  (.iconst 0, (0, 1), (0, 0, 0), (0, 0), []),
  (.istore_n 3, (1, 1), (3, 0, 0), (0, 0), []),
  (.iload_n 3, (2, 1), (3, 0, 0), (0, 0), []),
  (.aload_n 0, (3, 1), (0, 0, 0), (0, 0), []),
  (.getfield 45, (4, 3), (2, 1, 0), (0, 0), []),
  (.if_icmp .ge 30, (7, 3), (0, 22, 0), (0, 0), []),
  (.aload_n 0, (10, 1), (0, 0, 0), (0, 0), []),
  (.getfield 21, (11, 3), (2, 6, 2), (0, 0), []),
  (.iload_n 3, (14, 1), (3, 0, 0), (0, 0), []),
  (.iload_n 1, (15, 1), (1, 0, 0), (0, 0), []),
  (.iload_n 3, (16, 1), (3, 0, 0), (0, 0), []),
  (.ishr, (17, 1), (0, 0, 0), (0, 0), []),
  (.iconst 1, (18, 1), (0, 0, 0), (1, 0), []),
  (.iand, (19, 1), (0, 0, 0), (0, 0), []),
  (.iconst 1, (20, 1), (0, 0, 0), (1, 0), []),
  (.if_icmp .ne 7, (21, 3), (0, 18, 0), (0, 0), []),
  (.iload_n 2, (24, 1), (2, 0, 0), (0, 0), []),
  (.goto 5, (25, 3), (0, 19, 0), (0, 0), []),
  (.bipush (-5), (28, 2), (0, 0, 0), ((-5), 0), []),
  (.iastore, (30, 1), (0, 0, 0), (0, 0), []),
  (.iinc 3 1, (31, 3), (3, 0, 0), (1, 0), []),
  (.goto (-32), (34, 3), (0, 2, 0), (0, 0), []),
  (.return_, (37, 1), (0, 0, 0), (0, 0), [])]
def mm_r45 : List (List mm_R) := [mm_r45_0]
/-- 46: GlobeCorner$Globe.goStep(II)V -/
def mm_r46_0 : List mm_R := [
  (.iload_n 1, (0, 1), (1, 0, 0), (0, 0), []),
  (.tableswitch 67 0 3 #[31, 38, 49, 57], (1, 31), (0, 21, 0), (0, 0), [(0, 2), (1, 5), (2, 11), (3, 15)]),
  (.aload_n 0, (32, 1), (0, 0, 0), (0, 0), []),
  (.invokevirtual 96, (33, 3), (44, 1, 1), (0, 0), []),
  (.goto 32, (36, 3), (0, 21, 0), (0, 0), []),
  (.aload_n 0, (39, 1), (0, 0, 0), (0, 0), []),
  (.getfield 21, (40, 3), (2, 6, 2), (0, 0), []),
  (.iload_n 2, (43, 1), (2, 0, 0), (0, 0), []),
  (.bipush (-5), (44, 2), (0, 0, 0), ((-5), 0), []),
  (.iastore, (46, 1), (0, 0, 0), (0, 0), []),
  (.goto 21, (47, 3), (0, 21, 0), (0, 0), []),
  (.aload_n 0, (50, 1), (0, 0, 0), (0, 0), []),
  (.iload_n 2, (51, 1), (2, 0, 0), (0, 0), []),
  (.invokevirtual 99, (52, 3), (39, 2, 1), (0, 0), []),
  (.goto 13, (55, 3), (0, 21, 0), (0, 0), []),
  (.aload_n 0, (58, 1), (0, 0, 0), (0, 0), []),
  (.getfield 9, (59, 3), (2, 3, 2), (0, 0), []),
  (.iload_n 2, (62, 1), (2, 0, 0), (0, 0), []),
  (.iconst 0, (63, 1), (0, 0, 0), (0, 0), []),
  (.iastore, (64, 1), (0, 0, 0), (0, 0), []),
  (.goto 3, (65, 3), (0, 21, 0), (0, 0), []),
  (.return_, (68, 1), (0, 0, 0), (0, 0), [])]
def mm_r46 : List (List mm_R) := [mm_r46_0]
/-- 47: GlobeCorner$Globe.allStood()I -/
def mm_r47_0 : List mm_R := [
  (.iconst 0, (0, 1), (0, 0, 0), (0, 0), []),
  (.istore_n 1, (1, 1), (1, 0, 0), (0, 0), []),
  (.iconst 0, (2, 1), (0, 0, 0), (0, 0), []),
  (.istore_n 2, (3, 1), (2, 0, 0), (0, 0), []),
  (.iload_n 2, (4, 1), (2, 0, 0), (0, 0), []),
  (.aload_n 0, (5, 1), (0, 0, 0), (0, 0), []),
  (.getfield 45, (6, 3), (2, 1, 0), (0, 0), []),
  (.if_icmp .ge 18, (9, 3), (0, 17, 0), (0, 0), []),
  (.iload_n 1, (12, 1), (1, 0, 0), (0, 0), []),
  (.aload_n 0, (13, 1), (0, 0, 0), (0, 0), []),
  (.getfield 24, (14, 3), (2, 7, 2), (0, 0), []),
  (.iload_n 2, (17, 1), (2, 0, 0), (0, 0), []),
  (.iaload, (18, 1), (0, 0, 0), (0, 0), []),
  (.iadd, (19, 1), (0, 0, 0), (0, 0), []),
  (.istore_n 1, (20, 1), (1, 0, 0), (0, 0), []),
  (.iinc 2 1, (21, 3), (2, 0, 0), (1, 0), []),
  (.goto (-20), (24, 3), (0, 4, 0), (0, 0), []),
  (.iload_n 1, (27, 1), (1, 0, 0), (0, 0), []),
  (.ireturn, (28, 1), (0, 0, 0), (0, 0), [])]
def mm_r47 : List (List mm_R) := [mm_r47_0]
/-- 48: GlobeCorner$Posts.<init>()V -/
def mm_r48_0 : List mm_R := [
  (.aload_n 0, (0, 1), (0, 0, 0), (0, 0), []),
  (.invokespecial 3, (1, 3), (0, 0, 4), (0, 0), []),
  (.aload_n 0, (4, 1), (0, 0, 0), (0, 0), []),
  (.bipush 72, (5, 2), (0, 0, 0), (72, 0), []),
  (.newarray .int, (7, 2), (1, 0, 0), (0, 0), []),
  (.putfield 9, (9, 3), (3, 0, 2), (0, 0), []),
  (.aload_n 0, (12, 1), (0, 0, 0), (0, 0), []),
  (.sipush 4096, (13, 3), (0, 0, 0), (4096, 0), []),
  (.newarray .int, (16, 2), (1, 0, 0), (0, 0), []),
  (.putfield 15, (18, 3), (3, 1, 2), (0, 0), []),
  (.return_, (21, 1), (0, 0, 0), (0, 0), [])]
def mm_r48 : List (List mm_R) := [mm_r48_0]
/-- 49: GlobeCorner$Posts.most(LGlobeCorner$Globe;)I -/
def mm_r49_0 : List mm_R := [
  (.aload_n 0, (0, 1), (0, 0, 0), (0, 0), []),
  (.aload_n 1, (1, 1), (1, 0, 0), (0, 0), []),
  (.invokevirtual 18, (2, 3), (50, 2, 1), (0, 0), []),
  (.aload_n 0, (5, 1), (0, 0, 0), (0, 0), []),
  (.getfield 15, (6, 3), (3, 1, 2), (0, 0), []),
  (.iconst 0, (9, 1), (0, 0, 0), (0, 0), []),
  (.iaload, (10, 1), (0, 0, 0), (0, 0), []),
  (.ireturn, (11, 1), (0, 0, 0), (0, 0), [])]
def mm_r49 : List (List mm_R) := [mm_r49_0]
/-- 50: GlobeCorner$Posts.weigh(LGlobeCorner$Globe;)V -/
def mm_r50_0 : List mm_R := [
  (.iconst 0, (0, 1), (0, 0, 0), (0, 0), []),
  (.istore_n 2, (1, 1), (2, 0, 0), (0, 0), []),
  (.iload_n 2, (2, 1), (2, 0, 0), (0, 0), []),
  (.aload_n 1, (3, 1), (1, 0, 0), (0, 0), []),
  (.getfield 30, (4, 3), (2, 1, 0), (0, 0), []),
  (.if_icmp .ge 54, (7, 3), (0, 34, 0), (0, 0), []),
  (.iconst 0, (10, 1), (0, 0, 0), (0, 0), []),
  (.istore_n 3, (11, 1), (3, 0, 0), (0, 0), []),
  (.iload_n 3, (12, 1), (3, 0, 0), (0, 0), []),
  (.bipush 12, (13, 2), (0, 0, 0), (12, 0), []),
  (.if_icmp .ge 40, (15, 3), (0, 32, 0), (0, 0), []),
  (.aload_n 1, (18, 1), (1, 0, 0), (0, 0), []),
  (.iload_n 2, (19, 1), (2, 0, 0), (0, 0), []),
  (.iload_n 3, (20, 1), (3, 0, 0), (0, 0), []),
  (.iconst 0, (21, 1), (0, 0, 0), (0, 0), []),
  (.invokevirtual 36, (22, 3), (29, 4, 1), (0, 0), []),
  (.istore 4, (25, 2), (4, 0, 0), (0, 0), []),
  (.aload_n 0, (27, 1), (0, 0, 0), (0, 0), []),
  (.getfield 9, (28, 3), (3, 0, 2), (0, 0), []),
  (.iload_n 2, (31, 1), (2, 0, 0), (0, 0), []),
  (.bipush 12, (32, 2), (0, 0, 0), (12, 0), []),
  (.imul, (34, 1), (0, 0, 0), (0, 0), []),
  (.iload_n 3, (35, 1), (3, 0, 0), (0, 0), []),
  (.iadd, (36, 1), (0, 0, 0), (0, 0), []),
  (.iconst 0, (37, 1), (0, 0, 0), (0, 0), []),
  (.bipush 99, (38, 2), (0, 0, 0), (99, 0), []),
  (.iload 4, (40, 2), (4, 0, 0), (0, 0), []),
  (.invokestatic 40, (42, 3), (0, 0, 7), (0, 0), []),
  (.invokestatic 45, (45, 3), (0, 0, 6), (0, 0), []),
  (.iastore, (48, 1), (0, 0, 0), (0, 0), []),
  (.iinc 3 1, (49, 3), (3, 0, 0), (1, 0), []),
  (.goto (-40), (52, 3), (0, 8, 0), (0, 0), [])]
def mm_r50_1 : List mm_R := [
  (.iinc 2 1, (55, 3), (2, 0, 0), (1, 0), []),
  (.goto (-56), (58, 3), (0, 2, 0), (0, 0), []),
  (.aload_n 0, (61, 1), (0, 0, 0), (0, 0), []),
  (.getfield 15, (62, 3), (3, 1, 2), (0, 0), []),
  (.arraylength, (65, 1), (0, 0, 0), (0, 0), []),
  (.iconst 1, (66, 1), (0, 0, 0), (1, 0), []),
  (.isub, (67, 1), (0, 0, 0), (0, 0), []),
  (.istore_n 2, (68, 1), (2, 0, 0), (0, 0), []),
  (.iload_n 2, (69, 1), (2, 0, 0), (0, 0), []),
  (.ifCond .lt 46, (70, 3), (0, 65, 0), (0, 0), []),
  (.iload_n 2, (73, 1), (2, 0, 0), (0, 0), []),
  (.invokestatic 48, (74, 3), (5, 1, 0), (0, 0), []),
  (.istore_n 3, (77, 1), (3, 0, 0), (0, 0), []),
  (.iload_n 3, (78, 1), (3, 0, 0), (0, 0), []),
  (.aload_n 1, (79, 1), (1, 0, 0), (0, 0), []),
  (.getfield 30, (80, 3), (2, 1, 0), (0, 0), []),
  (.if_icmp .gt 27, (83, 3), (0, 63, 0), (0, 0), []),
  (.aload_n 0, (86, 1), (0, 0, 0), (0, 0), []),
  (.getfield 15, (87, 3), (3, 1, 2), (0, 0), []),
  (.iload_n 2, (90, 1), (2, 0, 0), (0, 0), []),
  (.iload_n 3, (91, 1), (3, 0, 0), (0, 0), []),
  (.aload_n 1, (92, 1), (1, 0, 0), (0, 0), []),
  (.getfield 30, (93, 3), (2, 1, 0), (0, 0), []),
  (.if_icmp .ne 7, (96, 3), (0, 58, 0), (0, 0), []),
  (.iconst 0, (99, 1), (0, 0, 0), (0, 0), []),
  (.goto 9, (100, 3), (0, 62, 0), (0, 0), []),
  (.aload_n 0, (103, 1), (0, 0, 0), (0, 0), []),
  (.iload_n 3, (104, 1), (3, 0, 0), (0, 0), []),
  (.iload_n 2, (105, 1), (2, 0, 0), (0, 0), []),
  (.invokevirtual 54, (106, 3), (51, 3, 1), (0, 0), []),
  (.iastore, (109, 1), (0, 0, 0), (0, 0), []),
  (.iinc 2 (-1), (110, 3), (2, 0, 0), ((-1), 0), [])]
def mm_r50_2 : List mm_R := [
  (.goto (-44), (113, 3), (0, 40, 0), (0, 0), []),
  (.return_, (116, 1), (0, 0, 0), (0, 0), [])]
def mm_r50 : List (List mm_R) := [mm_r50_0, mm_r50_1, mm_r50_2]
/-- 51: GlobeCorner$Posts.mostOf(II)I -/
def mm_r51_0 : List mm_R := [
  (.iconst 0, (0, 1), (0, 0, 0), (0, 0), []),
  (.istore_n 3, (1, 1), (3, 0, 0), (0, 0), []),
  (.iconst 0, (2, 1), (0, 0, 0), (0, 0), []),
  (.istore 4, (3, 2), (4, 0, 0), (0, 0), []),
  (.iload 4, (5, 2), (4, 0, 0), (0, 0), []),
  (.bipush 12, (7, 2), (0, 0, 0), (12, 0), []),
  (.if_icmp .ge 31, (9, 3), (0, 23, 0), (0, 0), []),
  (.iload_n 2, (12, 1), (2, 0, 0), (0, 0), []),
  (.iload 4, (13, 2), (4, 0, 0), (0, 0), []),
  (.ishr, (15, 1), (0, 0, 0), (0, 0), []),
  (.iconst 1, (16, 1), (0, 0, 0), (1, 0), []),
  (.iand, (17, 1), (0, 0, 0), (0, 0), []),
  (.ifCond .ne 16, (18, 3), (0, 21, 0), (0, 0), []),
  (.iload_n 3, (21, 1), (3, 0, 0), (0, 0), []),
  (.aload_n 0, (22, 1), (0, 0, 0), (0, 0), []),
  (.iload_n 1, (23, 1), (1, 0, 0), (0, 0), []),
  (.iload 4, (24, 2), (4, 0, 0), (0, 0), []),
  (.iload_n 2, (26, 1), (2, 0, 0), (0, 0), []),
  (.invokevirtual 26, (27, 3), (52, 4, 1), (0, 0), []),
  (.invokestatic 45, (30, 3), (0, 0, 6), (0, 0), []),
  (.istore_n 3, (33, 1), (3, 0, 0), (0, 0), []),
  (.iinc 4 1, (34, 3), (4, 0, 0), (1, 0), []),
  (.goto (-32), (37, 3), (0, 4, 0), (0, 0), []),
  (.iload_n 3, (40, 1), (3, 0, 0), (0, 0), []),
  (.ireturn, (41, 1), (0, 0, 0), (0, 0), [])]
def mm_r51 : List (List mm_R) := [mm_r51_0]
/-- 52: GlobeCorner$Posts.withPlace(III)I -/
def mm_r52_0 : List mm_R := [
  (.aload_n 0, (0, 1), (0, 0, 0), (0, 0), []),
  (.getfield 9, (1, 3), (3, 0, 2), (0, 0), []),
  (.iload_n 1, (4, 1), (1, 0, 0), (0, 0), []),
  (.bipush 12, (5, 2), (0, 0, 0), (12, 0), []),
  (.imul, (7, 1), (0, 0, 0), (0, 0), []),
  (.iload_n 2, (8, 1), (2, 0, 0), (0, 0), []),
  (.iadd, (9, 1), (0, 0, 0), (0, 0), []),
  (.iaload, (10, 1), (0, 0, 0), (0, 0), []),
  (.aload_n 0, (11, 1), (0, 0, 0), (0, 0), []),
  (.getfield 15, (12, 3), (3, 1, 2), (0, 0), []),
  (.iload_n 3, (15, 1), (3, 0, 0), (0, 0), []),
  (.iconst 1, (16, 1), (0, 0, 0), (1, 0), []),
  (.iload_n 2, (17, 1), (2, 0, 0), (0, 0), []),
  (.ishl, (18, 1), (0, 0, 0), (0, 0), []),
  (.ior, (19, 1), (0, 0, 0), (0, 0), []),
  (.iaload, (20, 1), (0, 0, 0), (0, 0), []),
  (.iadd, (21, 1), (0, 0, 0), (0, 0), []),
  (.ireturn, (22, 1), (0, 0, 0), (0, 0), [])]
def mm_r52 : List (List mm_R) := [mm_r52_0]
/-- 53: GlobeCorner$Posts.placeOf(LGlobeCorner$Globe;I)I -/
def mm_r53_0 : List mm_R := [
  (.aload_n 0, (0, 1), (0, 0, 0), (0, 0), []),
  (.aload_n 1, (1, 1), (1, 0, 0), (0, 0), []),
  (.invokevirtual 18, (2, 3), (50, 2, 1), (0, 0), []),
  (.iconst 0, (5, 1), (0, 0, 0), (0, 0), []),
  (.istore_n 3, (6, 1), (3, 0, 0), (0, 0), []),
  (.iconst (-1), (7, 1), (0, 0, 0), ((-1), 0), []),
  (.istore 4, (8, 2), (4, 0, 0), (0, 0), []),
  (.iconst 0, (10, 1), (0, 0, 0), (0, 0), []),
  (.istore 5, (11, 2), (5, 0, 0), (0, 0), []),
  (.iload 5, (13, 2), (5, 0, 0), (0, 0), []),
  (.iload_n 2, (15, 1), (2, 0, 0), (0, 0), []),
  (.if_icmp .gt 32, (16, 3), (0, 29, 0), (0, 0), []),
  (.aload_n 0, (19, 1), (0, 0, 0), (0, 0), []),
  (.iload 5, (20, 2), (5, 0, 0), (0, 0), []),
  (.iload_n 3, (22, 1), (3, 0, 0), (0, 0), []),
  (.invokevirtual 22, (23, 3), (54, 3, 1), (0, 0), []),
  (.istore 4, (26, 2), (4, 0, 0), (0, 0), []),
  (.iload 4, (28, 2), (4, 0, 0), (0, 0), []),
  (.ifCond .ge 5, (30, 3), (0, 21, 0), (0, 0), []),
  (.iconst (-1), (33, 1), (0, 0, 0), ((-1), 0), []),
  (.ireturn, (34, 1), (0, 0, 0), (0, 0), []),
  (.iload_n 3, (35, 1), (3, 0, 0), (0, 0), []),
  (.iconst 1, (36, 1), (0, 0, 0), (1, 0), []),
  (.iload 4, (37, 2), (4, 0, 0), (0, 0), []),
  (.ishl, (39, 1), (0, 0, 0), (0, 0), []),
  (.ior, (40, 1), (0, 0, 0), (0, 0), []),
  (.istore_n 3, (41, 1), (3, 0, 0), (0, 0), []),
  (.iinc 5 1, (42, 3), (5, 0, 0), (1, 0), []),
  (.goto (-32), (45, 3), (0, 9, 0), (0, 0), []),
  (.iload 4, (48, 2), (4, 0, 0), (0, 0), []),
  (.ireturn, (50, 1), (0, 0, 0), (0, 0), [])]
def mm_r53 : List (List mm_R) := [mm_r53_0]
/-- 54: GlobeCorner$Posts.firstBest(II)I -/
def mm_r54_0 : List mm_R := [
  (.iconst 0, (0, 1), (0, 0, 0), (0, 0), []),
  (.istore_n 3, (1, 1), (3, 0, 0), (0, 0), []),
  (.iload_n 3, (2, 1), (3, 0, 0), (0, 0), []),
  (.bipush 12, (3, 2), (0, 0, 0), (12, 0), []),
  (.if_icmp .ge 35, (5, 3), (0, 25, 0), (0, 0), []),
  (.iload_n 2, (8, 1), (2, 0, 0), (0, 0), []),
  (.iload_n 3, (9, 1), (3, 0, 0), (0, 0), []),
  (.ishr, (10, 1), (0, 0, 0), (0, 0), []),
  (.iconst 1, (11, 1), (0, 0, 0), (1, 0), []),
  (.iand, (12, 1), (0, 0, 0), (0, 0), []),
  (.ifCond .ne 21, (13, 3), (0, 23, 0), (0, 0), []),
  (.aload_n 0, (16, 1), (0, 0, 0), (0, 0), []),
  (.iload_n 1, (17, 1), (1, 0, 0), (0, 0), []),
  (.iload_n 3, (18, 1), (3, 0, 0), (0, 0), []),
  (.iload_n 2, (19, 1), (2, 0, 0), (0, 0), []),
  (.invokevirtual 26, (20, 3), (52, 4, 1), (0, 0), []),
  (.aload_n 0, (23, 1), (0, 0, 0), (0, 0), []),
  (.getfield 15, (24, 3), (3, 1, 2), (0, 0), []),
  (.iload_n 2, (27, 1), (2, 0, 0), (0, 0), []),
  (.iaload, (28, 1), (0, 0, 0), (0, 0), []),
  (.if_icmp .ne 5, (29, 3), (0, 23, 0), (0, 0), []),
  (.iload_n 3, (32, 1), (3, 0, 0), (0, 0), []),
  (.ireturn, (33, 1), (0, 0, 0), (0, 0), []),
  (.iinc 3 1, (34, 3), (3, 0, 0), (1, 0), []),
  (.goto (-35), (37, 3), (0, 2, 0), (0, 0), []),
  (.iconst (-1), (40, 1), (0, 0, 0), ((-1), 0), []),
  (.ireturn, (41, 1), (0, 0, 0), (0, 0), [])]
def mm_r54 : List (List mm_R) := [mm_r54_0]
/-- 55: GlobeCorner$Reader.<init>()V -/
def mm_r55_0 : List mm_R := [
  (.aload_n 0, (0, 1), (0, 0, 0), (0, 0), []),
  (.invokespecial 3, (1, 3), (0, 0, 4), (0, 0), []),
  (.aload_n 0, (4, 1), (0, 0, 0), (0, 0), []),
  (.bipush 100, (5, 2), (0, 0, 0), (100, 0), []),
  (.newarray .byte, (7, 2), (2, 0, 0), (0, 0), []),
  (.putfield 9, (9, 3), (4, 0, 2), (0, 0), []),
  (.return_, (12, 1), (0, 0, 0), (0, 0), [])]
def mm_r55 : List (List mm_R) := [mm_r55_0]
/-- 56: GlobeCorner$Reader.take(I)I -/
def mm_r56_0 : List mm_R := [
  (.aload_n 0, (0, 1), (0, 0, 0), (0, 0), []),
  (.getfield 15, (1, 3), (4, 1, 0), (0, 0), []),
  (.bipush 100, (4, 2), (0, 0, 0), (100, 0), []),
  (.if_icmp .lt 6, (6, 3), (0, 6, 0), (0, 0), []),
  (.bipush (-4), (9, 2), (0, 0, 0), ((-4), 0), []),
  (.ireturn, (11, 1), (0, 0, 0), (0, 0), []),
  (.aload_n 0, (12, 1), (0, 0, 0), (0, 0), []),
  (.getfield 9, (13, 3), (4, 0, 2), (0, 0), []),
  (.aload_n 0, (16, 1), (0, 0, 0), (0, 0), []),
  (.getfield 15, (17, 3), (4, 1, 0), (0, 0), []),
  (.iload_n 1, (20, 1), (1, 0, 0), (0, 0), []),
  (.i2b, (21, 1), (0, 0, 0), (0, 0), []),
  (.bastore, (22, 1), (0, 0, 0), (0, 0), []),
  (.aload_n 0, (23, 1), (0, 0, 0), (0, 0), []),
  (.dup, (24, 1), (0, 0, 0), (0, 0), []),
  (.getfield 15, (25, 3), (4, 1, 0), (0, 0), []),
  (.iconst 1, (28, 1), (0, 0, 0), (1, 0), []),
  (.iadd, (29, 1), (0, 0, 0), (0, 0), []),
  (.putfield 15, (30, 3), (4, 1, 0), (0, 0), []),
  (.aload_n 0, (33, 1), (0, 0, 0), (0, 0), []),
  (.getfield 15, (34, 3), (4, 1, 0), (0, 0), []),
  (.ireturn, (37, 1), (0, 0, 0), (0, 0), [])]
def mm_r56 : List (List mm_R) := [mm_r56_0]
/-- 57: GlobeCorner$Reader.readInto(LGlobeCorner$School;)I -/
def mm_r57_0 : List mm_R := [
  (.aload_n 0, (0, 1), (0, 0, 0), (0, 0), []),
  (.aload_n 1, (1, 1), (1, 0, 0), (0, 0), []),
  (.putfield 19, (2, 3), (4, 4, 1), (0, 0), []),
  (.aload_n 0, (5, 1), (0, 0, 0), (0, 0), []),
  (.getfield 19, (6, 3), (4, 4, 1), (0, 0), []),
  (.invokevirtual 23, (9, 3), (76, 1, 1), (0, 0), []),
  (.aload_n 0, (12, 1), (0, 0, 0), (0, 0), []),
  (.iconst 0, (13, 1), (0, 0, 0), (0, 0), []),
  (.putfield 28, (14, 3), (4, 2, 0), (0, 0), []),
  (.aload_n 0, (17, 1), (0, 0, 0), (0, 0), []),
  (.invokevirtual 31, (18, 3), (58, 1, 1), (0, 0), []),
  (.istore_n 2, (21, 1), (2, 0, 0), (0, 0), []),
  (.iconst 1, (22, 1), (0, 0, 0), (1, 0), []),
  (.istore_n 3, (23, 1), (3, 0, 0), (0, 0), []),
  (.iload_n 3, (24, 1), (3, 0, 0), (0, 0), []),
  (.bipush 10, (25, 2), (0, 0, 0), (10, 0), []),
  (.if_icmp .ge 46, (27, 3), (0, 37, 0), (0, 0), []),
  (.iload_n 2, (30, 1), (2, 0, 0), (0, 0), []),
  (.ifCond .eq 42, (31, 3), (0, 37, 0), (0, 0), []),
  (.aload_n 0, (34, 1), (0, 0, 0), (0, 0), []),
  (.getfield 28, (35, 3), (4, 2, 0), (0, 0), []),
  (.aload_n 0, (38, 1), (0, 0, 0), (0, 0), []),
  (.getfield 15, (39, 3), (4, 1, 0), (0, 0), []),
  (.if_icmp .ge 31, (42, 3), (0, 37, 0), (0, 0), []),
  (.aload_n 0, (45, 1), (0, 0, 0), (0, 0), []),
  (.bipush 59, (46, 2), (0, 0, 0), (59, 0), []),
  (.invokevirtual 35, (48, 3), (62, 2, 1), (0, 0), []),
  (.ifCond .eq 14, (51, 3), (0, 33, 0), (0, 0), []),
  (.aload_n 0, (54, 1), (0, 0, 0), (0, 0), []),
  (.invokevirtual 31, (55, 3), (58, 1, 1), (0, 0), []),
  (.ifCond .eq 7, (58, 3), (0, 33, 0), (0, 0), []),
  (.iconst 1, (61, 1), (0, 0, 0), (1, 0), [])]
def mm_r57_1 : List mm_R := [
  (.goto 4, (62, 3), (0, 34, 0), (0, 0), []),
  (.iconst 0, (65, 1), (0, 0, 0), (0, 0), []),
  (.istore_n 2, (66, 1), (2, 0, 0), (0, 0), []),
  (.iinc 3 1, (67, 3), (3, 0, 0), (1, 0), []),
  (.goto (-46), (70, 3), (0, 14, 0), (0, 0), []),
  (.iload_n 2, (73, 1), (2, 0, 0), (0, 0), []),
  (.ifCond .eq 14, (74, 3), (0, 44, 0), (0, 0), []),
  (.aload_n 0, (77, 1), (0, 0, 0), (0, 0), []),
  (.getfield 28, (78, 3), (4, 2, 0), (0, 0), []),
  (.aload_n 0, (81, 1), (0, 0, 0), (0, 0), []),
  (.getfield 15, (82, 3), (4, 1, 0), (0, 0), []),
  (.if_icmp .ge 7, (85, 3), (0, 46, 0), (0, 0), []),
  (.iconst 1, (88, 1), (0, 0, 0), (1, 0), []),
  (.goto 4, (89, 3), (0, 47, 0), (0, 0), []),
  (.iconst 0, (92, 1), (0, 0, 0), (0, 0), []),
  (.istore_n 3, (93, 1), (3, 0, 0), (0, 0), []),
  (.aload_n 0, (94, 1), (0, 0, 0), (0, 0), []),
  (.iconst 0, (95, 1), (0, 0, 0), (0, 0), []),
  (.putfield 15, (96, 3), (4, 1, 0), (0, 0), []),
  (.iload_n 3, (99, 1), (3, 0, 0), (0, 0), []),
  (.ifCond .eq 10, (100, 3), (0, 56, 0), (0, 0), []),
  (.aload_n 0, (103, 1), (0, 0, 0), (0, 0), []),
  (.getfield 28, (104, 3), (4, 2, 0), (0, 0), []),
  (.goto 4, (107, 3), (0, 57, 0), (0, 0), []),
  (.iconst (-1), (110, 1), (0, 0, 0), ((-1), 0), []),
  (.ireturn, (111, 1), (0, 0, 0), (0, 0), [])]
def mm_r57 : List (List mm_R) := [mm_r57_0, mm_r57_1]
/-- 58: GlobeCorner$Reader.isClause()Z -/
def mm_r58_0 : List mm_R := [
  (.aload_n 0, (0, 1), (0, 0, 0), (0, 0), []),
  (.invokevirtual 39, (1, 3), (59, 1, 1), (0, 0), []),
  (.bipush 103, (4, 2), (0, 0, 0), (103, 0), []),
  (.if_icmp .ne 8, (6, 3), (0, 7, 0), (0, 0), []),
  (.aload_n 0, (9, 1), (0, 0, 0), (0, 0), []),
  (.invokevirtual 43, (10, 3), (60, 1, 1), (0, 0), []),
  (.ireturn, (13, 1), (1, 0, 0), (0, 0), []),
  (.aload_n 0, (14, 1), (0, 0, 0), (0, 0), []),
  (.invokevirtual 39, (15, 3), (59, 1, 1), (0, 0), []),
  (.bipush 109, (18, 2), (0, 0, 0), (109, 0), []),
  (.if_icmp .ne 7, (20, 3), (0, 13, 0), (0, 0), []),
  (.iconst 1, (23, 1), (0, 0, 0), (1, 0), []),
  (.goto 4, (24, 3), (0, 14, 0), (0, 0), []),
  (.iconst 0, (27, 1), (0, 0, 0), (0, 0), []),
  (.istore_n 1, (28, 1), (1, 0, 0), (0, 0), []),
  (.aload_n 0, (29, 1), (0, 0, 0), (0, 0), []),
  (.iload_n 1, (30, 1), (1, 0, 0), (0, 0), []),
  (.ifCond .eq 8, (31, 3), (0, 20, 0), (0, 0), []),
  (.ldc 46, (34, 2), (3, 0, 1), (0, 0), []),
  (.goto 5, (36, 3), (0, 21, 0), (0, 0), []),
  (.ldc 48, (39, 2), (4, 0, 1), (0, 0), []),
  (.invokevirtual 50, (41, 3), (61, 2, 1), (0, 0), []),
  (.ifCond .eq 10, (44, 3), (0, 26, 0), (0, 0), []),
  (.aload_n 0, (47, 1), (0, 0, 0), (0, 0), []),
  (.invokevirtual 54, (48, 3), (63, 1, 1), (0, 0), []),
  (.ifCond .ne 5, (51, 3), (0, 28, 0), (0, 0), []),
  (.iconst 0, (54, 1), (0, 0, 0), (0, 0), []),
  (.ireturn, (55, 1), (1, 0, 0), (0, 0), []),
  (.iload_n 1, (56, 1), (1, 0, 0), (0, 0), []),
  (.ifCond .eq 10, (57, 3), (0, 33, 0), (0, 0), []),
  (.aload_n 0, (60, 1), (0, 0, 0), (0, 0), []),
  (.getfield 57, (61, 3), (4, 3, 0), (0, 0), [])]
def mm_r58_1 : List mm_R := [
  (.goto 8, (64, 3), (0, 36, 0), (0, 0), []),
  (.aload_n 0, (67, 1), (0, 0, 0), (0, 0), []),
  (.getfield 57, (68, 3), (4, 3, 0), (0, 0), []),
  (.ineg, (71, 1), (0, 0, 0), (0, 0), []),
  (.istore_n 2, (72, 1), (2, 0, 0), (0, 0), []),
  (.aload_n 0, (73, 1), (0, 0, 0), (0, 0), []),
  (.bipush 32, (74, 2), (0, 0, 0), (32, 0), []),
  (.invokevirtual 35, (76, 3), (62, 2, 1), (0, 0), []),
  (.ifCond .eq 11, (79, 3), (0, 45, 0), (0, 0), []),
  (.aload_n 0, (82, 1), (0, 0, 0), (0, 0), []),
  (.iconst 0, (83, 1), (0, 0, 0), (0, 0), []),
  (.invokevirtual 60, (84, 3), (64, 2, 1), (0, 0), []),
  (.ifCond .ne 5, (87, 3), (0, 47, 0), (0, 0), []),
  (.iconst 0, (90, 1), (0, 0, 0), (0, 0), []),
  (.ireturn, (91, 1), (1, 0, 0), (0, 0), []),
  (.aload_n 0, (92, 1), (0, 0, 0), (0, 0), []),
  (.getfield 19, (93, 3), (4, 4, 1), (0, 0), []),
  (.iload_n 2, (96, 1), (2, 0, 0), (0, 0), []),
  (.invokevirtual 63, (97, 3), (79, 2, 1), (0, 0), []),
  (.iconst 1, (100, 1), (0, 0, 0), (1, 0), []),
  (.ireturn, (101, 1), (1, 0, 0), (0, 0), [])]
def mm_r58 : List (List mm_R) := [mm_r58_0, mm_r58_1]
/-- 59: GlobeCorner$Reader.next()I -/
def mm_r59_0 : List mm_R := [
  (.aload_n 0, (0, 1), (0, 0, 0), (0, 0), []),
  (.getfield 28, (1, 3), (4, 2, 0), (0, 0), []),
  (.ifCond .lt 26, (4, 3), (0, 14, 0), (0, 0), []),
  (.aload_n 0, (7, 1), (0, 0, 0), (0, 0), []),
  (.getfield 28, (8, 3), (4, 2, 0), (0, 0), []),
  (.aload_n 0, (11, 1), (0, 0, 0), (0, 0), []),
  (.getfield 15, (12, 3), (4, 1, 0), (0, 0), []),
  (.if_icmp .ge 15, (15, 3), (0, 14, 0), (0, 0), []),
  (.aload_n 0, (18, 1), (0, 0, 0), (0, 0), []),
  (.getfield 9, (19, 3), (4, 0, 2), (0, 0), []),
  (.aload_n 0, (22, 1), (0, 0, 0), (0, 0), []),
  (.getfield 28, (23, 3), (4, 2, 0), (0, 0), []),
  (.baload, (26, 1), (0, 0, 0), (0, 0), []),
  (.goto 4, (27, 3), (0, 15, 0), (0, 0), []),
  (.iconst (-1), (30, 1), (0, 0, 0), ((-1), 0), []),
  (.ireturn, (31, 1), (0, 0, 0), (0, 0), [])]
def mm_r59 : List (List mm_R) := [mm_r59_0]
/-- 60: GlobeCorner$Reader.isGrow()Z -/
def mm_r60_0 : List mm_R := [
  (.aload_n 0, (0, 1), (0, 0, 0), (0, 0), []),
  (.ldc 67, (1, 2), (5, 0, 1), (0, 0), []),
  (.invokevirtual 50, (3, 3), (61, 2, 1), (0, 0), []),
  (.ifCond .eq 10, (6, 3), (0, 7, 0), (0, 0), []),
  (.aload_n 0, (9, 1), (0, 0, 0), (0, 0), []),
  (.invokevirtual 54, (10, 3), (63, 1, 1), (0, 0), []),
  (.ifCond .ne 5, (13, 3), (0, 9, 0), (0, 0), []),
  (.iconst 0, (16, 1), (0, 0, 0), (0, 0), []),
  (.ireturn, (17, 1), (1, 0, 0), (0, 0), []),
  (.aload_n 0, (18, 1), (0, 0, 0), (0, 0), []),
  (.getfield 19, (19, 3), (4, 4, 1), (0, 0), []),
  (.aload_n 0, (22, 1), (0, 0, 0), (0, 0), []),
  (.getfield 57, (23, 3), (4, 3, 0), (0, 0), []),
  (.putfield 69, (26, 3), (6, 0, 0), (0, 0), []),
  (.iconst 1, (29, 1), (0, 0, 0), (1, 0), []),
  (.ireturn, (30, 1), (1, 0, 0), (0, 0), [])]
def mm_r60 : List (List mm_R) := [mm_r60_0]
/-- 61: GlobeCorner$Reader.isWord(Ljava/lang/String;)Z -/
def mm_r61_0 : List mm_R := [
  (.iconst 0, (0, 1), (0, 0, 0), (0, 0), []),
  (.istore_n 2, (1, 1), (2, 0, 0), (0, 0), []),
  (.iload_n 2, (2, 1), (2, 0, 0), (0, 0), []),
  (.aload_n 1, (3, 1), (1, 0, 0), (0, 0), []),
  (.invokevirtual 99, (4, 3), (6, 1, 1), (0, 0), []),
  (.if_icmp .ge 23, (7, 3), (0, 16, 0), (0, 0), []),
  (.aload_n 0, (10, 1), (0, 0, 0), (0, 0), []),
  (.aload_n 1, (11, 1), (1, 0, 0), (0, 0), []),
  (.iload_n 2, (12, 1), (2, 0, 0), (0, 0), []),
  (.invokevirtual 101, (13, 3), (8, 2, 1), (0, 0), []),
  (.invokevirtual 35, (16, 3), (62, 2, 1), (0, 0), []),
  (.ifCond .ne 5, (19, 3), (0, 14, 0), (0, 0), []),
  (.iconst 0, (22, 1), (0, 0, 0), (0, 0), []),
  (.ireturn, (23, 1), (1, 0, 0), (0, 0), []),
  (.iinc 2 1, (24, 3), (2, 0, 0), (1, 0), []),
  (.goto (-25), (27, 3), (0, 2, 0), (0, 0), []),
  (.iconst 1, (30, 1), (0, 0, 0), (1, 0), []),
  (.ireturn, (31, 1), (1, 0, 0), (0, 0), [])]
def mm_r61 : List (List mm_R) := [mm_r61_0]
/-- 62: GlobeCorner$Reader.isSign(I)Z -/
def mm_r62_0 : List mm_R := [
  (.aload_n 0, (0, 1), (0, 0, 0), (0, 0), []),
  (.invokevirtual 39, (1, 3), (59, 1, 1), (0, 0), []),
  (.iload_n 1, (4, 1), (1, 0, 0), (0, 0), []),
  (.if_icmp .eq 5, (5, 3), (0, 6, 0), (0, 0), []),
  (.iconst 0, (8, 1), (0, 0, 0), (0, 0), []),
  (.ireturn, (9, 1), (1, 0, 0), (0, 0), []),
  (.aload_n 0, (10, 1), (0, 0, 0), (0, 0), []),
  (.dup, (11, 1), (0, 0, 0), (0, 0), []),
  (.getfield 28, (12, 3), (4, 2, 0), (0, 0), []),
  (.iconst 1, (15, 1), (0, 0, 0), (1, 0), []),
  (.iadd, (16, 1), (0, 0, 0), (0, 0), []),
  (.putfield 28, (17, 3), (4, 2, 0), (0, 0), []),
  (.iconst 1, (20, 1), (0, 0, 0), (1, 0), []),
  (.ireturn, (21, 1), (1, 0, 0), (0, 0), [])]
def mm_r62 : List (List mm_R) := [mm_r62_0]
/-- 63: GlobeCorner$Reader.isNumber()Z -/
def mm_r63_0 : List mm_R := [
  (.iconst 0, (0, 1), (0, 0, 0), (0, 0), []),
  (.istore_n 1, (1, 1), (1, 0, 0), (0, 0), []),
  (.aload_n 0, (2, 1), (0, 0, 0), (0, 0), []),
  (.iconst 0, (3, 1), (0, 0, 0), (0, 0), []),
  (.putfield 57, (4, 3), (4, 3, 0), (0, 0), []),
  (.iload_n 1, (7, 1), (1, 0, 0), (0, 0), []),
  (.iconst 2, (8, 1), (0, 0, 0), (2, 0), []),
  (.if_icmp .ge 82, (9, 3), (0, 49, 0), (0, 0), []),
  (.aload_n 0, (12, 1), (0, 0, 0), (0, 0), []),
  (.getfield 28, (13, 3), (4, 2, 0), (0, 0), []),
  (.aload_n 0, (16, 1), (0, 0, 0), (0, 0), []),
  (.getfield 15, (17, 3), (4, 1, 0), (0, 0), []),
  (.if_icmp .ge 71, (20, 3), (0, 49, 0), (0, 0), []),
  (.aload_n 0, (23, 1), (0, 0, 0), (0, 0), []),
  (.getfield 9, (24, 3), (4, 0, 2), (0, 0), []),
  (.aload_n 0, (27, 1), (0, 0, 0), (0, 0), []),
  (.getfield 28, (28, 3), (4, 2, 0), (0, 0), []),
  (.baload, (31, 1), (0, 0, 0), (0, 0), []),
  (.bipush 48, (32, 2), (0, 0, 0), (48, 0), []),
  (.if_icmp .lt 57, (34, 3), (0, 49, 0), (0, 0), []),
  (.aload_n 0, (37, 1), (0, 0, 0), (0, 0), []),
  (.getfield 9, (38, 3), (4, 0, 2), (0, 0), []),
  (.aload_n 0, (41, 1), (0, 0, 0), (0, 0), []),
  (.getfield 28, (42, 3), (4, 2, 0), (0, 0), []),
  (.baload, (45, 1), (0, 0, 0), (0, 0), []),
  (.bipush 57, (46, 2), (0, 0, 0), (57, 0), []),
  (.if_icmp .gt 43, (48, 3), (0, 49, 0), (0, 0), []),
  (.aload_n 0, (51, 1), (0, 0, 0), (0, 0), []),
  (.aload_n 0, (52, 1), (0, 0, 0), (0, 0), []),
  (.getfield 57, (53, 3), (4, 3, 0), (0, 0), []),
  (.bipush 10, (56, 2), (0, 0, 0), (10, 0), []),
  (.imul, (58, 1), (0, 0, 0), (0, 0), [])]
def mm_r63_1 : List mm_R := [
  (.aload_n 0, (59, 1), (0, 0, 0), (0, 0), []),
  (.getfield 9, (60, 3), (4, 0, 2), (0, 0), []),
  (.aload_n 0, (63, 1), (0, 0, 0), (0, 0), []),
  (.getfield 28, (64, 3), (4, 2, 0), (0, 0), []),
  (.baload, (67, 1), (0, 0, 0), (0, 0), []),
  (.iadd, (68, 1), (0, 0, 0), (0, 0), []),
  (.bipush 48, (69, 2), (0, 0, 0), (48, 0), []),
  (.isub, (71, 1), (0, 0, 0), (0, 0), []),
  (.putfield 57, (72, 3), (4, 3, 0), (0, 0), []),
  (.aload_n 0, (75, 1), (0, 0, 0), (0, 0), []),
  (.dup, (76, 1), (0, 0, 0), (0, 0), []),
  (.getfield 28, (77, 3), (4, 2, 0), (0, 0), []),
  (.iconst 1, (80, 1), (0, 0, 0), (1, 0), []),
  (.iadd, (81, 1), (0, 0, 0), (0, 0), []),
  (.putfield 28, (82, 3), (4, 2, 0), (0, 0), []),
  (.iinc 1 1, (85, 3), (1, 0, 0), (1, 0), []),
  (.goto (-81), (88, 3), (0, 5, 0), (0, 0), []),
  (.iload_n 1, (91, 1), (1, 0, 0), (0, 0), []),
  (.ifCond .le 7, (92, 3), (0, 53, 0), (0, 0), []),
  (.iconst 1, (95, 1), (0, 0, 0), (1, 0), []),
  (.goto 4, (96, 3), (0, 54, 0), (0, 0), []),
  (.iconst 0, (99, 1), (0, 0, 0), (0, 0), []),
  (.ireturn, (100, 1), (1, 0, 0), (0, 0), [])]
def mm_r63 : List (List mm_R) := [mm_r63_0, mm_r63_1]
/-- 64: GlobeCorner$Reader.isAny(I)Z -/
def mm_r64_0 : List mm_R := [
  (.aload_n 0, (0, 1), (0, 0, 0), (0, 0), []),
  (.iload_n 1, (1, 1), (1, 0, 0), (0, 0), []),
  (.invokevirtual 72, (2, 3), (65, 2, 1), (0, 0), []),
  (.ifCond .ne 5, (5, 3), (0, 6, 0), (0, 0), []),
  (.iconst 0, (8, 1), (0, 0, 0), (0, 0), []),
  (.ireturn, (9, 1), (1, 0, 0), (0, 0), []),
  (.iconst 0, (10, 1), (0, 0, 0), (0, 0), []),
  (.istore_n 2, (11, 1), (2, 0, 0), (0, 0), []),
  (.iload_n 2, (12, 1), (2, 0, 0), (0, 0), []),
  (.bipush 100, (13, 2), (0, 0, 0), (100, 0), []),
  (.if_icmp .ge 47, (15, 3), (0, 33, 0), (0, 0), []),
  (.aload_n 0, (18, 1), (0, 0, 0), (0, 0), []),
  (.invokevirtual 39, (19, 3), (59, 1, 1), (0, 0), []),
  (.bipush 124, (22, 2), (0, 0, 0), (124, 0), []),
  (.if_icmp .ne 38, (24, 3), (0, 33, 0), (0, 0), []),
  (.aload_n 0, (27, 1), (0, 0, 0), (0, 0), []),
  (.dup, (28, 1), (0, 0, 0), (0, 0), []),
  (.getfield 28, (29, 3), (4, 2, 0), (0, 0), []),
  (.iconst 1, (32, 1), (0, 0, 0), (1, 0), []),
  (.iadd, (33, 1), (0, 0, 0), (0, 0), []),
  (.putfield 28, (34, 3), (4, 2, 0), (0, 0), []),
  (.aload_n 0, (37, 1), (0, 0, 0), (0, 0), []),
  (.iload_n 1, (38, 1), (1, 0, 0), (0, 0), []),
  (.invokevirtual 72, (39, 3), (65, 2, 1), (0, 0), []),
  (.ifCond .ne 5, (42, 3), (0, 27, 0), (0, 0), []),
  (.iconst 0, (45, 1), (0, 0, 0), (0, 0), []),
  (.ireturn, (46, 1), (1, 0, 0), (0, 0), []),
  (.aload_n 0, (47, 1), (0, 0, 0), (0, 0), []),
  (.getfield 19, (48, 3), (4, 4, 1), (0, 0), []),
  (.bipush (-3), (51, 2), (0, 0, 0), ((-3), 0), []),
  (.invokevirtual 75, (53, 3), (78, 2, 1), (0, 0), []),
  (.iinc 2 1, (56, 3), (2, 0, 0), (1, 0), [])]
def mm_r64_1 : List mm_R := [
  (.goto (-47), (59, 3), (0, 8, 0), (0, 0), []),
  (.iconst 1, (62, 1), (0, 0, 0), (1, 0), []),
  (.ireturn, (63, 1), (1, 0, 0), (0, 0), [])]
def mm_r64 : List (List mm_R) := [mm_r64_0, mm_r64_1]
/-- 65: GlobeCorner$Reader.isAll(I)Z -/
def mm_r65_0 : List mm_R := [
  (.aload_n 0, (0, 1), (0, 0, 0), (0, 0), []),
  (.iload_n 1, (1, 1), (1, 0, 0), (0, 0), []),
  (.invokevirtual 78, (2, 3), (66, 2, 1), (0, 0), []),
  (.ifCond .ne 5, (5, 3), (0, 6, 0), (0, 0), []),
  (.iconst 0, (8, 1), (0, 0, 0), (0, 0), []),
  (.ireturn, (9, 1), (1, 0, 0), (0, 0), []),
  (.iconst 0, (10, 1), (0, 0, 0), (0, 0), []),
  (.istore_n 2, (11, 1), (2, 0, 0), (0, 0), []),
  (.iload_n 2, (12, 1), (2, 0, 0), (0, 0), []),
  (.bipush 100, (13, 2), (0, 0, 0), (100, 0), []),
  (.if_icmp .ge 47, (15, 3), (0, 33, 0), (0, 0), []),
  (.aload_n 0, (18, 1), (0, 0, 0), (0, 0), []),
  (.invokevirtual 39, (19, 3), (59, 1, 1), (0, 0), []),
  (.bipush 38, (22, 2), (0, 0, 0), (38, 0), []),
  (.if_icmp .ne 38, (24, 3), (0, 33, 0), (0, 0), []),
  (.aload_n 0, (27, 1), (0, 0, 0), (0, 0), []),
  (.dup, (28, 1), (0, 0, 0), (0, 0), []),
  (.getfield 28, (29, 3), (4, 2, 0), (0, 0), []),
  (.iconst 1, (32, 1), (0, 0, 0), (1, 0), []),
  (.iadd, (33, 1), (0, 0, 0), (0, 0), []),
  (.putfield 28, (34, 3), (4, 2, 0), (0, 0), []),
  (.aload_n 0, (37, 1), (0, 0, 0), (0, 0), []),
  (.iload_n 1, (38, 1), (1, 0, 0), (0, 0), []),
  (.invokevirtual 78, (39, 3), (66, 2, 1), (0, 0), []),
  (.ifCond .ne 5, (42, 3), (0, 27, 0), (0, 0), []),
  (.iconst 0, (45, 1), (0, 0, 0), (0, 0), []),
  (.ireturn, (46, 1), (1, 0, 0), (0, 0), []),
  (.aload_n 0, (47, 1), (0, 0, 0), (0, 0), []),
  (.getfield 19, (48, 3), (4, 4, 1), (0, 0), []),
  (.bipush (-2), (51, 2), (0, 0, 0), ((-2), 0), []),
  (.invokevirtual 75, (53, 3), (78, 2, 1), (0, 0), []),
  (.iinc 2 1, (56, 3), (2, 0, 0), (1, 0), [])]
def mm_r65_1 : List mm_R := [
  (.goto (-47), (59, 3), (0, 8, 0), (0, 0), []),
  (.iconst 1, (62, 1), (0, 0, 0), (1, 0), []),
  (.ireturn, (63, 1), (1, 0, 0), (0, 0), [])]
def mm_r65 : List (List mm_R) := [mm_r65_0, mm_r65_1]
/-- 66: GlobeCorner$Reader.isOne(I)Z -/
def mm_r66_0 : List mm_R := [
  (.aload_n 0, (0, 1), (0, 0, 0), (0, 0), []),
  (.invokevirtual 39, (1, 3), (59, 1, 1), (0, 0), []),
  (.istore_n 2, (4, 1), (2, 0, 0), (0, 0), []),
  (.iload_n 2, (5, 1), (2, 0, 0), (0, 0), []),
  (.bipush 33, (6, 2), (0, 0, 0), (33, 0), []),
  (.if_icmp .eq 14, (8, 3), (0, 12, 0), (0, 0), []),
  (.iload_n 2, (11, 1), (2, 0, 0), (0, 0), []),
  (.bipush 40, (12, 2), (0, 0, 0), (40, 0), []),
  (.if_icmp .eq 8, (14, 3), (0, 12, 0), (0, 0), []),
  (.aload_n 0, (17, 1), (0, 0, 0), (0, 0), []),
  (.invokevirtual 81, (18, 3), (67, 1, 1), (0, 0), []),
  (.ireturn, (21, 1), (1, 0, 0), (0, 0), []),
  (.iload_n 1, (22, 1), (1, 0, 0), (0, 0), []),
  (.iconst 4, (23, 1), (0, 0, 0), (4, 0), []),
  (.if_icmp .lt 5, (24, 3), (0, 17, 0), (0, 0), []),
  (.iconst 0, (27, 1), (0, 0, 0), (0, 0), []),
  (.ireturn, (28, 1), (1, 0, 0), (0, 0), []),
  (.aload_n 0, (29, 1), (0, 0, 0), (0, 0), []),
  (.dup, (30, 1), (0, 0, 0), (0, 0), []),
  (.getfield 28, (31, 3), (4, 2, 0), (0, 0), []),
  (.iconst 1, (34, 1), (0, 0, 0), (1, 0), []),
  (.iadd, (35, 1), (0, 0, 0), (0, 0), []),
  (.putfield 28, (36, 3), (4, 2, 0), (0, 0), []),
  (.iload_n 2, (39, 1), (2, 0, 0), (0, 0), []),
  (.bipush 40, (40, 2), (0, 0, 0), (40, 0), []),
  (.if_icmp .ne 28, (42, 3), (0, 40, 0), (0, 0), []),
  (.aload_n 0, (45, 1), (0, 0, 0), (0, 0), []),
  (.iload_n 1, (46, 1), (1, 0, 0), (0, 0), []),
  (.iconst 1, (47, 1), (0, 0, 0), (1, 0), []),
  (.iadd, (48, 1), (0, 0, 0), (0, 0), []),
  (.invokevirtual 60, (49, 3), (64, 2, 1), (0, 0), []),
  (.ifCond .eq 16, (52, 3), (0, 38, 0), (0, 0), [])]
def mm_r66_1 : List mm_R := [
  (.aload_n 0, (55, 1), (0, 0, 0), (0, 0), []),
  (.bipush 41, (56, 2), (0, 0, 0), (41, 0), []),
  (.invokevirtual 35, (58, 3), (62, 2, 1), (0, 0), []),
  (.ifCond .eq 7, (61, 3), (0, 38, 0), (0, 0), []),
  (.iconst 1, (64, 1), (0, 0, 0), (1, 0), []),
  (.goto 4, (65, 3), (0, 39, 0), (0, 0), []),
  (.iconst 0, (68, 1), (0, 0, 0), (0, 0), []),
  (.ireturn, (69, 1), (1, 0, 0), (0, 0), []),
  (.aload_n 0, (70, 1), (0, 0, 0), (0, 0), []),
  (.iload_n 1, (71, 1), (1, 0, 0), (0, 0), []),
  (.iconst 1, (72, 1), (0, 0, 0), (1, 0), []),
  (.iadd, (73, 1), (0, 0, 0), (0, 0), []),
  (.invokevirtual 78, (74, 3), (66, 2, 1), (0, 0), []),
  (.ifCond .ne 5, (77, 3), (0, 48, 0), (0, 0), []),
  (.iconst 0, (80, 1), (0, 0, 0), (0, 0), []),
  (.ireturn, (81, 1), (1, 0, 0), (0, 0), []),
  (.aload_n 0, (82, 1), (0, 0, 0), (0, 0), []),
  (.getfield 19, (83, 3), (4, 4, 1), (0, 0), []),
  (.iconst (-1), (86, 1), (0, 0, 0), ((-1), 0), []),
  (.invokevirtual 75, (87, 3), (78, 2, 1), (0, 0), []),
  (.iconst 1, (90, 1), (0, 0, 0), (1, 0), []),
  (.ireturn, (91, 1), (1, 0, 0), (0, 0), [])]
def mm_r66 : List (List mm_R) := [mm_r66_0, mm_r66_1]
/-- 67: GlobeCorner$Reader.isTest()Z -/
def mm_r67_0 : List mm_R := [
  (.aload_n 0, (0, 1), (0, 0, 0), (0, 0), []),
  (.invokevirtual 39, (1, 3), (59, 1, 1), (0, 0), []),
  (.ifCond .ge 7, (4, 3), (0, 5, 0), (0, 0), []),
  (.iconst (-1), (7, 1), (0, 0, 0), ((-1), 0), []),
  (.goto 13, (8, 3), (0, 10, 0), (0, 0), []),
  (.ldc 84, (11, 2), (6, 0, 1), (0, 0), []),
  (.aload_n 0, (13, 1), (0, 0, 0), (0, 0), []),
  (.invokevirtual 39, (14, 3), (59, 1, 1), (0, 0), []),
  (.i2c, (17, 1), (0, 0, 0), (0, 0), []),
  (.invokevirtual 86, (18, 3), (11, 2, 1), (0, 0), []),
  (.istore_n 1, (21, 1), (1, 0, 0), (0, 0), []),
  (.iload_n 1, (22, 1), (1, 0, 0), (0, 0), []),
  (.ifCond .ge 5, (23, 3), (0, 15, 0), (0, 0), []),
  (.iconst 0, (26, 1), (0, 0, 0), (0, 0), []),
  (.ireturn, (27, 1), (1, 0, 0), (0, 0), []),
  (.aload_n 0, (28, 1), (0, 0, 0), (0, 0), []),
  (.dup, (29, 1), (0, 0, 0), (0, 0), []),
  (.getfield 28, (30, 3), (4, 2, 0), (0, 0), []),
  (.iconst 1, (33, 1), (0, 0, 0), (1, 0), []),
  (.iadd, (34, 1), (0, 0, 0), (0, 0), []),
  (.putfield 28, (35, 3), (4, 2, 0), (0, 0), []),
  (.aload_n 0, (38, 1), (0, 0, 0), (0, 0), []),
  (.invokevirtual 39, (39, 3), (59, 1, 1), (0, 0), []),
  (.invokestatic 92, (42, 3), (68, 1, 0), (0, 0), []),
  (.istore_n 2, (45, 1), (2, 0, 0), (0, 0), []),
  (.iload_n 2, (46, 1), (2, 0, 0), (0, 0), []),
  (.ifCond .ge 5, (47, 3), (0, 29, 0), (0, 0), []),
  (.iconst 0, (50, 1), (0, 0, 0), (0, 0), []),
  (.ireturn, (51, 1), (1, 0, 0), (0, 0), []),
  (.aload_n 0, (52, 1), (0, 0, 0), (0, 0), []),
  (.dup, (53, 1), (0, 0, 0), (0, 0), []),
  (.getfield 28, (54, 3), (4, 2, 0), (0, 0), [])]
def mm_r67_1 : List mm_R := [
  (.iconst 1, (57, 1), (0, 0, 0), (1, 0), []),
  (.iadd, (58, 1), (0, 0, 0), (0, 0), []),
  (.putfield 28, (59, 3), (4, 2, 0), (0, 0), []),
  (.aload_n 0, (62, 1), (0, 0, 0), (0, 0), []),
  (.invokevirtual 54, (63, 3), (63, 1, 1), (0, 0), []),
  (.ifCond .ne 5, (66, 3), (0, 40, 0), (0, 0), []),
  (.iconst 0, (69, 1), (0, 0, 0), (0, 0), []),
  (.ireturn, (70, 1), (1, 0, 0), (0, 0), []),
  (.aload_n 0, (71, 1), (0, 0, 0), (0, 0), []),
  (.getfield 19, (72, 3), (4, 4, 1), (0, 0), []),
  (.iload_n 1, (75, 1), (1, 0, 0), (0, 0), []),
  (.iload_n 2, (76, 1), (2, 0, 0), (0, 0), []),
  (.aload_n 0, (77, 1), (0, 0, 0), (0, 0), []),
  (.getfield 57, (78, 3), (4, 3, 0), (0, 0), []),
  (.invokestatic 95, (81, 3), (77, 3, 0), (0, 0), []),
  (.invokevirtual 75, (84, 3), (78, 2, 1), (0, 0), []),
  (.iconst 1, (87, 1), (0, 0, 0), (1, 0), []),
  (.ireturn, (88, 1), (1, 0, 0), (0, 0), [])]
def mm_r67 : List (List mm_R) := [mm_r67_0, mm_r67_1]
/-- 68: GlobeCorner$Reader.wayOf(I)I -/
def mm_r68_0 : List mm_R := [
  (.iload_n 0, (0, 1), (0, 0, 0), (0, 0), []),
  (.tableswitch 33 60 62 #[27, 29, 31], (1, 27), (0, 8, 0), (0, 0), [(60, 2), (61, 4), (62, 6)]),
  (.iconst 0, (28, 1), (0, 0, 0), (0, 0), []),
  (.ireturn, (29, 1), (0, 0, 0), (0, 0), []),
  (.iconst 1, (30, 1), (0, 0, 0), (1, 0), []),
  (.ireturn, (31, 1), (0, 0, 0), (0, 0), []),
  (.iconst 2, (32, 1), (0, 0, 0), (2, 0), []),
  (.ireturn, (33, 1), (0, 0, 0), (0, 0), []),
  (.iconst (-1), (34, 1), (0, 0, 0), ((-1), 0), []),
  (.ireturn, (35, 1), (0, 0, 0), (0, 0), [])]
def mm_r68 : List (List mm_R) := [mm_r68_0]
/-- 69: GlobeCorner$Rows.<init>(I)V -/
def mm_r69_0 : List mm_R := [
  (.aload_n 0, (0, 1), (0, 0, 0), (0, 0), []),
  (.invokespecial 3, (1, 3), (0, 0, 4), (0, 0), []),
  (.aload_n 0, (4, 1), (0, 0, 0), (0, 0), []),
  (.iload_n 1, (5, 1), (1, 0, 0), (0, 0), []),
  (.newarray .int, (6, 2), (1, 0, 0), (0, 0), []),
  (.putfield 9, (8, 3), (5, 0, 2), (0, 0), []),
  (.aload_n 0, (11, 1), (0, 0, 0), (0, 0), []),
  (.iload_n 1, (12, 1), (1, 0, 0), (0, 0), []),
  (.newarray .int, (13, 2), (1, 0, 0), (0, 0), []),
  (.putfield 15, (15, 3), (5, 1, 2), (0, 0), []),
  (.aload_n 0, (18, 1), (0, 0, 0), (0, 0), []),
  (.iload_n 1, (19, 1), (1, 0, 0), (0, 0), []),
  (.newarray .int, (20, 2), (1, 0, 0), (0, 0), []),
  (.putfield 18, (22, 3), (5, 2, 2), (0, 0), []),
  (.return_, (25, 1), (0, 0, 0), (0, 0), [])]
def mm_r69 : List (List mm_R) := [mm_r69_0]
/-- 70: GlobeCorner$Rows.wipe()I -/
def mm_r70_0 : List mm_R := [
  (.aload_n 0, (0, 1), (0, 0, 0), (0, 0), []),
  (.iconst 0, (1, 1), (0, 0, 0), (0, 0), []),
  (.putfield 21, (2, 3), (5, 3, 0), (0, 0), []),
  (.iconst 0, (5, 1), (0, 0, 0), (0, 0), []),
  (.ireturn, (6, 1), (0, 0, 0), (0, 0), [])]
def mm_r70 : List (List mm_R) := [mm_r70_0]
/-- 71: GlobeCorner$Rows.add(III)I -/
def mm_r71_0 : List mm_R := [
  (.aload_n 0, (0, 1), (0, 0, 0), (0, 0), []),
  (.getfield 21, (1, 3), (5, 3, 0), (0, 0), []),
  (.aload_n 0, (4, 1), (0, 0, 0), (0, 0), []),
  (.getfield 9, (5, 3), (5, 0, 2), (0, 0), []),
  (.arraylength, (8, 1), (0, 0, 0), (0, 0), []),
  (.if_icmp .lt 6, (9, 3), (0, 8, 0), (0, 0), []),
  (.bipush (-4), (12, 2), (0, 0, 0), ((-4), 0), []),
  (.ireturn, (14, 1), (0, 0, 0), (0, 0), []),
  (.aload_n 0, (15, 1), (0, 0, 0), (0, 0), []),
  (.getfield 9, (16, 3), (5, 0, 2), (0, 0), []),
  (.aload_n 0, (19, 1), (0, 0, 0), (0, 0), []),
  (.getfield 21, (20, 3), (5, 3, 0), (0, 0), []),
  (.iload_n 1, (23, 1), (1, 0, 0), (0, 0), []),
  (.iastore, (24, 1), (0, 0, 0), (0, 0), []),
  (.aload_n 0, (25, 1), (0, 0, 0), (0, 0), []),
  (.getfield 15, (26, 3), (5, 1, 2), (0, 0), []),
  (.aload_n 0, (29, 1), (0, 0, 0), (0, 0), []),
  (.getfield 21, (30, 3), (5, 3, 0), (0, 0), []),
  (.iload_n 2, (33, 1), (2, 0, 0), (0, 0), []),
  (.iastore, (34, 1), (0, 0, 0), (0, 0), []),
  (.aload_n 0, (35, 1), (0, 0, 0), (0, 0), []),
  (.getfield 18, (36, 3), (5, 2, 2), (0, 0), []),
  (.aload_n 0, (39, 1), (0, 0, 0), (0, 0), []),
  (.getfield 21, (40, 3), (5, 3, 0), (0, 0), []),
  (.iload_n 3, (43, 1), (3, 0, 0), (0, 0), []),
  (.iastore, (44, 1), (0, 0, 0), (0, 0), []),
  (.aload_n 0, (45, 1), (0, 0, 0), (0, 0), []),
  (.dup, (46, 1), (0, 0, 0), (0, 0), []),
  (.getfield 21, (47, 3), (5, 3, 0), (0, 0), []),
  (.iconst 1, (50, 1), (0, 0, 0), (1, 0), []),
  (.iadd, (51, 1), (0, 0, 0), (0, 0), []),
  (.putfield 21, (52, 3), (5, 3, 0), (0, 0), [])]
def mm_r71_1 : List mm_R := [
  (.aload_n 0, (55, 1), (0, 0, 0), (0, 0), []),
  (.getfield 21, (56, 3), (5, 3, 0), (0, 0), []),
  (.ireturn, (59, 1), (0, 0, 0), (0, 0), [])]
def mm_r71 : List (List mm_R) := [mm_r71_0, mm_r71_1]
/-- 72: GlobeCorner$Rows.copyFrom(LGlobeCorner$Rows;)V -/
def mm_r72_0 : List mm_R := [
  (.aload_n 0, (0, 1), (0, 0, 0), (0, 0), []),
  (.aload_n 1, (1, 1), (1, 0, 0), (0, 0), []),
  (.getfield 21, (2, 3), (5, 3, 0), (0, 0), []),
  (.putfield 21, (5, 3), (5, 3, 0), (0, 0), []),
  (.aload_n 1, (8, 1), (1, 0, 0), (0, 0), []),
  (.getfield 9, (9, 3), (5, 0, 2), (0, 0), []),
  (.iconst 0, (12, 1), (0, 0, 0), (0, 0), []),
  (.aload_n 0, (13, 1), (0, 0, 0), (0, 0), []),
  (.getfield 9, (14, 3), (5, 0, 2), (0, 0), []),
  (.iconst 0, (17, 1), (0, 0, 0), (0, 0), []),
  (.aload_n 0, (18, 1), (0, 0, 0), (0, 0), []),
  (.getfield 9, (19, 3), (5, 0, 2), (0, 0), []),
  (.arraylength, (22, 1), (0, 0, 0), (0, 0), []),
  (.invokestatic 25, (23, 3), (0, 0, 5), (0, 0), []),
  (.aload_n 1, (26, 1), (1, 0, 0), (0, 0), []),
  (.getfield 15, (27, 3), (5, 1, 2), (0, 0), []),
  (.iconst 0, (30, 1), (0, 0, 0), (0, 0), []),
  (.aload_n 0, (31, 1), (0, 0, 0), (0, 0), []),
  (.getfield 15, (32, 3), (5, 1, 2), (0, 0), []),
  (.iconst 0, (35, 1), (0, 0, 0), (0, 0), []),
  (.aload_n 0, (36, 1), (0, 0, 0), (0, 0), []),
  (.getfield 15, (37, 3), (5, 1, 2), (0, 0), []),
  (.arraylength, (40, 1), (0, 0, 0), (0, 0), []),
  (.invokestatic 25, (41, 3), (0, 0, 5), (0, 0), []),
  (.aload_n 1, (44, 1), (1, 0, 0), (0, 0), []),
  (.getfield 18, (45, 3), (5, 2, 2), (0, 0), []),
  (.iconst 0, (48, 1), (0, 0, 0), (0, 0), []),
  (.aload_n 0, (49, 1), (0, 0, 0), (0, 0), []),
  (.getfield 18, (50, 3), (5, 2, 2), (0, 0), []),
  (.iconst 0, (53, 1), (0, 0, 0), (0, 0), []),
  (.aload_n 0, (54, 1), (0, 0, 0), (0, 0), []),
  (.getfield 18, (55, 3), (5, 2, 2), (0, 0), [])]
def mm_r72_1 : List mm_R := [
  (.arraylength, (58, 1), (0, 0, 0), (0, 0), []),
  (.invokestatic 25, (59, 3), (0, 0, 5), (0, 0), []),
  (.return_, (62, 1), (0, 0, 0), (0, 0), [])]
def mm_r72 : List (List mm_R) := [mm_r72_0, mm_r72_1]
/-- 73: GlobeCorner$School.<init>()V -/
def mm_r73_0 : List mm_R := [
  (.aload_n 0, (0, 1), (0, 0, 0), (0, 0), []),
  (.invokespecial 3, (1, 3), (0, 0, 4), (0, 0), []),
  (.aload_n 0, (4, 1), (0, 0, 0), (0, 0), []),
  (.bipush 10, (5, 2), (0, 0, 0), (10, 0), []),
  (.newarray .int, (7, 2), (1, 0, 0), (0, 0), []),
  (.putfield 9, (9, 3), (6, 2, 2), (0, 0), []),
  (.aload_n 0, (12, 1), (0, 0, 0), (0, 0), []),
  (.bipush 10, (13, 2), (0, 0, 0), (10, 0), []),
  (.newarray .int, (15, 2), (1, 0, 0), (0, 0), []),
  (.putfield 15, (17, 3), (6, 3, 2), (0, 0), []),
  (.aload_n 0, (20, 1), (0, 0, 0), (0, 0), []),
  (.bipush 100, (21, 2), (0, 0, 0), (100, 0), []),
  (.newarray .int, (23, 2), (1, 0, 0), (0, 0), []),
  (.putfield 18, (25, 3), (6, 4, 2), (0, 0), []),
  (.return_, (28, 1), (0, 0, 0), (0, 0), [])]
def mm_r73 : List (List mm_R) := [mm_r73_0]
/-- 74: GlobeCorner$School.sum([I)I -/
def mm_r74_0 : List mm_R := [
  (.iconst 4, (0, 1), (0, 0, 0), (4, 0), []),
  (.istore_n 2, (1, 1), (2, 0, 0), (0, 0), []),
  (.iconst 0, (2, 1), (0, 0, 0), (0, 0), []),
  (.istore_n 3, (3, 1), (3, 0, 0), (0, 0), []),
  (.iconst 0, (4, 1), (0, 0, 0), (0, 0), []),
  (.istore 4, (5, 2), (4, 0, 0), (0, 0), []),
  (.iload 4, (7, 2), (4, 0, 0), (0, 0), []),
  (.aload_n 0, (9, 1), (0, 0, 0), (0, 0), []),
  (.getfield 25, (10, 3), (6, 1, 0), (0, 0), []),
  (.if_icmp .ge 62, (13, 3), (0, 43, 0), (0, 0), []),
  (.lconst 0, (16, 1), (0, 0, 0), (0, 0), []),
  (.lstore 5, (17, 2), (5, 0, 0), (0, 0), []),
  (.iload_n 3, (19, 1), (3, 0, 0), (0, 0), []),
  (.aload_n 0, (20, 1), (0, 0, 0), (0, 0), []),
  (.getfield 15, (21, 3), (6, 3, 2), (0, 0), []),
  (.iload 4, (24, 2), (4, 0, 0), (0, 0), []),
  (.iaload, (26, 1), (0, 0, 0), (0, 0), []),
  (.if_icmp .ge 23, (27, 3), (0, 28, 0), (0, 0), []),
  (.lload 5, (30, 2), (5, 0, 0), (0, 0), []),
  (.aload_n 0, (32, 1), (0, 0, 0), (0, 0), []),
  (.getfield 18, (33, 3), (6, 4, 2), (0, 0), []),
  (.iload_n 3, (36, 1), (3, 0, 0), (0, 0), []),
  (.iaload, (37, 1), (0, 0, 0), (0, 0), []),
  (.aload_n 1, (38, 1), (1, 0, 0), (0, 0), []),
  (.invokestatic 31, (39, 3), (75, 3, 0), (0, 0), []),
  (.lstore 5, (42, 2), (5, 0, 0), (0, 0), []),
  (.iinc 3 1, (44, 3), (3, 0, 0), (1, 0), []),
  (.goto (-28), (47, 3), (0, 12, 0), (0, 0), []),
  (.lload 5, (50, 2), (5, 0, 0), (0, 0), []),
  (.lconst 1, (52, 1), (0, 0, 0), (0, 1), []),
  (.land, (53, 1), (0, 0, 0), (0, 0), []),
  (.lconst 1, (54, 1), (0, 0, 0), (0, 1), [])]
def mm_r74_1 : List mm_R := [
  (.lcmp, (55, 1), (0, 0, 0), (0, 0), []),
  (.ifCond .ne 13, (56, 3), (0, 41, 0), (0, 0), []),
  (.iload_n 2, (59, 1), (2, 0, 0), (0, 0), []),
  (.aload_n 0, (60, 1), (0, 0, 0), (0, 0), []),
  (.getfield 9, (61, 3), (6, 2, 2), (0, 0), []),
  (.iload 4, (64, 2), (4, 0, 0), (0, 0), []),
  (.iaload, (66, 1), (0, 0, 0), (0, 0), []),
  (.iadd, (67, 1), (0, 0, 0), (0, 0), []),
  (.istore_n 2, (68, 1), (2, 0, 0), (0, 0), []),
  (.iinc 4 1, (69, 3), (4, 0, 0), (1, 0), []),
  (.goto (-65), (72, 3), (0, 6, 0), (0, 0), []),
  (.iload_n 2, (75, 1), (2, 0, 0), (0, 0), []),
  (.ireturn, (76, 1), (0, 0, 0), (0, 0), [])]
def mm_r74 : List (List mm_R) := [mm_r74_0, mm_r74_1]
/-- 75: GlobeCorner$School.goOn(JI[I)J -/
def mm_r75_0 : List mm_R := [
  (.iload_n 2, (0, 1), (2, 0, 0), (0, 0), []),
  (.tableswitch 59 (-3) (-1) #[45, 31, 27], (1, 27), (0, 34, 0), (0, 0), [((-3), 20), ((-2), 6), ((-1), 2)]),
  (.lload_n 0, (28, 1), (0, 0, 0), (0, 0), []),
  (.lconst 1, (29, 1), (0, 0, 0), (0, 1), []),
  (.lxor, (30, 1), (0, 0, 0), (0, 0), []),
  (.lreturn, (31, 1), (0, 0, 0), (0, 0), []),
  (.lload_n 0, (32, 1), (0, 0, 0), (0, 0), []),
  (.iconst 2, (33, 1), (0, 0, 0), (2, 0), []),
  (.lshr, (34, 1), (0, 0, 0), (0, 0), []),
  (.iconst 1, (35, 1), (0, 0, 0), (1, 0), []),
  (.lshl, (36, 1), (0, 0, 0), (0, 0), []),
  (.lload_n 0, (37, 1), (0, 0, 0), (0, 0), []),
  (.iconst 1, (38, 1), (0, 0, 0), (1, 0), []),
  (.lshr, (39, 1), (0, 0, 0), (0, 0), []),
  (.lload_n 0, (40, 1), (0, 0, 0), (0, 0), []),
  (.land, (41, 1), (0, 0, 0), (0, 0), []),
  (.lconst 1, (42, 1), (0, 0, 0), (0, 1), []),
  (.land, (43, 1), (0, 0, 0), (0, 0), []),
  (.lor, (44, 1), (0, 0, 0), (0, 0), []),
  (.lreturn, (45, 1), (0, 0, 0), (0, 0), []),
  (.lload_n 0, (46, 1), (0, 0, 0), (0, 0), []),
  (.iconst 2, (47, 1), (0, 0, 0), (2, 0), []),
  (.lshr, (48, 1), (0, 0, 0), (0, 0), []),
  (.iconst 1, (49, 1), (0, 0, 0), (1, 0), []),
  (.lshl, (50, 1), (0, 0, 0), (0, 0), []),
  (.lload_n 0, (51, 1), (0, 0, 0), (0, 0), []),
  (.iconst 1, (52, 1), (0, 0, 0), (1, 0), []),
  (.lshr, (53, 1), (0, 0, 0), (0, 0), []),
  (.lload_n 0, (54, 1), (0, 0, 0), (0, 0), []),
  (.lor, (55, 1), (0, 0, 0), (0, 0), []),
  (.lconst 1, (56, 1), (0, 0, 0), (0, 1), []),
  (.land, (57, 1), (0, 0, 0), (0, 0), [])]
def mm_r75_1 : List mm_R := [
  (.lor, (58, 1), (0, 0, 0), (0, 0), []),
  (.lreturn, (59, 1), (0, 0, 0), (0, 0), []),
  (.iload_n 2, (60, 1), (2, 0, 0), (0, 0), []),
  (.bipush 9, (61, 2), (0, 0, 0), (9, 0), []),
  (.ishr, (63, 1), (0, 0, 0), (0, 0), []),
  (.istore 4, (64, 2), (4, 0, 0), (0, 0), []),
  (.iload 4, (66, 2), (4, 0, 0), (0, 0), []),
  (.ifCond .lt 10, (68, 3), (0, 44, 0), (0, 0), []),
  (.iload 4, (71, 2), (4, 0, 0), (0, 0), []),
  (.aload_n 3, (73, 1), (3, 0, 0), (0, 0), []),
  (.arraylength, (74, 1), (0, 0, 0), (0, 0), []),
  (.if_icmp .lt 7, (75, 3), (0, 48, 0), (0, 0), []),
  (.lload_n 0, (78, 1), (0, 0, 0), (0, 0), []),
  (.iconst 1, (79, 1), (0, 0, 0), (1, 0), []),
  (.lshl, (80, 1), (0, 0, 0), (0, 0), []),
  (.lreturn, (81, 1), (0, 0, 0), (0, 0), []),
  (.iload_n 2, (82, 1), (2, 0, 0), (0, 0), []),
  (.bipush 7, (83, 2), (0, 0, 0), (7, 0), []),
  (.ishr, (85, 1), (0, 0, 0), (0, 0), []),
  (.iconst 3, (86, 1), (0, 0, 0), (3, 0), []),
  (.iand, (87, 1), (0, 0, 0), (0, 0), []),
  (.istore 5, (88, 2), (5, 0, 0), (0, 0), []),
  (.iload_n 2, (90, 1), (2, 0, 0), (0, 0), []),
  (.bipush 127, (91, 2), (0, 0, 0), (127, 0), []),
  (.iand, (93, 1), (0, 0, 0), (0, 0), []),
  (.istore 6, (94, 2), (6, 0, 0), (0, 0), []),
  (.aload_n 3, (96, 1), (3, 0, 0), (0, 0), []),
  (.iload 4, (97, 2), (4, 0, 0), (0, 0), []),
  (.iaload, (99, 1), (0, 0, 0), (0, 0), []),
  (.istore 7, (100, 2), (7, 0, 0), (0, 0), []),
  (.iload 5, (102, 2), (5, 0, 0), (0, 0), []),
  (.ifCond .ne 18, (104, 3), (0, 71, 0), (0, 0), [])]
def mm_r75_2 : List mm_R := [
  (.iload 7, (107, 2), (7, 0, 0), (0, 0), []),
  (.iload 6, (109, 2), (6, 0, 0), (0, 0), []),
  (.if_icmp .ge 7, (111, 3), (0, 69, 0), (0, 0), []),
  (.iconst 1, (114, 1), (0, 0, 0), (1, 0), []),
  (.goto 40, (115, 3), (0, 87, 0), (0, 0), []),
  (.iconst 0, (118, 1), (0, 0, 0), (0, 0), []),
  (.goto 36, (119, 3), (0, 87, 0), (0, 0), []),
  (.iload 5, (122, 2), (5, 0, 0), (0, 0), []),
  (.iconst 1, (124, 1), (0, 0, 0), (1, 0), []),
  (.if_icmp .ne 18, (125, 3), (0, 81, 0), (0, 0), []),
  (.iload 7, (128, 2), (7, 0, 0), (0, 0), []),
  (.iload 6, (130, 2), (6, 0, 0), (0, 0), []),
  (.if_icmp .ne 7, (132, 3), (0, 79, 0), (0, 0), []),
  (.iconst 1, (135, 1), (0, 0, 0), (1, 0), []),
  (.goto 19, (136, 3), (0, 87, 0), (0, 0), []),
  (.iconst 0, (139, 1), (0, 0, 0), (0, 0), []),
  (.goto 15, (140, 3), (0, 87, 0), (0, 0), []),
  (.iload 7, (143, 2), (7, 0, 0), (0, 0), []),
  (.iload 6, (145, 2), (6, 0, 0), (0, 0), []),
  (.if_icmp .le 7, (147, 3), (0, 86, 0), (0, 0), []),
  (.iconst 1, (150, 1), (0, 0, 0), (1, 0), []),
  (.goto 4, (151, 3), (0, 87, 0), (0, 0), []),
  (.iconst 0, (154, 1), (0, 0, 0), (0, 0), []),
  (.istore 8, (155, 2), (8, 0, 0), (0, 0), []),
  (.lload_n 0, (157, 1), (0, 0, 0), (0, 0), []),
  (.iconst 1, (158, 1), (0, 0, 0), (1, 0), []),
  (.lshl, (159, 1), (0, 0, 0), (0, 0), []),
  (.iload 8, (160, 2), (8, 0, 0), (0, 0), []),
  (.ifCond .eq 7, (162, 3), (0, 95, 0), (0, 0), []),
  (.iconst 1, (165, 1), (0, 0, 0), (1, 0), []),
  (.goto 4, (166, 3), (0, 96, 0), (0, 0), []),
  (.iconst 0, (169, 1), (0, 0, 0), (0, 0), [])]
def mm_r75_3 : List mm_R := [
  (.i2l, (170, 1), (0, 0, 0), (0, 0), []),
  (.lor, (171, 1), (0, 0, 0), (0, 0), []),
  (.lreturn, (172, 1), (0, 0, 0), (0, 0), [])]
def mm_r75 : List (List mm_R) := [mm_r75_0, mm_r75_1, mm_r75_2, mm_r75_3]
/-- 76: GlobeCorner$School.empty()V -/
def mm_r76_0 : List mm_R := [
  (.aload_n 0, (0, 1), (0, 0, 0), (0, 0), []),
  (.iconst 2, (1, 1), (0, 0, 0), (2, 0), []),
  (.putfield 21, (2, 3), (6, 0, 0), (0, 0), []),
  (.aload_n 0, (5, 1), (0, 0, 0), (0, 0), []),
  (.iconst 0, (6, 1), (0, 0, 0), (0, 0), []),
  (.putfield 25, (7, 3), (6, 1, 0), (0, 0), []),
  (.aload_n 0, (10, 1), (0, 0, 0), (0, 0), []),
  (.iconst 0, (11, 1), (0, 0, 0), (0, 0), []),
  (.putfield 28, (12, 3), (6, 5, 0), (0, 0), []),
  (.return_, (15, 1), (0, 0, 0), (0, 0), [])]
def mm_r76 : List (List mm_R) := [mm_r76_0]
/-- 77: GlobeCorner$School.test(III)I -/
def mm_r77_0 : List mm_R := [
  (.iload_n 0, (0, 1), (0, 0, 0), (0, 0), []),
  (.bipush 9, (1, 2), (0, 0, 0), (9, 0), []),
  (.ishl, (3, 1), (0, 0, 0), (0, 0), []),
  (.iload_n 1, (4, 1), (1, 0, 0), (0, 0), []),
  (.bipush 7, (5, 2), (0, 0, 0), (7, 0), []),
  (.ishl, (7, 1), (0, 0, 0), (0, 0), []),
  (.ior, (8, 1), (0, 0, 0), (0, 0), []),
  (.iload_n 2, (9, 1), (2, 0, 0), (0, 0), []),
  (.ior, (10, 1), (0, 0, 0), (0, 0), []),
  (.ireturn, (11, 1), (0, 0, 0), (0, 0), [])]
def mm_r77 : List (List mm_R) := [mm_r77_0]
/-- 78: GlobeCorner$School.put(I)V -/
def mm_r78_0 : List mm_R := [
  (.aload_n 0, (0, 1), (0, 0, 0), (0, 0), []),
  (.getfield 28, (1, 3), (6, 5, 0), (0, 0), []),
  (.aload_n 0, (4, 1), (0, 0, 0), (0, 0), []),
  (.getfield 18, (5, 3), (6, 4, 2), (0, 0), []),
  (.arraylength, (8, 1), (0, 0, 0), (0, 0), []),
  (.if_icmp .lt 4, (9, 3), (0, 7, 0), (0, 0), []),
  (.return_, (12, 1), (0, 0, 0), (0, 0), []),
  (.aload_n 0, (13, 1), (0, 0, 0), (0, 0), []),
  (.getfield 18, (14, 3), (6, 4, 2), (0, 0), []),
  (.aload_n 0, (17, 1), (0, 0, 0), (0, 0), []),
  (.getfield 28, (18, 3), (6, 5, 0), (0, 0), []),
  (.iload_n 1, (21, 1), (1, 0, 0), (0, 0), []),
  (.iastore, (22, 1), (0, 0, 0), (0, 0), []),
  (.aload_n 0, (23, 1), (0, 0, 0), (0, 0), []),
  (.dup, (24, 1), (0, 0, 0), (0, 0), []),
  (.getfield 28, (25, 3), (6, 5, 0), (0, 0), []),
  (.iconst 1, (28, 1), (0, 0, 0), (1, 0), []),
  (.iadd, (29, 1), (0, 0, 0), (0, 0), []),
  (.putfield 28, (30, 3), (6, 5, 0), (0, 0), []),
  (.return_, (33, 1), (0, 0, 0), (0, 0), [])]
def mm_r78 : List (List mm_R) := [mm_r78_0]
/-- 79: GlobeCorner$School.endClause(I)V -/
def mm_r79_0 : List mm_R := [
  (.aload_n 0, (0, 1), (0, 0, 0), (0, 0), []),
  (.getfield 25, (1, 3), (6, 1, 0), (0, 0), []),
  (.bipush 10, (4, 2), (0, 0, 0), (10, 0), []),
  (.if_icmp .lt 4, (6, 3), (0, 5, 0), (0, 0), []),
  (.return_, (9, 1), (0, 0, 0), (0, 0), []),
  (.aload_n 0, (10, 1), (0, 0, 0), (0, 0), []),
  (.getfield 9, (11, 3), (6, 2, 2), (0, 0), []),
  (.aload_n 0, (14, 1), (0, 0, 0), (0, 0), []),
  (.getfield 25, (15, 3), (6, 1, 0), (0, 0), []),
  (.iload_n 1, (18, 1), (1, 0, 0), (0, 0), []),
  (.iastore, (19, 1), (0, 0, 0), (0, 0), []),
  (.aload_n 0, (20, 1), (0, 0, 0), (0, 0), []),
  (.getfield 15, (21, 3), (6, 3, 2), (0, 0), []),
  (.aload_n 0, (24, 1), (0, 0, 0), (0, 0), []),
  (.getfield 25, (25, 3), (6, 1, 0), (0, 0), []),
  (.aload_n 0, (28, 1), (0, 0, 0), (0, 0), []),
  (.getfield 28, (29, 3), (6, 5, 0), (0, 0), []),
  (.iastore, (32, 1), (0, 0, 0), (0, 0), []),
  (.aload_n 0, (33, 1), (0, 0, 0), (0, 0), []),
  (.dup, (34, 1), (0, 0, 0), (0, 0), []),
  (.getfield 25, (35, 3), (6, 1, 0), (0, 0), []),
  (.iconst 1, (38, 1), (0, 0, 0), (1, 0), []),
  (.iadd, (39, 1), (0, 0, 0), (0, 0), []),
  (.putfield 25, (40, 3), (6, 1, 0), (0, 0), []),
  (.return_, (43, 1), (0, 0, 0), (0, 0), [])]
def mm_r79 : List (List mm_R) := [mm_r79_0]
/-- 80: GlobeCorner$Tape.<init>()V -/
def mm_r80_0 : List mm_R := [
  (.aload_n 0, (0, 1), (0, 0, 0), (0, 0), []),
  (.invokespecial 3, (1, 3), (0, 0, 4), (0, 0), []),
  (.aload_n 0, (4, 1), (0, 0, 0), (0, 0), []),
  (.iconst (-1), (5, 1), (0, 0, 0), ((-1), 0), []),
  (.putfield 11, (6, 3), (7, 0, 0), (0, 0), []),
  (.aload_n 0, (9, 1), (0, 0, 0), (0, 0), []),
  (.bipush 60, (10, 2), (0, 0, 0), (60, 0), []),
  (.newarray .long, (12, 2), (4, 0, 0), (0, 0), []),
  (.putfield 15, (14, 3), (7, 2, 2), (0, 0), []),
  (.return_, (17, 1), (0, 0, 0), (0, 0), [])]
def mm_r80 : List (List mm_R) := [mm_r80_0]
/-- 81: GlobeCorner$Tape.become(II)I -/
def mm_r81_0 : List mm_R := [
  (.aload_n 0, (0, 1), (0, 0, 0), (0, 0), []),
  (.iload_n 1, (1, 1), (1, 0, 0), (0, 0), []),
  (.putfield 11, (2, 3), (7, 0, 0), (0, 0), []),
  (.aload_n 0, (5, 1), (0, 0, 0), (0, 0), []),
  (.iload_n 2, (6, 1), (2, 0, 0), (0, 0), []),
  (.putfield 19, (7, 3), (7, 1, 0), (0, 0), []),
  (.aload_n 0, (10, 1), (0, 0, 0), (0, 0), []),
  (.getfield 15, (11, 3), (7, 2, 2), (0, 0), []),
  (.lconst 0, (14, 1), (0, 0, 0), (0, 0), []),
  (.invokestatic 22, (15, 3), (1, 2, 0), (0, 0), []),
  (.iconst 1, (18, 1), (0, 0, 0), (1, 0), []),
  (.ireturn, (19, 1), (0, 0, 0), (0, 0), [])]
def mm_r81 : List (List mm_R) := [mm_r81_0]
/-- 82: GlobeCorner$Tape.narrowed(J)J -/
def mm_r82_0 : List mm_R := [
  (.aload_n 0, (0, 1), (0, 0, 0), (0, 0), []),
  (.getfield 11, (1, 3), (7, 0, 0), (0, 0), []),
  (.tableswitch 62 0 4 #[36, 41, 46, 62, 50], (4, 36), (0, 25, 0), (0, 0), [(0, 3), (1, 8), (2, 13), (3, 25), (4, 17)]),
  (.lload_n 1, (40, 1), (1, 0, 0), (0, 0), []),
  (.l2i, (41, 1), (0, 0, 0), (0, 0), []),
  (.i2b, (42, 1), (0, 0, 0), (0, 0), []),
  (.i2l, (43, 1), (0, 0, 0), (0, 0), []),
  (.lreturn, (44, 1), (0, 0, 0), (0, 0), []),
  (.lload_n 1, (45, 1), (1, 0, 0), (0, 0), []),
  (.l2i, (46, 1), (0, 0, 0), (0, 0), []),
  (.i2s, (47, 1), (0, 0, 0), (0, 0), []),
  (.i2l, (48, 1), (0, 0, 0), (0, 0), []),
  (.lreturn, (49, 1), (0, 0, 0), (0, 0), []),
  (.lload_n 1, (50, 1), (1, 0, 0), (0, 0), []),
  (.l2i, (51, 1), (0, 0, 0), (0, 0), []),
  (.i2l, (52, 1), (0, 0, 0), (0, 0), []),
  (.lreturn, (53, 1), (0, 0, 0), (0, 0), []),
  (.lload_n 1, (54, 1), (1, 0, 0), (0, 0), []),
  (.lconst 0, (55, 1), (0, 0, 0), (0, 0), []),
  (.lcmp, (56, 1), (0, 0, 0), (0, 0), []),
  (.ifCond .eq 7, (57, 3), (0, 23, 0), (0, 0), []),
  (.lconst 1, (60, 1), (0, 0, 0), (0, 1), []),
  (.goto 4, (61, 3), (0, 24, 0), (0, 0), []),
  (.lconst 0, (64, 1), (0, 0, 0), (0, 0), []),
  (.lreturn, (65, 1), (0, 0, 0), (0, 0), []),
  (.lload_n 1, (66, 1), (1, 0, 0), (0, 0), []),
  (.lreturn, (67, 1), (0, 0, 0), (0, 0), [])]
def mm_r82 : List (List mm_R) := [mm_r82_0]
/-- 83: GlobeCorner$Tape.hasRun(II)Z -/
def mm_r83_0 : List mm_R := [
  (.iload_n 2, (0, 1), (2, 0, 0), (0, 0), []),
  (.ifCond .lt 21, (1, 3), (0, 12, 0), (0, 0), []),
  (.iload_n 1, (4, 1), (1, 0, 0), (0, 0), []),
  (.ifCond .lt 17, (5, 3), (0, 12, 0), (0, 0), []),
  (.iload_n 1, (8, 1), (1, 0, 0), (0, 0), []),
  (.aload_n 0, (9, 1), (0, 0, 0), (0, 0), []),
  (.getfield 19, (10, 3), (7, 1, 0), (0, 0), []),
  (.iload_n 2, (13, 1), (2, 0, 0), (0, 0), []),
  (.isub, (14, 1), (0, 0, 0), (0, 0), []),
  (.if_icmp .gt 7, (15, 3), (0, 12, 0), (0, 0), []),
  (.iconst 1, (18, 1), (0, 0, 0), (1, 0), []),
  (.goto 4, (19, 3), (0, 13, 0), (0, 0), []),
  (.iconst 0, (22, 1), (0, 0, 0), (0, 0), []),
  (.ireturn, (23, 1), (1, 0, 0), (0, 0), [])]
def mm_r83 : List (List mm_R) := [mm_r83_0]
/-- 84: GlobeCorner.<init>()V -/
def mm_r84_0 : List mm_R := [
  (.aload_n 0, (0, 1), (0, 0, 0), (0, 0), []),
  (.invokespecial 3, (1, 3), (0, 0, 4), (0, 0), []),
  (.aload_n 0, (4, 1), (0, 0, 0), (0, 0), []),
  (.new 9, (5, 3), (1, 0, 0), (0, 0), []),
  (.dup, (8, 1), (0, 0, 0), (0, 0), []),
  (.invokespecial 11, (9, 3), (24, 1, 3), (0, 0), []),
  (.putfield 12, (12, 3), (8, 0, 2), (0, 0), []),
  (.aload_n 0, (15, 1), (0, 0, 0), (0, 0), []),
  (.new 9, (16, 3), (1, 0, 0), (0, 0), []),
  (.dup, (19, 1), (0, 0, 0), (0, 0), []),
  (.invokespecial 11, (20, 3), (24, 1, 3), (0, 0), []),
  (.putfield 18, (23, 3), (8, 1, 2), (0, 0), []),
  (.aload_n 0, (26, 1), (0, 0, 0), (0, 0), []),
  (.new 21, (27, 3), (2, 0, 0), (0, 0), []),
  (.dup, (30, 1), (0, 0, 0), (0, 0), []),
  (.invokespecial 23, (31, 3), (26, 1, 2), (0, 0), []),
  (.putfield 24, (34, 3), (8, 3, 2), (0, 0), []),
  (.aload_n 0, (37, 1), (0, 0, 0), (0, 0), []),
  (.bipush 6, (38, 2), (0, 0, 0), (6, 0), []),
  (.anewarray 28, (40, 3), (5, 0, 0), (0, 0), []),
  (.putfield 30, (43, 3), (8, 4, 2), (0, 0), []),
  (.aload_n 0, (46, 1), (0, 0, 0), (0, 0), []),
  (.new 34, (47, 3), (4, 0, 0), (0, 0), []),
  (.dup, (50, 1), (0, 0, 0), (0, 0), []),
  (.invokespecial 36, (51, 3), (55, 1, 3), (0, 0), []),
  (.putfield 37, (54, 3), (8, 6, 2), (0, 0), []),
  (.aload_n 0, (57, 1), (0, 0, 0), (0, 0), []),
  (.new 41, (58, 3), (3, 0, 0), (0, 0), []),
  (.dup, (61, 1), (0, 0, 0), (0, 0), []),
  (.invokespecial 43, (62, 3), (48, 1, 3), (0, 0), []),
  (.putfield 44, (65, 3), (8, 7, 2), (0, 0), []),
  (.aload_n 0, (68, 1), (0, 0, 0), (0, 0), [])]
def mm_r84_1 : List mm_R := [
  (.new 48, (69, 3), (0, 0, 0), (0, 0), []),
  (.dup, (72, 1), (0, 0, 0), (0, 0), []),
  (.invokespecial 50, (73, 3), (18, 1, 3), (0, 0), []),
  (.putfield 51, (76, 3), (8, 8, 2), (0, 0), []),
  (.aload_n 0, (79, 1), (0, 0, 0), (0, 0), []),
  (.bipush 6, (80, 2), (0, 0, 0), (6, 0), []),
  (.anewarray 55, (82, 3), (6, 0, 0), (0, 0), []),
  (.putfield 57, (85, 3), (8, 9, 2), (0, 0), []),
  (.iconst 0, (88, 1), (0, 0, 0), (0, 0), []),
  (.istore_n 1, (89, 1), (1, 0, 0), (0, 0), []),
  (.iload_n 1, (90, 1), (1, 0, 0), (0, 0), []),
  (.bipush 6, (91, 2), (0, 0, 0), (6, 0), []),
  (.if_icmp .ge 22, (93, 3), (0, 54, 0), (0, 0), []),
  (.aload_n 0, (96, 1), (0, 0, 0), (0, 0), []),
  (.getfield 30, (97, 3), (8, 4, 2), (0, 0), []),
  (.iload_n 1, (100, 1), (1, 0, 0), (0, 0), []),
  (.new 28, (101, 3), (6, 0, 0), (0, 0), []),
  (.dup, (104, 1), (0, 0, 0), (0, 0), []),
  (.invokespecial 61, (105, 3), (73, 1, 3), (0, 0), []),
  (.aastore, (108, 1), (0, 0, 0), (0, 0), []),
  (.iinc 1 1, (109, 3), (1, 0, 0), (1, 0), []),
  (.goto (-22), (112, 3), (0, 42, 0), (0, 0), []),
  (.iconst 0, (115, 1), (0, 0, 0), (0, 0), []),
  (.istore_n 1, (116, 1), (1, 0, 0), (0, 0), []),
  (.iload_n 1, (117, 1), (1, 0, 0), (0, 0), []),
  (.bipush 6, (118, 2), (0, 0, 0), (6, 0), []),
  (.if_icmp .ge 22, (120, 3), (0, 68, 0), (0, 0), []),
  (.aload_n 0, (123, 1), (0, 0, 0), (0, 0), []),
  (.getfield 57, (124, 3), (8, 9, 2), (0, 0), []),
  (.iload_n 1, (127, 1), (1, 0, 0), (0, 0), []),
  (.new 55, (128, 3), (7, 0, 0), (0, 0), []),
  (.dup, (131, 1), (0, 0, 0), (0, 0), [])]
def mm_r84_2 : List mm_R := [
  (.invokespecial 62, (132, 3), (80, 1, 3), (0, 0), []),
  (.aastore, (135, 1), (0, 0, 0), (0, 0), []),
  (.iinc 1 1, (136, 3), (1, 0, 0), (1, 0), []),
  (.goto (-22), (139, 3), (0, 56, 0), (0, 0), []),
  (.return_, (142, 1), (0, 0, 0), (0, 0), [])]
def mm_r84 : List (List mm_R) := [mm_r84_0, mm_r84_1, mm_r84_2]
/-- 85: GlobeCorner.child(II)I -/
def mm_r85_0 : List mm_R := [
  (.iload_n 1, (0, 1), (1, 0, 0), (0, 0), []),
  (.iconst 0, (1, 1), (0, 0, 0), (0, 0), []),
  (.bipush 6, (2, 2), (0, 0, 0), (6, 0), []),
  (.invokestatic 63, (4, 3), (86, 3, 0), (0, 0), []),
  (.ifCond .ne 5, (7, 3), (0, 7, 0), (0, 0), []),
  (.iconst (-1), (10, 1), (0, 0, 0), ((-1), 0), []),
  (.ireturn, (11, 1), (0, 0, 0), (0, 0), []),
  (.iload_n 2, (12, 1), (2, 0, 0), (0, 0), []),
  (.iconst 0, (13, 1), (0, 0, 0), (0, 0), []),
  (.bipush 9, (14, 2), (0, 0, 0), (9, 0), []),
  (.invokestatic 63, (16, 3), (86, 3, 0), (0, 0), []),
  (.ifCond .ne 6, (19, 3), (0, 14, 0), (0, 0), []),
  (.bipush (-2), (22, 2), (0, 0, 0), ((-2), 0), []),
  (.ireturn, (24, 1), (0, 0, 0), (0, 0), []),
  (.aload_n 0, (25, 1), (0, 0, 0), (0, 0), []),
  (.getfield 12, (26, 3), (8, 0, 2), (0, 0), []),
  (.getfield 67, (29, 3), (1, 0, 2), (0, 0), []),
  (.iload_n 1, (32, 1), (1, 0, 0), (0, 0), []),
  (.iload_n 2, (33, 1), (2, 0, 0), (0, 0), []),
  (.invokevirtual 70, (34, 3), (27, 3, 1), (0, 0), []),
  (.ireturn, (37, 1), (0, 0, 0), (0, 0), [])]
def mm_r85 : List (List mm_R) := [mm_r85_0]
/-- 86: GlobeCorner.within(III)Z -/
def mm_r86_0 : List mm_R := [
  (.iload_n 0, (0, 1), (0, 0, 0), (0, 0), []),
  (.iload_n 1, (1, 1), (1, 0, 0), (0, 0), []),
  (.if_icmp .lt 12, (2, 3), (0, 8, 0), (0, 0), []),
  (.iload_n 0, (5, 1), (0, 0, 0), (0, 0), []),
  (.iload_n 2, (6, 1), (2, 0, 0), (0, 0), []),
  (.if_icmp .gt 7, (7, 3), (0, 8, 0), (0, 0), []),
  (.iconst 1, (10, 1), (0, 0, 0), (1, 0), []),
  (.goto 4, (11, 3), (0, 9, 0), (0, 0), []),
  (.iconst 0, (14, 1), (0, 0, 0), (0, 0), []),
  (.ireturn, (15, 1), (1, 0, 0), (0, 0), [])]
def mm_r86 : List (List mm_R) := [mm_r86_0]
/-- 87: GlobeCorner.of(II)I -/
def mm_r87_0 : List mm_R := [
  (.aload_n 0, (0, 1), (0, 0, 0), (0, 0), []),
  (.iload_n 1, (1, 1), (1, 0, 0), (0, 0), []),
  (.invokevirtual 74, (2, 3), (88, 2, 1), (0, 0), []),
  (.ifCond .ne 7, (5, 3), (0, 6, 0), (0, 0), []),
  (.sipush (-10001), (8, 3), (0, 0, 0), ((-10001), 0), []),
  (.ireturn, (11, 1), (0, 0, 0), (0, 0), []),
  (.aload_n 0, (12, 1), (0, 0, 0), (0, 0), []),
  (.getfield 12, (13, 3), (8, 0, 2), (0, 0), []),
  (.getfield 67, (16, 3), (1, 0, 2), (0, 0), []),
  (.astore_n 3, (19, 1), (3, 0, 0), (0, 0), []),
  (.iload_n 2, (20, 1), (2, 0, 0), (0, 0), []),
  (.tableswitch 59 0 3 #[31, 38, 45, 52], (21, 31), (0, 32, 0), (0, 0), [(0, 12), (1, 17), (2, 22), (3, 27)]),
  (.aload_n 3, (52, 1), (3, 0, 0), (0, 0), []),
  (.getfield 78, (53, 3), (2, 4, 2), (0, 0), []),
  (.iload_n 1, (56, 1), (1, 0, 0), (0, 0), []),
  (.iaload, (57, 1), (0, 0, 0), (0, 0), []),
  (.ireturn, (58, 1), (0, 0, 0), (0, 0), []),
  (.aload_n 3, (59, 1), (3, 0, 0), (0, 0), []),
  (.getfield 82, (60, 3), (2, 5, 2), (0, 0), []),
  (.iload_n 1, (63, 1), (1, 0, 0), (0, 0), []),
  (.iaload, (64, 1), (0, 0, 0), (0, 0), []),
  (.ireturn, (65, 1), (0, 0, 0), (0, 0), []),
  (.aload_n 3, (66, 1), (3, 0, 0), (0, 0), []),
  (.getfield 85, (67, 3), (2, 6, 2), (0, 0), []),
  (.iload_n 1, (70, 1), (1, 0, 0), (0, 0), []),
  (.iaload, (71, 1), (0, 0, 0), (0, 0), []),
  (.ireturn, (72, 1), (0, 0, 0), (0, 0), []),
  (.aload_n 3, (73, 1), (3, 0, 0), (0, 0), []),
  (.getfield 88, (74, 3), (2, 7, 2), (0, 0), []),
  (.iload_n 1, (77, 1), (1, 0, 0), (0, 0), []),
  (.iaload, (78, 1), (0, 0, 0), (0, 0), []),
  (.ireturn, (79, 1), (0, 0, 0), (0, 0), [])]
def mm_r87_1 : List mm_R := [
  (.iload_n 2, (80, 1), (2, 0, 0), (0, 0), []),
  (.invokestatic 91, (81, 3), (89, 1, 0), (0, 0), []),
  (.ifCond .ne 7, (84, 3), (0, 37, 0), (0, 0), []),
  (.sipush (-10001), (87, 3), (0, 0, 0), ((-10001), 0), []),
  (.ireturn, (90, 1), (0, 0, 0), (0, 0), []),
  (.aload_n 3, (91, 1), (3, 0, 0), (0, 0), []),
  (.iload_n 1, (92, 1), (1, 0, 0), (0, 0), []),
  (.iload_n 2, (93, 1), (2, 0, 0), (0, 0), []),
  (.bipush 10, (94, 2), (0, 0, 0), (10, 0), []),
  (.isub, (96, 1), (0, 0, 0), (0, 0), []),
  (.aload_n 3, (97, 1), (3, 0, 0), (0, 0), []),
  (.iload_n 1, (98, 1), (1, 0, 0), (0, 0), []),
  (.iload_n 2, (99, 1), (2, 0, 0), (0, 0), []),
  (.bipush 10, (100, 2), (0, 0, 0), (10, 0), []),
  (.isub, (102, 1), (0, 0, 0), (0, 0), []),
  (.invokevirtual 94, (103, 3), (28, 3, 1), (0, 0), []),
  (.invokevirtual 98, (106, 3), (29, 4, 1), (0, 0), []),
  (.ireturn, (109, 1), (0, 0, 0), (0, 0), [])]
def mm_r87 : List (List mm_R) := [mm_r87_0, mm_r87_1]
/-- 88: GlobeCorner.isChild(I)Z -/
def mm_r88_0 : List mm_R := [
  (.iload_n 1, (0, 1), (1, 0, 0), (0, 0), []),
  (.iconst 0, (1, 1), (0, 0, 0), (0, 0), []),
  (.aload_n 0, (2, 1), (0, 0, 0), (0, 0), []),
  (.getfield 12, (3, 3), (8, 0, 2), (0, 0), []),
  (.getfield 67, (6, 3), (1, 0, 2), (0, 0), []),
  (.getfield 178, (9, 3), (2, 1, 0), (0, 0), []),
  (.iconst 1, (12, 1), (0, 0, 0), (1, 0), []),
  (.isub, (13, 1), (0, 0, 0), (0, 0), []),
  (.invokestatic 63, (14, 3), (86, 3, 0), (0, 0), []),
  (.ireturn, (17, 1), (1, 0, 0), (0, 0), [])]
def mm_r88 : List (List mm_R) := [mm_r88_0]
/-- 89: GlobeCorner.isPlaceBehindTen(I)Z -/
def mm_r89_0 : List mm_R := [
  (.iload_n 0, (0, 1), (0, 0, 0), (0, 0), []),
  (.bipush 10, (1, 2), (0, 0, 0), (10, 0), []),
  (.bipush 21, (3, 2), (0, 0, 0), (21, 0), []),
  (.invokestatic 63, (5, 3), (86, 3, 0), (0, 0), []),
  (.ireturn, (8, 1), (1, 0, 0), (0, 0), [])]
def mm_r89 : List (List mm_R) := [mm_r89_0]
/-- 90: GlobeCorner.spot(II)I -/
def mm_r90_0 : List mm_R := [
  (.iload_n 1, (0, 1), (1, 0, 0), (0, 0), []),
  (.invokestatic 102, (1, 3), (91, 1, 0), (0, 0), []),
  (.ifCond .ne 5, (4, 3), (0, 5, 0), (0, 0), []),
  (.iconst (-1), (7, 1), (0, 0, 0), ((-1), 0), []),
  (.ireturn, (8, 1), (0, 0, 0), (0, 0), []),
  (.iload_n 2, (9, 1), (2, 0, 0), (0, 0), []),
  (.tableswitch 69 0 3 #[30, 43, 55, 62], (10, 30), (0, 30, 0), (0, 0), [(0, 7), (1, 14), (2, 20), (3, 25)]),
  (.aload_n 0, (40, 1), (0, 0, 0), (0, 0), []),
  (.getfield 12, (41, 3), (8, 0, 2), (0, 0), []),
  (.getfield 67, (44, 3), (1, 0, 2), (0, 0), []),
  (.getfield 105, (47, 3), (2, 3, 2), (0, 0), []),
  (.iload_n 1, (50, 1), (1, 0, 0), (0, 0), []),
  (.iaload, (51, 1), (0, 0, 0), (0, 0), []),
  (.ireturn, (52, 1), (0, 0, 0), (0, 0), []),
  (.aload_n 0, (53, 1), (0, 0, 0), (0, 0), []),
  (.getfield 12, (54, 3), (8, 0, 2), (0, 0), []),
  (.getfield 67, (57, 3), (1, 0, 2), (0, 0), []),
  (.iload_n 1, (60, 1), (1, 0, 0), (0, 0), []),
  (.invokevirtual 108, (61, 3), (32, 2, 1), (0, 0), []),
  (.ireturn, (64, 1), (0, 0, 0), (0, 0), []),
  (.aload_n 0, (65, 1), (0, 0, 0), (0, 0), []),
  (.iload_n 1, (66, 1), (1, 0, 0), (0, 0), []),
  (.iconst 0, (67, 1), (0, 0, 0), (0, 0), []),
  (.invokevirtual 112, (68, 3), (92, 3, 1), (0, 0), []),
  (.ireturn, (71, 1), (0, 0, 0), (0, 0), []),
  (.aload_n 0, (72, 1), (0, 0, 0), (0, 0), []),
  (.iload_n 1, (73, 1), (1, 0, 0), (0, 0), []),
  (.iconst 1, (74, 1), (0, 0, 0), (1, 0), []),
  (.invokevirtual 112, (75, 3), (92, 3, 1), (0, 0), []),
  (.ireturn, (78, 1), (0, 0, 0), (0, 0), []),
  (.iconst (-1), (79, 1), (0, 0, 0), ((-1), 0), []),
  (.ireturn, (80, 1), (0, 0, 0), (0, 0), [])]
def mm_r90 : List (List mm_R) := [mm_r90_0]
/-- 91: GlobeCorner.isPlace(I)Z -/
def mm_r91_0 : List mm_R := [
  (.iload_n 0, (0, 1), (0, 0, 0), (0, 0), []),
  (.iconst 0, (1, 1), (0, 0, 0), (0, 0), []),
  (.bipush 11, (2, 2), (0, 0, 0), (11, 0), []),
  (.invokestatic 63, (4, 3), (86, 3, 0), (0, 0), []),
  (.ireturn, (7, 1), (1, 0, 0), (0, 0), [])]
def mm_r91 : List (List mm_R) := [mm_r91_0]
/-- 92: GlobeCorner.fittingNeeds(IZ)I -/
def mm_r92_0 : List mm_R := [
  (.aload_n 0, (0, 1), (0, 0, 0), (0, 0), []),
  (.getfield 24, (1, 3), (8, 3, 2), (0, 0), []),
  (.aload_n 0, (4, 1), (0, 0, 0), (0, 0), []),
  (.getfield 12, (5, 3), (8, 0, 2), (0, 0), []),
  (.getfield 67, (8, 3), (1, 0, 2), (0, 0), []),
  (.invokevirtual 174, (11, 3), (36, 2, 1), (0, 0), []),
  (.iconst 0, (14, 1), (0, 0, 0), (0, 0), []),
  (.istore_n 3, (15, 1), (3, 0, 0), (0, 0), []),
  (.bipush (-5), (16, 2), (0, 0, 0), ((-5), 0), []),
  (.istore 4, (18, 2), (4, 0, 0), (0, 0), []),
  (.aload_n 0, (20, 1), (0, 0, 0), (0, 0), []),
  (.getfield 24, (21, 3), (8, 3, 2), (0, 0), []),
  (.iload_n 1, (24, 1), (1, 0, 0), (0, 0), []),
  (.aload_n 0, (25, 1), (0, 0, 0), (0, 0), []),
  (.getfield 12, (26, 3), (8, 0, 2), (0, 0), []),
  (.getfield 190, (29, 3), (1, 1, 2), (0, 0), []),
  (.invokevirtual 203, (32, 3), (37, 3, 1), (0, 0), []),
  (.istore 5, (35, 2), (5, 0, 0), (0, 0), []),
  (.bipush 99, (37, 2), (0, 0, 0), (99, 0), []),
  (.istore 6, (39, 2), (6, 0, 0), (0, 0), []),
  (.iload 5, (41, 2), (5, 0, 0), (0, 0), []),
  (.ifCond .eq 53, (43, 3), (0, 44, 0), (0, 0), []),
  (.iload 6, (46, 2), (6, 0, 0), (0, 0), []),
  (.ifCond .lt 48, (48, 3), (0, 44, 0), (0, 0), []),
  (.aload_n 0, (51, 1), (0, 0, 0), (0, 0), []),
  (.getfield 24, (52, 3), (8, 3, 2), (0, 0), []),
  (.getfield 105, (55, 3), (2, 3, 2), (0, 0), []),
  (.iload_n 1, (58, 1), (1, 0, 0), (0, 0), []),
  (.iload 6, (59, 2), (6, 0, 0), (0, 0), []),
  (.iastore, (61, 1), (0, 0, 0), (0, 0), []),
  (.aload_n 0, (62, 1), (0, 0, 0), (0, 0), []),
  (.getfield 24, (63, 3), (8, 3, 2), (0, 0), [])]
def mm_r92_1 : List mm_R := [
  (.iload_n 1, (66, 1), (1, 0, 0), (0, 0), []),
  (.aload_n 0, (67, 1), (0, 0, 0), (0, 0), []),
  (.getfield 12, (68, 3), (8, 0, 2), (0, 0), []),
  (.getfield 190, (71, 3), (1, 1, 2), (0, 0), []),
  (.invokevirtual 290, (74, 3), (38, 3, 1), (0, 0), []),
  (.ifCond .ne 6, (77, 3), (0, 39, 0), (0, 0), []),
  (.goto 10, (80, 3), (0, 42, 0), (0, 0), []),
  (.iinc 3 1, (83, 3), (3, 0, 0), (1, 0), []),
  (.iload 6, (86, 2), (6, 0, 0), (0, 0), []),
  (.istore 4, (88, 2), (4, 0, 0), (0, 0), []),
  (.iinc 6 (-1), (90, 3), (6, 0, 0), ((-1), 0), []),
  (.goto (-52), (93, 3), (0, 20, 0), (0, 0), []),
  (.iload_n 2, (96, 1), (2, 0, 0), (0, 0), []),
  (.ifCond .eq 8, (97, 3), (0, 48, 0), (0, 0), []),
  (.iload 4, (100, 2), (4, 0, 0), (0, 0), []),
  (.goto 4, (102, 3), (0, 49, 0), (0, 0), []),
  (.iload_n 3, (105, 1), (3, 0, 0), (0, 0), []),
  (.ireturn, (106, 1), (0, 0, 0), (0, 0), [])]
def mm_r92 : List (List mm_R) := [mm_r92_0, mm_r92_1]
/-- 93: GlobeCorner.point(II)I -/
def mm_r93_0 : List mm_R := [
  (.aload_n 0, (0, 1), (0, 0, 0), (0, 0), []),
  (.iload_n 1, (1, 1), (1, 0, 0), (0, 0), []),
  (.invokevirtual 74, (2, 3), (88, 2, 1), (0, 0), []),
  (.ifCond .ne 5, (5, 3), (0, 6, 0), (0, 0), []),
  (.iconst (-1), (8, 1), (0, 0, 0), ((-1), 0), []),
  (.ireturn, (9, 1), (0, 0, 0), (0, 0), []),
  (.iload_n 2, (10, 1), (2, 0, 0), (0, 0), []),
  (.iconst (-1), (11, 1), (0, 0, 0), ((-1), 0), []),
  (.if_icmp .eq 12, (12, 3), (0, 14, 0), (0, 0), []),
  (.iload_n 2, (15, 1), (2, 0, 0), (0, 0), []),
  (.invokestatic 102, (16, 3), (91, 1, 0), (0, 0), []),
  (.ifCond .ne 5, (19, 3), (0, 14, 0), (0, 0), []),
  (.iconst (-1), (22, 1), (0, 0, 0), ((-1), 0), []),
  (.ireturn, (23, 1), (0, 0, 0), (0, 0), []),
  (.aload_n 0, (24, 1), (0, 0, 0), (0, 0), []),
  (.getfield 12, (25, 3), (8, 0, 2), (0, 0), []),
  (.getfield 67, (28, 3), (1, 0, 2), (0, 0), []),
  (.getfield 85, (31, 3), (2, 6, 2), (0, 0), []),
  (.iload_n 1, (34, 1), (1, 0, 0), (0, 0), []),
  (.iaload, (35, 1), (0, 0, 0), (0, 0), []),
  (.istore_n 3, (36, 1), (3, 0, 0), (0, 0), []),
  (.aload_n 0, (37, 1), (0, 0, 0), (0, 0), []),
  (.getfield 12, (38, 3), (8, 0, 2), (0, 0), []),
  (.getfield 67, (41, 3), (1, 0, 2), (0, 0), []),
  (.getfield 85, (44, 3), (2, 6, 2), (0, 0), []),
  (.iload_n 1, (47, 1), (1, 0, 0), (0, 0), []),
  (.iload_n 2, (48, 1), (2, 0, 0), (0, 0), []),
  (.iconst (-1), (49, 1), (0, 0, 0), ((-1), 0), []),
  (.if_icmp .ne 8, (50, 3), (0, 31, 0), (0, 0), []),
  (.bipush (-5), (53, 2), (0, 0, 0), ((-5), 0), []),
  (.goto 4, (55, 3), (0, 32, 0), (0, 0), []),
  (.iload_n 2, (58, 1), (2, 0, 0), (0, 0), [])]
def mm_r93_1 : List mm_R := [
  (.iastore, (59, 1), (0, 0, 0), (0, 0), []),
  (.iload_n 3, (60, 1), (3, 0, 0), (0, 0), []),
  (.ireturn, (61, 1), (0, 0, 0), (0, 0), [])]
def mm_r93 : List (List mm_R) := [mm_r93_0, mm_r93_1]
/-- 94: GlobeCorner.need(II)I -/
def mm_r94_0 : List mm_R := [
  (.iload_n 1, (0, 1), (1, 0, 0), (0, 0), []),
  (.invokestatic 102, (1, 3), (91, 1, 0), (0, 0), []),
  (.ifCond .ne 5, (4, 3), (0, 5, 0), (0, 0), []),
  (.iconst (-1), (7, 1), (0, 0, 0), ((-1), 0), []),
  (.ireturn, (8, 1), (0, 0, 0), (0, 0), []),
  (.iload_n 2, (9, 1), (2, 0, 0), (0, 0), []),
  (.iconst 0, (10, 1), (0, 0, 0), (0, 0), []),
  (.bipush 99, (11, 2), (0, 0, 0), (99, 0), []),
  (.invokestatic 63, (13, 3), (86, 3, 0), (0, 0), []),
  (.ifCond .ne 6, (16, 3), (0, 12, 0), (0, 0), []),
  (.bipush (-2), (19, 2), (0, 0, 0), ((-2), 0), []),
  (.ireturn, (21, 1), (0, 0, 0), (0, 0), []),
  (.aload_n 0, (22, 1), (0, 0, 0), (0, 0), []),
  (.getfield 12, (23, 3), (8, 0, 2), (0, 0), []),
  (.getfield 67, (26, 3), (1, 0, 2), (0, 0), []),
  (.getfield 105, (29, 3), (2, 3, 2), (0, 0), []),
  (.iload_n 1, (32, 1), (1, 0, 0), (0, 0), []),
  (.iaload, (33, 1), (0, 0, 0), (0, 0), []),
  (.istore_n 3, (34, 1), (3, 0, 0), (0, 0), []),
  (.aload_n 0, (35, 1), (0, 0, 0), (0, 0), []),
  (.getfield 12, (36, 3), (8, 0, 2), (0, 0), []),
  (.getfield 67, (39, 3), (1, 0, 2), (0, 0), []),
  (.getfield 105, (42, 3), (2, 3, 2), (0, 0), []),
  (.iload_n 1, (45, 1), (1, 0, 0), (0, 0), []),
  (.iload_n 2, (46, 1), (2, 0, 0), (0, 0), []),
  (.iastore, (47, 1), (0, 0, 0), (0, 0), []),
  (.iload_n 3, (48, 1), (3, 0, 0), (0, 0), []),
  (.ireturn, (49, 1), (0, 0, 0), (0, 0), [])]
def mm_r94 : List (List mm_R) := [mm_r94_0]
/-- 95: GlobeCorner.spin(I)I -/
def mm_r95_0 : List mm_R := [
  (.iload_n 1, (0, 1), (1, 0, 0), (0, 0), []),
  (.iconst 0, (1, 1), (0, 0, 0), (0, 0), []),
  (.bipush 11, (2, 2), (0, 0, 0), (11, 0), []),
  (.invokestatic 63, (4, 3), (86, 3, 0), (0, 0), []),
  (.ifCond .ne 6, (7, 3), (0, 7, 0), (0, 0), []),
  (.bipush (-2), (10, 2), (0, 0, 0), ((-2), 0), []),
  (.ireturn, (12, 1), (0, 0, 0), (0, 0), []),
  (.aload_n 0, (13, 1), (0, 0, 0), (0, 0), []),
  (.getfield 12, (14, 3), (8, 0, 2), (0, 0), []),
  (.getfield 67, (17, 3), (1, 0, 2), (0, 0), []),
  (.iload_n 1, (20, 1), (1, 0, 0), (0, 0), []),
  (.invokevirtual 116, (21, 3), (39, 2, 1), (0, 0), []),
  (.aload_n 0, (24, 1), (0, 0, 0), (0, 0), []),
  (.getfield 12, (25, 3), (8, 0, 2), (0, 0), []),
  (.getfield 67, (28, 3), (1, 0, 2), (0, 0), []),
  (.invokevirtual 120, (31, 3), (40, 1, 1), (0, 0), []),
  (.ireturn, (34, 1), (0, 0, 0), (0, 0), [])]
def mm_r95 : List (List mm_R) := [mm_r95_0]
/-- 96: GlobeCorner.bell()I -/
def mm_r96_0 : List mm_R := [
  (.aload_n 0, (0, 1), (0, 0, 0), (0, 0), []),
  (.getfield 12, (1, 3), (8, 0, 2), (0, 0), []),
  (.getfield 67, (4, 3), (1, 0, 2), (0, 0), []),
  (.invokevirtual 120, (7, 3), (40, 1, 1), (0, 0), []),
  (.istore_n 1, (10, 1), (1, 0, 0), (0, 0), []),
  (.aload_n 0, (11, 1), (0, 0, 0), (0, 0), []),
  (.getfield 12, (12, 3), (8, 0, 2), (0, 0), []),
  (.getfield 67, (15, 3), (1, 0, 2), (0, 0), []),
  (.getfield 85, (18, 3), (2, 6, 2), (0, 0), []),
  (.bipush (-5), (21, 2), (0, 0, 0), ((-5), 0), []),
  (.invokestatic 124, (23, 3), (0, 2, 0), (0, 0), []),
  (.iload_n 1, (26, 1), (1, 0, 0), (0, 0), []),
  (.ireturn, (27, 1), (0, 0, 0), (0, 0), [])]
def mm_r96 : List (List mm_R) := [mm_r96_0]
/-- 97: GlobeCorner.row(III)I -/
def mm_r97_0 : List mm_R := [
  (.aload_n 0, (0, 1), (0, 0, 0), (0, 0), []),
  (.iload_n 1, (1, 1), (1, 0, 0), (0, 0), []),
  (.invokevirtual 74, (2, 3), (88, 2, 1), (0, 0), []),
  (.ifCond .eq 12, (5, 3), (0, 9, 0), (0, 0), []),
  (.iload_n 2, (8, 1), (2, 0, 0), (0, 0), []),
  (.iconst 0, (9, 1), (0, 0, 0), (0, 0), []),
  (.iconst 3, (10, 1), (0, 0, 0), (3, 0), []),
  (.invokestatic 63, (11, 3), (86, 3, 0), (0, 0), []),
  (.ifCond .ne 5, (14, 3), (0, 11, 0), (0, 0), []),
  (.iconst (-1), (17, 1), (0, 0, 0), ((-1), 0), []),
  (.ireturn, (18, 1), (0, 0, 0), (0, 0), []),
  (.iload_n 3, (19, 1), (3, 0, 0), (0, 0), []),
  (.iconst 0, (20, 1), (0, 0, 0), (0, 0), []),
  (.bipush 9, (21, 2), (0, 0, 0), (9, 0), []),
  (.invokestatic 63, (23, 3), (86, 3, 0), (0, 0), []),
  (.ifCond .ne 6, (26, 3), (0, 18, 0), (0, 0), []),
  (.bipush (-2), (29, 2), (0, 0, 0), ((-2), 0), []),
  (.ireturn, (31, 1), (0, 0, 0), (0, 0), []),
  (.aload_n 0, (32, 1), (0, 0, 0), (0, 0), []),
  (.getfield 12, (33, 3), (8, 0, 2), (0, 0), []),
  (.getfield 67, (36, 3), (1, 0, 2), (0, 0), []),
  (.getfield 78, (39, 3), (2, 4, 2), (0, 0), []),
  (.iload_n 1, (42, 1), (1, 0, 0), (0, 0), []),
  (.iaload, (43, 1), (0, 0, 0), (0, 0), []),
  (.bipush 6, (44, 2), (0, 0, 0), (6, 0), []),
  (.if_icmp .eq 6, (46, 3), (0, 28, 0), (0, 0), []),
  (.bipush (-3), (49, 2), (0, 0, 0), ((-3), 0), []),
  (.ireturn, (51, 1), (0, 0, 0), (0, 0), []),
  (.aload_n 0, (52, 1), (0, 0, 0), (0, 0), []),
  (.getfield 12, (53, 3), (8, 0, 2), (0, 0), []),
  (.getfield 67, (56, 3), (1, 0, 2), (0, 0), []),
  (.getfield 130, (59, 3), (2, 8, 2), (0, 0), [])]
def mm_r97_1 : List mm_R := [
  (.iload_n 1, (62, 1), (1, 0, 0), (0, 0), []),
  (.iconst 4, (63, 1), (0, 0, 0), (4, 0), []),
  (.imul, (64, 1), (0, 0, 0), (0, 0), []),
  (.iload_n 2, (65, 1), (2, 0, 0), (0, 0), []),
  (.iadd, (66, 1), (0, 0, 0), (0, 0), []),
  (.iaload, (67, 1), (0, 0, 0), (0, 0), []),
  (.istore 4, (68, 2), (4, 0, 0), (0, 0), []),
  (.aload_n 0, (70, 1), (0, 0, 0), (0, 0), []),
  (.getfield 12, (71, 3), (8, 0, 2), (0, 0), []),
  (.getfield 67, (74, 3), (1, 0, 2), (0, 0), []),
  (.getfield 130, (77, 3), (2, 8, 2), (0, 0), []),
  (.iload_n 1, (80, 1), (1, 0, 0), (0, 0), []),
  (.iconst 4, (81, 1), (0, 0, 0), (4, 0), []),
  (.imul, (82, 1), (0, 0, 0), (0, 0), []),
  (.iload_n 2, (83, 1), (2, 0, 0), (0, 0), []),
  (.iadd, (84, 1), (0, 0, 0), (0, 0), []),
  (.iload_n 3, (85, 1), (3, 0, 0), (0, 0), []),
  (.iastore, (86, 1), (0, 0, 0), (0, 0), []),
  (.iload 4, (87, 2), (4, 0, 0), (0, 0), []),
  (.ireturn, (89, 1), (0, 0, 0), (0, 0), [])]
def mm_r97 : List (List mm_R) := [mm_r97_0, mm_r97_1]
/-- 98: GlobeCorner.feed(I)I -/
def mm_r98_0 : List mm_R := [
  (.iload_n 1, (0, 1), (1, 0, 0), (0, 0), []),
  (.iconst 0, (1, 1), (0, 0, 0), (0, 0), []),
  (.bipush 127, (2, 2), (0, 0, 0), (127, 0), []),
  (.invokestatic 63, (4, 3), (86, 3, 0), (0, 0), []),
  (.ifCond .ne 6, (7, 3), (0, 7, 0), (0, 0), []),
  (.bipush (-2), (10, 2), (0, 0, 0), ((-2), 0), []),
  (.ireturn, (12, 1), (0, 0, 0), (0, 0), []),
  (.aload_n 0, (13, 1), (0, 0, 0), (0, 0), []),
  (.getfield 37, (14, 3), (8, 6, 2), (0, 0), []),
  (.iload_n 1, (17, 1), (1, 0, 0), (0, 0), []),
  (.invokevirtual 133, (18, 3), (56, 2, 1), (0, 0), []),
  (.ireturn, (21, 1), (0, 0, 0), (0, 0), [])]
def mm_r98 : List (List mm_R) := [mm_r98_0]
/-- 99: GlobeCorner.school()I -/
def mm_r99_0 : List mm_R := [
  (.aload_n 0, (0, 1), (0, 0, 0), (0, 0), []),
  (.getfield 136, (1, 3), (8, 5, 0), (0, 0), []),
  (.bipush 6, (4, 2), (0, 0, 0), (6, 0), []),
  (.if_icmp .lt 6, (6, 3), (0, 6, 0), (0, 0), []),
  (.bipush (-4), (9, 2), (0, 0, 0), ((-4), 0), []),
  (.ireturn, (11, 1), (0, 0, 0), (0, 0), []),
  (.aload_n 0, (12, 1), (0, 0, 0), (0, 0), []),
  (.getfield 30, (13, 3), (8, 4, 2), (0, 0), []),
  (.aload_n 0, (16, 1), (0, 0, 0), (0, 0), []),
  (.getfield 136, (17, 3), (8, 5, 0), (0, 0), []),
  (.aaload, (20, 1), (0, 0, 0), (0, 0), []),
  (.astore_n 1, (21, 1), (1, 0, 0), (0, 0), []),
  (.aload_n 0, (22, 1), (0, 0, 0), (0, 0), []),
  (.getfield 37, (23, 3), (8, 6, 2), (0, 0), []),
  (.aload_n 1, (26, 1), (1, 0, 0), (0, 0), []),
  (.invokevirtual 140, (27, 3), (57, 2, 1), (0, 0), []),
  (.istore_n 2, (30, 1), (2, 0, 0), (0, 0), []),
  (.iload_n 2, (31, 1), (2, 0, 0), (0, 0), []),
  (.ifCond .lt 8, (32, 3), (0, 23, 0), (0, 0), []),
  (.bipush (-10), (35, 2), (0, 0, 0), ((-10), 0), []),
  (.iload_n 2, (37, 1), (2, 0, 0), (0, 0), []),
  (.isub, (38, 1), (0, 0, 0), (0, 0), []),
  (.ireturn, (39, 1), (0, 0, 0), (0, 0), []),
  (.aload_n 0, (40, 1), (0, 0, 0), (0, 0), []),
  (.getfield 12, (41, 3), (8, 0, 2), (0, 0), []),
  (.getfield 67, (44, 3), (1, 0, 2), (0, 0), []),
  (.aload_n 1, (47, 1), (1, 0, 0), (0, 0), []),
  (.putfield 144, (48, 3), (2, 2, 1), (0, 0), []),
  (.aload_n 0, (51, 1), (0, 0, 0), (0, 0), []),
  (.dup, (52, 1), (0, 0, 0), (0, 0), []),
  (.getfield 136, (53, 3), (8, 5, 0), (0, 0), []),
  (.dup_x1, (56, 1), (0, 0, 0), (0, 0), [])]
def mm_r99_1 : List mm_R := [
  (.iconst 1, (57, 1), (0, 0, 0), (1, 0), []),
  (.iadd, (58, 1), (0, 0, 0), (0, 0), []),
  (.putfield 136, (59, 3), (8, 5, 0), (0, 0), []),
  (.ireturn, (62, 1), (0, 0, 0), (0, 0), [])]
def mm_r99 : List (List mm_R) := [mm_r99_0, mm_r99_1]
/-- 100: GlobeCorner.told(I)I -/
def mm_r100_0 : List mm_R := [
  (.iload_n 1, (0, 1), (1, 0, 0), (0, 0), []),
  (.tableswitch 96 0 4 #[35, 46, 57, 69, 81], (1, 35), (0, 31, 0), (0, 0), [(0, 2), (1, 7), (2, 12), (3, 18), (4, 24)]),
  (.aload_n 0, (36, 1), (0, 0, 0), (0, 0), []),
  (.getfield 12, (37, 3), (8, 0, 2), (0, 0), []),
  (.getfield 67, (40, 3), (1, 0, 2), (0, 0), []),
  (.getfield 148, (43, 3), (2, 0, 0), (0, 0), []),
  (.ireturn, (46, 1), (0, 0, 0), (0, 0), []),
  (.aload_n 0, (47, 1), (0, 0, 0), (0, 0), []),
  (.getfield 12, (48, 3), (8, 0, 2), (0, 0), []),
  (.getfield 67, (51, 3), (1, 0, 2), (0, 0), []),
  (.invokevirtual 151, (54, 3), (34, 1, 1), (0, 0), []),
  (.ireturn, (57, 1), (0, 0, 0), (0, 0), []),
  (.aload_n 0, (58, 1), (0, 0, 0), (0, 0), []),
  (.getfield 12, (59, 3), (8, 0, 2), (0, 0), []),
  (.getfield 67, (62, 3), (1, 0, 2), (0, 0), []),
  (.iconst 0, (65, 1), (0, 0, 0), (0, 0), []),
  (.invokevirtual 154, (66, 3), (41, 2, 1), (0, 0), []),
  (.ireturn, (69, 1), (0, 0, 0), (0, 0), []),
  (.aload_n 0, (70, 1), (0, 0, 0), (0, 0), []),
  (.getfield 12, (71, 3), (8, 0, 2), (0, 0), []),
  (.getfield 67, (74, 3), (1, 0, 2), (0, 0), []),
  (.iconst 0, (77, 1), (0, 0, 0), (0, 0), []),
  (.invokevirtual 157, (78, 3), (43, 2, 1), (0, 0), []),
  (.ireturn, (81, 1), (0, 0, 0), (0, 0), []),
  (.aload_n 0, (82, 1), (0, 0, 0), (0, 0), []),
  (.getfield 44, (83, 3), (8, 7, 2), (0, 0), []),
  (.aload_n 0, (86, 1), (0, 0, 0), (0, 0), []),
  (.getfield 12, (87, 3), (8, 0, 2), (0, 0), []),
  (.getfield 67, (90, 3), (1, 0, 2), (0, 0), []),
  (.invokevirtual 160, (93, 3), (49, 2, 1), (0, 0), []),
  (.ireturn, (96, 1), (0, 0, 0), (0, 0), []),
  (.iload_n 1, (97, 1), (1, 0, 0), (0, 0), [])]
def mm_r100_1 : List mm_R := [
  (.bipush 10, (98, 2), (0, 0, 0), (10, 0), []),
  (.if_icmp .lt 14, (100, 3), (0, 40, 0), (0, 0), []),
  (.aload_n 0, (103, 1), (0, 0, 0), (0, 0), []),
  (.iload_n 1, (104, 1), (1, 0, 0), (0, 0), []),
  (.bipush 10, (105, 2), (0, 0, 0), (10, 0), []),
  (.isub, (107, 1), (0, 0, 0), (0, 0), []),
  (.invokevirtual 74, (108, 3), (88, 2, 1), (0, 0), []),
  (.ifCond .ne 5, (111, 3), (0, 42, 0), (0, 0), []),
  (.iconst (-1), (114, 1), (0, 0, 0), ((-1), 0), []),
  (.ireturn, (115, 1), (0, 0, 0), (0, 0), []),
  (.aload_n 0, (116, 1), (0, 0, 0), (0, 0), []),
  (.getfield 44, (117, 3), (8, 7, 2), (0, 0), []),
  (.aload_n 0, (120, 1), (0, 0, 0), (0, 0), []),
  (.getfield 12, (121, 3), (8, 0, 2), (0, 0), []),
  (.getfield 67, (124, 3), (1, 0, 2), (0, 0), []),
  (.iload_n 1, (127, 1), (1, 0, 0), (0, 0), []),
  (.bipush 10, (128, 2), (0, 0, 0), (10, 0), []),
  (.isub, (130, 1), (0, 0, 0), (0, 0), []),
  (.invokevirtual 164, (131, 3), (53, 3, 1), (0, 0), []),
  (.ireturn, (134, 1), (0, 0, 0), (0, 0), [])]
def mm_r100 : List (List mm_R) := [mm_r100_0, mm_r100_1]
/-- 101: GlobeCorner.pass(I)I -/
def mm_r101_0 : List mm_R := [
  (.iload_n 1, (0, 1), (1, 0, 0), (0, 0), []),
  (.iconst 0, (1, 1), (0, 0, 0), (0, 0), []),
  (.bipush 60, (2, 2), (0, 0, 0), (60, 0), []),
  (.invokestatic 63, (4, 3), (86, 3, 0), (0, 0), []),
  (.ifCond .ne 6, (7, 3), (0, 7, 0), (0, 0), []),
  (.bipush (-2), (10, 2), (0, 0, 0), ((-2), 0), []),
  (.ireturn, (12, 1), (0, 0, 0), (0, 0), []),
  (.aload_n 0, (13, 1), (0, 0, 0), (0, 0), []),
  (.getfield 12, (14, 3), (8, 0, 2), (0, 0), []),
  (.getfield 67, (17, 3), (1, 0, 2), (0, 0), []),
  (.getfield 148, (20, 3), (2, 0, 0), (0, 0), []),
  (.iload_n 1, (23, 1), (1, 0, 0), (0, 0), []),
  (.iadd, (24, 1), (0, 0, 0), (0, 0), []),
  (.sipush 9999, (25, 3), (0, 0, 0), (9999, 0), []),
  (.if_icmp .le 6, (28, 3), (0, 17, 0), (0, 0), []),
  (.bipush (-3), (31, 2), (0, 0, 0), ((-3), 0), []),
  (.ireturn, (33, 1), (0, 0, 0), (0, 0), []),
  (.iconst 0, (34, 1), (0, 0, 0), (0, 0), []),
  (.istore_n 2, (35, 1), (2, 0, 0), (0, 0), []),
  (.iload_n 2, (36, 1), (2, 0, 0), (0, 0), []),
  (.iload_n 1, (37, 1), (1, 0, 0), (0, 0), []),
  (.if_icmp .ge 19, (38, 3), (0, 28, 0), (0, 0), []),
  (.aload_n 0, (41, 1), (0, 0, 0), (0, 0), []),
  (.getfield 12, (42, 3), (8, 0, 2), (0, 0), []),
  (.getfield 67, (45, 3), (1, 0, 2), (0, 0), []),
  (.invokevirtual 168, (48, 3), (44, 1, 1), (0, 0), []),
  (.iinc 2 1, (51, 3), (2, 0, 0), (1, 0), []),
  (.goto (-18), (54, 3), (0, 19, 0), (0, 0), []),
  (.aload_n 0, (57, 1), (0, 0, 0), (0, 0), []),
  (.getfield 12, (58, 3), (8, 0, 2), (0, 0), []),
  (.getfield 67, (61, 3), (1, 0, 2), (0, 0), []),
  (.getfield 148, (64, 3), (2, 0, 0), (0, 0), [])]
def mm_r101_1 : List mm_R := [
  (.ireturn, (67, 1), (0, 0, 0), (0, 0), [])]
def mm_r101 : List (List mm_R) := [mm_r101_0, mm_r101_1]
/-- 102: GlobeCorner.on(II)I -/
def mm_r102_0 : List mm_R := [
  (.iload_n 2, (0, 1), (2, 0, 0), (0, 0), []),
  (.ifCond .eq 17, (1, 3), (0, 10, 0), (0, 0), []),
  (.iload_n 2, (4, 1), (2, 0, 0), (0, 0), []),
  (.iconst 1, (5, 1), (0, 0, 0), (1, 0), []),
  (.if_icmp .eq 12, (6, 3), (0, 10, 0), (0, 0), []),
  (.iload_n 2, (9, 1), (2, 0, 0), (0, 0), []),
  (.invokestatic 91, (10, 3), (89, 1, 0), (0, 0), []),
  (.ifCond .ne 5, (13, 3), (0, 10, 0), (0, 0), []),
  (.iconst (-1), (16, 1), (0, 0, 0), ((-1), 0), []),
  (.ireturn, (17, 1), (0, 0, 0), (0, 0), []),
  (.iload_n 1, (18, 1), (1, 0, 0), (0, 0), []),
  (.iconst 0, (19, 1), (0, 0, 0), (0, 0), []),
  (.bipush 60, (20, 2), (0, 0, 0), (60, 0), []),
  (.invokestatic 63, (22, 3), (86, 3, 0), (0, 0), []),
  (.ifCond .ne 6, (25, 3), (0, 17, 0), (0, 0), []),
  (.bipush (-2), (28, 2), (0, 0, 0), ((-2), 0), []),
  (.ireturn, (30, 1), (0, 0, 0), (0, 0), []),
  (.iload_n 2, (31, 1), (2, 0, 0), (0, 0), []),
  (.ifCond .ne 15, (32, 3), (0, 25, 0), (0, 0), []),
  (.aload_n 0, (35, 1), (0, 0, 0), (0, 0), []),
  (.getfield 12, (36, 3), (8, 0, 2), (0, 0), []),
  (.getfield 67, (39, 3), (1, 0, 2), (0, 0), []),
  (.iload_n 1, (42, 1), (1, 0, 0), (0, 0), []),
  (.invokevirtual 154, (43, 3), (41, 2, 1), (0, 0), []),
  (.ireturn, (46, 1), (0, 0, 0), (0, 0), []),
  (.iload_n 2, (47, 1), (2, 0, 0), (0, 0), []),
  (.iconst 1, (48, 1), (0, 0, 0), (1, 0), []),
  (.if_icmp .ne 15, (49, 3), (0, 34, 0), (0, 0), []),
  (.aload_n 0, (52, 1), (0, 0, 0), (0, 0), []),
  (.getfield 12, (53, 3), (8, 0, 2), (0, 0), []),
  (.getfield 67, (56, 3), (1, 0, 2), (0, 0), []),
  (.iload_n 1, (59, 1), (1, 0, 0), (0, 0), [])]
def mm_r102_1 : List mm_R := [
  (.invokevirtual 157, (60, 3), (43, 2, 1), (0, 0), []),
  (.ireturn, (63, 1), (0, 0, 0), (0, 0), []),
  (.aload_n 0, (64, 1), (0, 0, 0), (0, 0), []),
  (.getfield 12, (65, 3), (8, 0, 2), (0, 0), []),
  (.getfield 67, (68, 3), (1, 0, 2), (0, 0), []),
  (.iload_n 2, (71, 1), (2, 0, 0), (0, 0), []),
  (.bipush 10, (72, 2), (0, 0, 0), (10, 0), []),
  (.isub, (74, 1), (0, 0, 0), (0, 0), []),
  (.iload_n 1, (75, 1), (1, 0, 0), (0, 0), []),
  (.invokevirtual 171, (76, 3), (42, 3, 1), (0, 0), []),
  (.ireturn, (79, 1), (0, 0, 0), (0, 0), [])]
def mm_r102 : List (List mm_R) := [mm_r102_0, mm_r102_1]
/-- 103: GlobeCorner.crowd(II)I -/
def mm_r103_0 : List mm_R := [
  (.iload_n 1, (0, 1), (1, 0, 0), (0, 0), []),
  (.invokestatic 102, (1, 3), (91, 1, 0), (0, 0), []),
  (.ifCond .ne 5, (4, 3), (0, 5, 0), (0, 0), []),
  (.iconst (-1), (7, 1), (0, 0, 0), ((-1), 0), []),
  (.ireturn, (8, 1), (0, 0, 0), (0, 0), []),
  (.iload_n 2, (9, 1), (2, 0, 0), (0, 0), []),
  (.iconst 1, (10, 1), (0, 0, 0), (1, 0), []),
  (.bipush 12, (11, 2), (0, 0, 0), (12, 0), []),
  (.invokestatic 63, (13, 3), (86, 3, 0), (0, 0), []),
  (.ifCond .ne 6, (16, 3), (0, 12, 0), (0, 0), []),
  (.bipush (-2), (19, 2), (0, 0, 0), ((-2), 0), []),
  (.ireturn, (21, 1), (0, 0, 0), (0, 0), []),
  (.aload_n 0, (22, 1), (0, 0, 0), (0, 0), []),
  (.getfield 24, (23, 3), (8, 3, 2), (0, 0), []),
  (.aload_n 0, (26, 1), (0, 0, 0), (0, 0), []),
  (.getfield 12, (27, 3), (8, 0, 2), (0, 0), []),
  (.getfield 67, (30, 3), (1, 0, 2), (0, 0), []),
  (.invokevirtual 174, (33, 3), (36, 2, 1), (0, 0), []),
  (.bipush (-5), (36, 2), (0, 0, 0), ((-5), 0), []),
  (.istore_n 3, (38, 1), (3, 0, 0), (0, 0), []),
  (.iconst 1, (39, 1), (0, 0, 0), (1, 0), []),
  (.aload_n 0, (40, 1), (0, 0, 0), (0, 0), []),
  (.getfield 12, (41, 3), (8, 0, 2), (0, 0), []),
  (.getfield 67, (44, 3), (1, 0, 2), (0, 0), []),
  (.getfield 178, (47, 3), (2, 1, 0), (0, 0), []),
  (.ishl, (50, 1), (0, 0, 0), (0, 0), []),
  (.istore 4, (51, 2), (4, 0, 0), (0, 0), []),
  (.iconst 0, (53, 1), (0, 0, 0), (0, 0), []),
  (.istore 5, (54, 2), (5, 0, 0), (0, 0), []),
  (.iload 5, (56, 2), (5, 0, 0), (0, 0), []),
  (.iload 4, (58, 2), (4, 0, 0), (0, 0), []),
  (.if_icmp .ge 67, (60, 3), (0, 62, 0), (0, 0), [])]
def mm_r103_1 : List mm_R := [
  (.iload_n 3, (63, 1), (3, 0, 0), (0, 0), []),
  (.bipush (-5), (64, 2), (0, 0, 0), ((-5), 0), []),
  (.if_icmp .eq 15, (66, 3), (0, 40, 0), (0, 0), []),
  (.iload 5, (69, 2), (5, 0, 0), (0, 0), []),
  (.invokestatic 181, (71, 3), (5, 1, 0), (0, 0), []),
  (.iload_n 3, (74, 1), (3, 0, 0), (0, 0), []),
  (.invokestatic 181, (75, 3), (5, 1, 0), (0, 0), []),
  (.if_icmp .ge 7, (78, 3), (0, 42, 0), (0, 0), []),
  (.iconst 1, (81, 1), (0, 0, 0), (1, 0), []),
  (.goto 4, (82, 3), (0, 43, 0), (0, 0), []),
  (.iconst 0, (85, 1), (0, 0, 0), (0, 0), []),
  (.istore 6, (86, 2), (6, 0, 0), (0, 0), []),
  (.iload 6, (88, 2), (6, 0, 0), (0, 0), []),
  (.ifCond .ne 6, (90, 3), (0, 47, 0), (0, 0), []),
  (.goto 28, (93, 3), (0, 60, 0), (0, 0), []),
  (.aload_n 0, (96, 1), (0, 0, 0), (0, 0), []),
  (.getfield 24, (97, 3), (8, 3, 2), (0, 0), []),
  (.iload 5, (100, 2), (5, 0, 0), (0, 0), []),
  (.iload_n 1, (102, 1), (1, 0, 0), (0, 0), []),
  (.invokevirtual 186, (103, 3), (45, 3, 1), (0, 0), []),
  (.aload_n 0, (106, 1), (0, 0, 0), (0, 0), []),
  (.getfield 24, (107, 3), (8, 3, 2), (0, 0), []),
  (.iload_n 1, (110, 1), (1, 0, 0), (0, 0), []),
  (.iload_n 2, (111, 1), (2, 0, 0), (0, 0), []),
  (.invokevirtual 171, (112, 3), (42, 3, 1), (0, 0), []),
  (.ifCond .ne 6, (115, 3), (0, 60, 0), (0, 0), []),
  (.iload 5, (118, 2), (5, 0, 0), (0, 0), []),
  (.istore_n 3, (120, 1), (3, 0, 0), (0, 0), []),
  (.iinc 5 1, (121, 3), (5, 0, 0), (1, 0), []),
  (.goto (-68), (124, 3), (0, 29, 0), (0, 0), []),
  (.iload_n 3, (127, 1), (3, 0, 0), (0, 0), []),
  (.ireturn, (128, 1), (0, 0, 0), (0, 0), [])]
def mm_r103 : List (List mm_R) := [mm_r103_0, mm_r103_1]
/-- 104: GlobeCorner.turn(I)I -/
def mm_r104_0 : List mm_R := [
  (.iload_n 1, (0, 1), (1, 0, 0), (0, 0), []),
  (.iconst 1, (1, 1), (0, 0, 0), (1, 0), []),
  (.bipush 12, (2, 2), (0, 0, 0), (12, 0), []),
  (.invokestatic 63, (4, 3), (86, 3, 0), (0, 0), []),
  (.ifCond .ne 6, (7, 3), (0, 7, 0), (0, 0), []),
  (.bipush (-2), (10, 2), (0, 0, 0), ((-2), 0), []),
  (.ireturn, (12, 1), (0, 0, 0), (0, 0), []),
  (.aload_n 0, (13, 1), (0, 0, 0), (0, 0), []),
  (.getfield 24, (14, 3), (8, 3, 2), (0, 0), []),
  (.aload_n 0, (17, 1), (0, 0, 0), (0, 0), []),
  (.getfield 12, (18, 3), (8, 0, 2), (0, 0), []),
  (.getfield 67, (21, 3), (1, 0, 2), (0, 0), []),
  (.invokevirtual 174, (24, 3), (36, 2, 1), (0, 0), []),
  (.iconst 0, (27, 1), (0, 0, 0), (0, 0), []),
  (.istore_n 2, (28, 1), (2, 0, 0), (0, 0), []),
  (.aload_n 0, (29, 1), (0, 0, 0), (0, 0), []),
  (.getfield 24, (30, 3), (8, 3, 2), (0, 0), []),
  (.iload_n 1, (33, 1), (1, 0, 0), (0, 0), []),
  (.invokevirtual 154, (34, 3), (41, 2, 1), (0, 0), []),
  (.istore_n 3, (37, 1), (3, 0, 0), (0, 0), []),
  (.iconst 1, (38, 1), (0, 0, 0), (1, 0), []),
  (.istore 4, (39, 2), (4, 0, 0), (0, 0), []),
  (.iload 4, (41, 2), (4, 0, 0), (0, 0), []),
  (.bipush 12, (43, 2), (0, 0, 0), (12, 0), []),
  (.if_icmp .ge 39, (45, 3), (0, 43, 0), (0, 0), []),
  (.aload_n 0, (48, 1), (0, 0, 0), (0, 0), []),
  (.getfield 24, (49, 3), (8, 3, 2), (0, 0), []),
  (.iconst 1, (52, 1), (0, 0, 0), (1, 0), []),
  (.invokevirtual 116, (53, 3), (39, 2, 1), (0, 0), []),
  (.aload_n 0, (56, 1), (0, 0, 0), (0, 0), []),
  (.getfield 24, (57, 3), (8, 3, 2), (0, 0), []),
  (.iload_n 1, (60, 1), (1, 0, 0), (0, 0), [])]
def mm_r104_1 : List mm_R := [
  (.invokevirtual 154, (61, 3), (41, 2, 1), (0, 0), []),
  (.istore 5, (64, 2), (5, 0, 0), (0, 0), []),
  (.iload 5, (66, 2), (5, 0, 0), (0, 0), []),
  (.iload_n 3, (68, 1), (3, 0, 0), (0, 0), []),
  (.if_icmp .ge 9, (69, 3), (0, 41, 0), (0, 0), []),
  (.iload 5, (72, 2), (5, 0, 0), (0, 0), []),
  (.istore_n 3, (74, 1), (3, 0, 0), (0, 0), []),
  (.iload 4, (75, 2), (4, 0, 0), (0, 0), []),
  (.istore_n 2, (77, 1), (2, 0, 0), (0, 0), []),
  (.iinc 4 1, (78, 3), (4, 0, 0), (1, 0), []),
  (.goto (-40), (81, 3), (0, 22, 0), (0, 0), []),
  (.iload_n 2, (84, 1), (2, 0, 0), (0, 0), []),
  (.ireturn, (85, 1), (0, 0, 0), (0, 0), [])]
def mm_r104 : List (List mm_R) := [mm_r104_0, mm_r104_1]
/-- 105: GlobeCorner.see(III)I -/
def mm_r105_0 : List mm_R := [
  (.iload_n 1, (0, 1), (1, 0, 0), (0, 0), []),
  (.iconst (-1), (1, 1), (0, 0, 0), ((-1), 0), []),
  (.if_icmp .ne 14, (2, 3), (0, 8, 0), (0, 0), []),
  (.aload_n 0, (5, 1), (0, 0, 0), (0, 0), []),
  (.getfield 12, (6, 3), (8, 0, 2), (0, 0), []),
  (.getfield 190, (9, 3), (1, 1, 2), (0, 0), []),
  (.invokevirtual 194, (12, 3), (70, 1, 1), (0, 0), []),
  (.ireturn, (15, 1), (0, 0, 0), (0, 0), []),
  (.iload_n 1, (16, 1), (1, 0, 0), (0, 0), []),
  (.invokestatic 102, (17, 3), (91, 1, 0), (0, 0), []),
  (.ifCond .ne 5, (20, 3), (0, 13, 0), (0, 0), []),
  (.iconst (-1), (23, 1), (0, 0, 0), ((-1), 0), []),
  (.ireturn, (24, 1), (0, 0, 0), (0, 0), []),
  (.iload_n 2, (25, 1), (2, 0, 0), (0, 0), []),
  (.iconst 0, (26, 1), (0, 0, 0), (0, 0), []),
  (.bipush 12, (27, 2), (0, 0, 0), (12, 0), []),
  (.invokestatic 63, (29, 3), (86, 3, 0), (0, 0), []),
  (.ifCond .eq 13, (32, 3), (0, 23, 0), (0, 0), []),
  (.iload_n 3, (35, 1), (3, 0, 0), (0, 0), []),
  (.iconst 0, (36, 1), (0, 0, 0), (0, 0), []),
  (.bipush 99, (37, 2), (0, 0, 0), (99, 0), []),
  (.invokestatic 63, (39, 3), (86, 3, 0), (0, 0), []),
  (.ifCond .ne 6, (42, 3), (0, 25, 0), (0, 0), []),
  (.bipush (-2), (45, 2), (0, 0, 0), ((-2), 0), []),
  (.ireturn, (47, 1), (0, 0, 0), (0, 0), []),
  (.aload_n 0, (48, 1), (0, 0, 0), (0, 0), []),
  (.getfield 12, (49, 3), (8, 0, 2), (0, 0), []),
  (.getfield 190, (52, 3), (1, 1, 2), (0, 0), []),
  (.iload_n 1, (55, 1), (1, 0, 0), (0, 0), []),
  (.iload_n 2, (56, 1), (2, 0, 0), (0, 0), []),
  (.iload_n 3, (57, 1), (3, 0, 0), (0, 0), []),
  (.invokevirtual 199, (58, 3), (71, 4, 1), (0, 0), [])]
def mm_r105_1 : List mm_R := [
  (.ireturn, (61, 1), (0, 0, 0), (0, 0), [])]
def mm_r105 : List (List mm_R) := [mm_r105_0, mm_r105_1]
/-- 106: GlobeCorner.can(II)I -/
def mm_r106_0 : List mm_R := [
  (.aload_n 0, (0, 1), (0, 0, 0), (0, 0), []),
  (.iload_n 1, (1, 1), (1, 0, 0), (0, 0), []),
  (.invokevirtual 74, (2, 3), (88, 2, 1), (0, 0), []),
  (.ifCond .eq 12, (5, 3), (0, 9, 0), (0, 0), []),
  (.iload_n 2, (8, 1), (2, 0, 0), (0, 0), []),
  (.iconst 0, (9, 1), (0, 0, 0), (0, 0), []),
  (.iconst 1, (10, 1), (0, 0, 0), (1, 0), []),
  (.invokestatic 63, (11, 3), (86, 3, 0), (0, 0), []),
  (.ifCond .ne 5, (14, 3), (0, 11, 0), (0, 0), []),
  (.iconst (-1), (17, 1), (0, 0, 0), ((-1), 0), []),
  (.ireturn, (18, 1), (0, 0, 0), (0, 0), []),
  (.aload_n 0, (19, 1), (0, 0, 0), (0, 0), []),
  (.getfield 24, (20, 3), (8, 3, 2), (0, 0), []),
  (.aload_n 0, (23, 1), (0, 0, 0), (0, 0), []),
  (.getfield 12, (24, 3), (8, 0, 2), (0, 0), []),
  (.getfield 67, (27, 3), (1, 0, 2), (0, 0), []),
  (.invokevirtual 174, (30, 3), (36, 2, 1), (0, 0), []),
  (.iconst 0, (33, 1), (0, 0, 0), (0, 0), []),
  (.istore_n 3, (34, 1), (3, 0, 0), (0, 0), []),
  (.bipush (-5), (35, 2), (0, 0, 0), ((-5), 0), []),
  (.istore 4, (37, 2), (4, 0, 0), (0, 0), []),
  (.bipush 9, (39, 2), (0, 0, 0), (9, 0), []),
  (.istore 5, (41, 2), (5, 0, 0), (0, 0), []),
  (.iload 5, (43, 2), (5, 0, 0), (0, 0), []),
  (.ifCond .lt 49, (45, 3), (0, 45, 0), (0, 0), []),
  (.aload_n 0, (48, 1), (0, 0, 0), (0, 0), []),
  (.getfield 24, (49, 3), (8, 3, 2), (0, 0), []),
  (.getfield 82, (52, 3), (2, 5, 2), (0, 0), []),
  (.iload_n 1, (55, 1), (1, 0, 0), (0, 0), []),
  (.iload 5, (56, 2), (5, 0, 0), (0, 0), []),
  (.iastore, (58, 1), (0, 0, 0), (0, 0), []),
  (.aload_n 0, (59, 1), (0, 0, 0), (0, 0), [])]
def mm_r106_1 : List mm_R := [
  (.getfield 24, (60, 3), (8, 3, 2), (0, 0), []),
  (.bipush (-5), (63, 2), (0, 0, 0), ((-5), 0), []),
  (.aload_n 0, (65, 1), (0, 0, 0), (0, 0), []),
  (.getfield 12, (66, 3), (8, 0, 2), (0, 0), []),
  (.getfield 190, (69, 3), (1, 1, 2), (0, 0), []),
  (.invokevirtual 203, (72, 3), (37, 3, 1), (0, 0), []),
  (.ifCond .ne 6, (75, 3), (0, 40, 0), (0, 0), []),
  (.goto 10, (78, 3), (0, 43, 0), (0, 0), []),
  (.iinc 3 1, (81, 3), (3, 0, 0), (1, 0), []),
  (.iload 5, (84, 2), (5, 0, 0), (0, 0), []),
  (.istore 4, (86, 2), (4, 0, 0), (0, 0), []),
  (.iinc 5 (-1), (88, 3), (5, 0, 0), ((-1), 0), []),
  (.goto (-48), (91, 3), (0, 23, 0), (0, 0), []),
  (.iload_n 2, (94, 1), (2, 0, 0), (0, 0), []),
  (.ifCond .ne 7, (95, 3), (0, 49, 0), (0, 0), []),
  (.iload_n 3, (98, 1), (3, 0, 0), (0, 0), []),
  (.goto 5, (99, 3), (0, 50, 0), (0, 0), []),
  (.iload 4, (102, 2), (4, 0, 0), (0, 0), []),
  (.ireturn, (104, 1), (0, 0, 0), (0, 0), [])]
def mm_r106 : List (List mm_R) := [mm_r106_0, mm_r106_1]
/-- 107: GlobeCorner.odds(IIII)J -/
def mm_r107_0 : List mm_R := [
  (.aload_n 0, (0, 1), (0, 0, 0), (0, 0), []),
  (.iload_n 1, (1, 1), (1, 0, 0), (0, 0), []),
  (.invokevirtual 74, (2, 3), (88, 2, 1), (0, 0), []),
  (.ifCond .eq 10, (5, 3), (0, 7, 0), (0, 0), []),
  (.iload_n 2, (8, 1), (2, 0, 0), (0, 0), []),
  (.invokestatic 102, (9, 3), (91, 1, 0), (0, 0), []),
  (.ifCond .ne 7, (12, 3), (0, 9, 0), (0, 0), []),
  (.ldc2_w 207, (15, 3), (0, 0, 0), (0, (-9223372036854775808)), []),
  (.lreturn, (18, 1), (0, 0, 0), (0, 0), []),
  (.iload_n 3, (19, 1), (3, 0, 0), (0, 0), []),
  (.iconst 0, (20, 1), (0, 0, 0), (0, 0), []),
  (.bipush 20, (21, 2), (0, 0, 0), (20, 0), []),
  (.invokestatic 63, (23, 3), (86, 3, 0), (0, 0), []),
  (.ifCond .eq 13, (26, 3), (0, 19, 0), (0, 0), []),
  (.iload 4, (29, 2), (4, 0, 0), (0, 0), []),
  (.iconst 0, (31, 1), (0, 0, 0), (0, 0), []),
  (.iconst 1, (32, 1), (0, 0, 0), (1, 0), []),
  (.invokestatic 63, (33, 3), (86, 3, 0), (0, 0), []),
  (.ifCond .ne 7, (36, 3), (0, 21, 0), (0, 0), []),
  (.ldc2_w 207, (39, 3), (0, 0, 0), (0, (-9223372036854775808)), []),
  (.lreturn, (42, 1), (0, 0, 0), (0, 0), []),
  (.aload_n 0, (43, 1), (0, 0, 0), (0, 0), []),
  (.getfield 24, (44, 3), (8, 3, 2), (0, 0), []),
  (.aload_n 0, (47, 1), (0, 0, 0), (0, 0), []),
  (.getfield 12, (48, 3), (8, 0, 2), (0, 0), []),
  (.getfield 67, (51, 3), (1, 0, 2), (0, 0), []),
  (.invokevirtual 174, (54, 3), (36, 2, 1), (0, 0), []),
  (.iconst 0, (57, 1), (0, 0, 0), (0, 0), []),
  (.istore 5, (58, 2), (5, 0, 0), (0, 0), []),
  (.iconst 0, (60, 1), (0, 0, 0), (0, 0), []),
  (.istore 6, (61, 2), (6, 0, 0), (0, 0), []),
  (.iload 6, (63, 2), (6, 0, 0), (0, 0), [])]
def mm_r107_1 : List mm_R := [
  (.bipush 12, (65, 2), (0, 0, 0), (12, 0), []),
  (.if_icmp .ge 35, (67, 3), (0, 49, 0), (0, 0), []),
  (.aload_n 0, (70, 1), (0, 0, 0), (0, 0), []),
  (.getfield 24, (71, 3), (8, 3, 2), (0, 0), []),
  (.getfield 85, (74, 3), (2, 6, 2), (0, 0), []),
  (.iload_n 1, (77, 1), (1, 0, 0), (0, 0), []),
  (.iload 6, (78, 2), (6, 0, 0), (0, 0), []),
  (.iastore, (80, 1), (0, 0, 0), (0, 0), []),
  (.aload_n 0, (81, 1), (0, 0, 0), (0, 0), []),
  (.getfield 24, (82, 3), (8, 3, 2), (0, 0), []),
  (.iload_n 2, (85, 1), (2, 0, 0), (0, 0), []),
  (.iload_n 3, (86, 1), (3, 0, 0), (0, 0), []),
  (.invokevirtual 171, (87, 3), (42, 3, 1), (0, 0), []),
  (.ifCond .ne 6, (90, 3), (0, 47, 0), (0, 0), []),
  (.iinc 5 1, (93, 3), (5, 0, 0), (1, 0), []),
  (.iinc 6 1, (96, 3), (6, 0, 0), (1, 0), []),
  (.goto (-36), (99, 3), (0, 31, 0), (0, 0), []),
  (.iload 5, (102, 2), (5, 0, 0), (0, 0), []),
  (.iload 4, (104, 2), (4, 0, 0), (0, 0), []),
  (.invokestatic 209, (106, 3), (108, 2, 0), (0, 0), []),
  (.lreturn, (109, 1), (0, 0, 0), (0, 0), [])]
def mm_r107 : List (List mm_R) := [mm_r107_0, mm_r107_1]
/-- 108: GlobeCorner.partOfTwelfths(II)J -/
def mm_r108_0 : List mm_R := [
  (.iload_n 1, (0, 1), (1, 0, 0), (0, 0), []),
  (.ifCond .ne 7, (1, 3), (0, 4, 0), (0, 0), []),
  (.iload_n 0, (4, 1), (0, 0, 0), (0, 0), []),
  (.goto 5, (5, 3), (0, 5, 0), (0, 0), []),
  (.bipush 12, (8, 2), (0, 0, 0), (12, 0), []),
  (.istore_n 2, (10, 1), (2, 0, 0), (0, 0), []),
  (.bipush 12, (11, 2), (0, 0, 0), (12, 0), []),
  (.istore_n 3, (13, 1), (3, 0, 0), (0, 0), []),
  (.iload_n 3, (14, 1), (3, 0, 0), (0, 0), []),
  (.iconst 1, (15, 1), (0, 0, 0), (1, 0), []),
  (.if_icmp .le 27, (16, 3), (0, 26, 0), (0, 0), []),
  (.bipush 12, (19, 2), (0, 0, 0), (12, 0), []),
  (.iload_n 3, (21, 1), (3, 0, 0), (0, 0), []),
  (.irem, (22, 1), (0, 0, 0), (0, 0), []),
  (.ifCond .ne 14, (23, 3), (0, 24, 0), (0, 0), []),
  (.iload_n 0, (26, 1), (0, 0, 0), (0, 0), []),
  (.iload_n 3, (27, 1), (3, 0, 0), (0, 0), []),
  (.irem, (28, 1), (0, 0, 0), (0, 0), []),
  (.ifCond .ne 8, (29, 3), (0, 24, 0), (0, 0), []),
  (.iload_n 2, (32, 1), (2, 0, 0), (0, 0), []),
  (.iload_n 3, (33, 1), (3, 0, 0), (0, 0), []),
  (.idiv, (34, 1), (0, 0, 0), (0, 0), []),
  (.i2l, (35, 1), (0, 0, 0), (0, 0), []),
  (.lreturn, (36, 1), (0, 0, 0), (0, 0), []),
  (.iinc 3 (-1), (37, 3), (3, 0, 0), ((-1), 0), []),
  (.goto (-26), (40, 3), (0, 8, 0), (0, 0), []),
  (.iload_n 2, (43, 1), (2, 0, 0), (0, 0), []),
  (.i2l, (44, 1), (0, 0, 0), (0, 0), []),
  (.lreturn, (45, 1), (0, 0, 0), (0, 0), [])]
def mm_r108 : List (List mm_R) := [mm_r108_0]
/-- 109: GlobeCorner.mean(II)J -/
def mm_r109_0 : List mm_R := [
  (.iload_n 1, (0, 1), (1, 0, 0), (0, 0), []),
  (.iconst 0, (1, 1), (0, 0, 0), (0, 0), []),
  (.bipush 60, (2, 2), (0, 0, 0), (60, 0), []),
  (.invokestatic 63, (4, 3), (86, 3, 0), (0, 0), []),
  (.ifCond .eq 12, (7, 3), (0, 10, 0), (0, 0), []),
  (.iload_n 2, (10, 1), (2, 0, 0), (0, 0), []),
  (.iconst 0, (11, 1), (0, 0, 0), (0, 0), []),
  (.iconst 1, (12, 1), (0, 0, 0), (1, 0), []),
  (.invokestatic 63, (13, 3), (86, 3, 0), (0, 0), []),
  (.ifCond .ne 7, (16, 3), (0, 12, 0), (0, 0), []),
  (.ldc2_w 207, (19, 3), (0, 0, 0), (0, (-9223372036854775808)), []),
  (.lreturn, (22, 1), (0, 0, 0), (0, 0), []),
  (.aload_n 0, (23, 1), (0, 0, 0), (0, 0), []),
  (.getfield 12, (24, 3), (8, 0, 2), (0, 0), []),
  (.getfield 67, (27, 3), (1, 0, 2), (0, 0), []),
  (.iload_n 1, (30, 1), (1, 0, 0), (0, 0), []),
  (.invokevirtual 154, (31, 3), (41, 2, 1), (0, 0), []),
  (.iload_n 2, (34, 1), (2, 0, 0), (0, 0), []),
  (.invokestatic 209, (35, 3), (108, 2, 0), (0, 0), []),
  (.lreturn, (38, 1), (0, 0, 0), (0, 0), [])]
def mm_r109 : List (List mm_R) := [mm_r109_0]
/-- 110: GlobeCorner.plan(II)I -/
def mm_r110_0 : List mm_R := [
  (.iload_n 1, (0, 1), (1, 0, 0), (0, 0), []),
  (.iconst (-1), (1, 1), (0, 0, 0), ((-1), 0), []),
  (.if_icmp .ne 14, (2, 3), (0, 8, 0), (0, 0), []),
  (.aload_n 0, (5, 1), (0, 0, 0), (0, 0), []),
  (.getfield 12, (6, 3), (8, 0, 2), (0, 0), []),
  (.getfield 213, (9, 3), (1, 2, 2), (0, 0), []),
  (.invokevirtual 194, (12, 3), (70, 1, 1), (0, 0), []),
  (.ireturn, (15, 1), (0, 0, 0), (0, 0), []),
  (.iload_n 1, (16, 1), (1, 0, 0), (0, 0), []),
  (.tableswitch 125 0 3 #[31, 45, 71, 100], (17, 31), (0, 60, 0), (0, 0), [(0, 10), (1, 18), (2, 32), (3, 47)]),
  (.aload_n 0, (48, 1), (0, 0, 0), (0, 0), []),
  (.getfield 12, (49, 3), (8, 0, 2), (0, 0), []),
  (.getfield 213, (52, 3), (1, 2, 2), (0, 0), []),
  (.iload_n 1, (55, 1), (1, 0, 0), (0, 0), []),
  (.iconst 0, (56, 1), (0, 0, 0), (0, 0), []),
  (.iconst 0, (57, 1), (0, 0, 0), (0, 0), []),
  (.invokevirtual 199, (58, 3), (71, 4, 1), (0, 0), []),
  (.ireturn, (61, 1), (0, 0, 0), (0, 0), []),
  (.aload_n 0, (62, 1), (0, 0, 0), (0, 0), []),
  (.iload_n 2, (63, 1), (2, 0, 0), (0, 0), []),
  (.invokevirtual 74, (64, 3), (88, 2, 1), (0, 0), []),
  (.ifCond .eq 19, (67, 3), (0, 30, 0), (0, 0), []),
  (.aload_n 0, (70, 1), (0, 0, 0), (0, 0), []),
  (.getfield 12, (71, 3), (8, 0, 2), (0, 0), []),
  (.getfield 213, (74, 3), (1, 2, 2), (0, 0), []),
  (.iload_n 1, (77, 1), (1, 0, 0), (0, 0), []),
  (.iload_n 2, (78, 1), (2, 0, 0), (0, 0), []),
  (.iconst 0, (79, 1), (0, 0, 0), (0, 0), []),
  (.invokevirtual 199, (80, 3), (71, 4, 1), (0, 0), []),
  (.goto 4, (83, 3), (0, 31, 0), (0, 0), []),
  (.iconst (-1), (86, 1), (0, 0, 0), ((-1), 0), []),
  (.ireturn, (87, 1), (0, 0, 0), (0, 0), [])]
def mm_r110_1 : List mm_R := [
  (.iload_n 2, (88, 1), (2, 0, 0), (0, 0), []),
  (.iconst 0, (89, 1), (0, 0, 0), (0, 0), []),
  (.bipush 11, (90, 2), (0, 0, 0), (11, 0), []),
  (.invokestatic 63, (92, 3), (86, 3, 0), (0, 0), []),
  (.ifCond .eq 19, (95, 3), (0, 45, 0), (0, 0), []),
  (.aload_n 0, (98, 1), (0, 0, 0), (0, 0), []),
  (.getfield 12, (99, 3), (8, 0, 2), (0, 0), []),
  (.getfield 213, (102, 3), (1, 2, 2), (0, 0), []),
  (.iload_n 1, (105, 1), (1, 0, 0), (0, 0), []),
  (.iload_n 2, (106, 1), (2, 0, 0), (0, 0), []),
  (.iconst 0, (107, 1), (0, 0, 0), (0, 0), []),
  (.invokevirtual 199, (108, 3), (71, 4, 1), (0, 0), []),
  (.goto 5, (111, 3), (0, 46, 0), (0, 0), []),
  (.bipush (-2), (114, 2), (0, 0, 0), ((-2), 0), []),
  (.ireturn, (116, 1), (0, 0, 0), (0, 0), []),
  (.iload_n 2, (117, 1), (2, 0, 0), (0, 0), []),
  (.invokestatic 102, (118, 3), (91, 1, 0), (0, 0), []),
  (.ifCond .eq 19, (121, 3), (0, 58, 0), (0, 0), []),
  (.aload_n 0, (124, 1), (0, 0, 0), (0, 0), []),
  (.getfield 12, (125, 3), (8, 0, 2), (0, 0), []),
  (.getfield 213, (128, 3), (1, 2, 2), (0, 0), []),
  (.iload_n 1, (131, 1), (1, 0, 0), (0, 0), []),
  (.iload_n 2, (132, 1), (2, 0, 0), (0, 0), []),
  (.iconst 0, (133, 1), (0, 0, 0), (0, 0), []),
  (.invokevirtual 199, (134, 3), (71, 4, 1), (0, 0), []),
  (.goto 4, (137, 3), (0, 59, 0), (0, 0), []),
  (.iconst (-1), (140, 1), (0, 0, 0), ((-1), 0), []),
  (.ireturn, (141, 1), (0, 0, 0), (0, 0), []),
  (.iconst (-1), (142, 1), (0, 0, 0), ((-1), 0), []),
  (.ireturn, (143, 1), (0, 0, 0), (0, 0), [])]
def mm_r110 : List (List mm_R) := [mm_r110_0, mm_r110_1]
/-- 111: GlobeCorner.ends(I)I -/
def mm_r111_0 : List mm_R := [
  (.iload_n 1, (0, 1), (1, 0, 0), (0, 0), []),
  (.iconst 0, (1, 1), (0, 0, 0), (0, 0), []),
  (.iconst 1, (2, 1), (0, 0, 0), (1, 0), []),
  (.invokestatic 63, (3, 3), (86, 3, 0), (0, 0), []),
  (.ifCond .ne 5, (6, 3), (0, 7, 0), (0, 0), []),
  (.iconst (-1), (9, 1), (0, 0, 0), ((-1), 0), []),
  (.ireturn, (10, 1), (0, 0, 0), (0, 0), []),
  (.aload_n 0, (11, 1), (0, 0, 0), (0, 0), []),
  (.getfield 24, (12, 3), (8, 3, 2), (0, 0), []),
  (.aload_n 0, (15, 1), (0, 0, 0), (0, 0), []),
  (.getfield 12, (16, 3), (8, 0, 2), (0, 0), []),
  (.getfield 67, (19, 3), (1, 0, 2), (0, 0), []),
  (.invokevirtual 174, (22, 3), (36, 2, 1), (0, 0), []),
  (.iconst 0, (25, 1), (0, 0, 0), (0, 0), []),
  (.istore_n 2, (26, 1), (2, 0, 0), (0, 0), []),
  (.iload_n 2, (27, 1), (2, 0, 0), (0, 0), []),
  (.aload_n 0, (28, 1), (0, 0, 0), (0, 0), []),
  (.getfield 12, (29, 3), (8, 0, 2), (0, 0), []),
  (.getfield 213, (32, 3), (1, 2, 2), (0, 0), []),
  (.getfield 216, (35, 3), (5, 3, 0), (0, 0), []),
  (.if_icmp .ge 40, (38, 3), (0, 38, 0), (0, 0), []),
  (.aload_n 0, (41, 1), (0, 0, 0), (0, 0), []),
  (.getfield 24, (42, 3), (8, 3, 2), (0, 0), []),
  (.aload_n 0, (45, 1), (0, 0, 0), (0, 0), []),
  (.getfield 12, (46, 3), (8, 0, 2), (0, 0), []),
  (.getfield 213, (49, 3), (1, 2, 2), (0, 0), []),
  (.getfield 219, (52, 3), (5, 0, 2), (0, 0), []),
  (.iload_n 2, (55, 1), (2, 0, 0), (0, 0), []),
  (.iaload, (56, 1), (0, 0, 0), (0, 0), []),
  (.aload_n 0, (57, 1), (0, 0, 0), (0, 0), []),
  (.getfield 12, (58, 3), (8, 0, 2), (0, 0), []),
  (.getfield 213, (61, 3), (1, 2, 2), (0, 0), [])]
def mm_r111_1 : List mm_R := [
  (.getfield 222, (64, 3), (5, 1, 2), (0, 0), []),
  (.iload_n 2, (67, 1), (2, 0, 0), (0, 0), []),
  (.iaload, (68, 1), (0, 0, 0), (0, 0), []),
  (.invokevirtual 225, (69, 3), (46, 3, 1), (0, 0), []),
  (.iinc 2 1, (72, 3), (2, 0, 0), (1, 0), []),
  (.goto (-48), (75, 3), (0, 15, 0), (0, 0), []),
  (.iload_n 1, (78, 1), (1, 0, 0), (0, 0), []),
  (.ifCond .ne 14, (79, 3), (0, 45, 0), (0, 0), []),
  (.aload_n 0, (82, 1), (0, 0, 0), (0, 0), []),
  (.getfield 24, (83, 3), (8, 3, 2), (0, 0), []),
  (.iconst 0, (86, 1), (0, 0, 0), (0, 0), []),
  (.invokevirtual 154, (87, 3), (41, 2, 1), (0, 0), []),
  (.goto 10, (90, 3), (0, 48, 0), (0, 0), []),
  (.aload_n 0, (93, 1), (0, 0, 0), (0, 0), []),
  (.getfield 24, (94, 3), (8, 3, 2), (0, 0), []),
  (.invokevirtual 228, (97, 3), (47, 1, 1), (0, 0), []),
  (.ireturn, (100, 1), (0, 0, 0), (0, 0), [])]
def mm_r111 : List (List mm_R) := [mm_r111_0, mm_r111_1]
/-- 112: GlobeCorner.book(II)I -/
def mm_r112_0 : List mm_R := [
  (.iload_n 1, (0, 1), (1, 0, 0), (0, 0), []),
  (.iconst (-1), (1, 1), (0, 0, 0), ((-1), 0), []),
  (.if_icmp .ne 14, (2, 3), (0, 8, 0), (0, 0), []),
  (.aload_n 0, (5, 1), (0, 0, 0), (0, 0), []),
  (.getfield 12, (6, 3), (8, 0, 2), (0, 0), []),
  (.getfield 231, (9, 3), (1, 3, 2), (0, 0), []),
  (.invokevirtual 194, (12, 3), (70, 1, 1), (0, 0), []),
  (.ireturn, (15, 1), (0, 0, 0), (0, 0), []),
  (.iload_n 1, (16, 1), (1, 0, 0), (0, 0), []),
  (.invokestatic 102, (17, 3), (91, 1, 0), (0, 0), []),
  (.ifCond .ne 5, (20, 3), (0, 13, 0), (0, 0), []),
  (.iconst (-1), (23, 1), (0, 0, 0), ((-1), 0), []),
  (.ireturn, (24, 1), (0, 0, 0), (0, 0), []),
  (.iload_n 2, (25, 1), (2, 0, 0), (0, 0), []),
  (.iconst 0, (26, 1), (0, 0, 0), (0, 0), []),
  (.bipush 99, (27, 2), (0, 0, 0), (99, 0), []),
  (.invokestatic 63, (29, 3), (86, 3, 0), (0, 0), []),
  (.ifCond .ne 6, (32, 3), (0, 20, 0), (0, 0), []),
  (.bipush (-2), (35, 2), (0, 0, 0), ((-2), 0), []),
  (.ireturn, (37, 1), (0, 0, 0), (0, 0), []),
  (.aload_n 0, (38, 1), (0, 0, 0), (0, 0), []),
  (.getfield 12, (39, 3), (8, 0, 2), (0, 0), []),
  (.getfield 231, (42, 3), (1, 3, 2), (0, 0), []),
  (.iload_n 1, (45, 1), (1, 0, 0), (0, 0), []),
  (.iload_n 2, (46, 1), (2, 0, 0), (0, 0), []),
  (.iconst 0, (47, 1), (0, 0, 0), (0, 0), []),
  (.invokevirtual 199, (48, 3), (71, 4, 1), (0, 0), []),
  (.ireturn, (51, 1), (0, 0, 0), (0, 0), [])]
def mm_r112 : List (List mm_R) := [mm_r112_0]
/-- 113: GlobeCorner.looked()I -/
def mm_r113_0 : List mm_R := [
  (.iconst 0, (0, 1), (0, 0, 0), (0, 0), []),
  (.istore_n 1, (1, 1), (1, 0, 0), (0, 0), []),
  (.iload_n 1, (2, 1), (1, 0, 0), (0, 0), []),
  (.aload_n 0, (3, 1), (0, 0, 0), (0, 0), []),
  (.getfield 12, (4, 3), (8, 0, 2), (0, 0), []),
  (.getfield 231, (7, 3), (1, 3, 2), (0, 0), []),
  (.getfield 216, (10, 3), (5, 3, 0), (0, 0), []),
  (.if_icmp .ge 49, (13, 3), (0, 30, 0), (0, 0), []),
  (.aload_n 0, (16, 1), (0, 0, 0), (0, 0), []),
  (.getfield 12, (17, 3), (8, 0, 2), (0, 0), []),
  (.getfield 67, (20, 3), (1, 0, 2), (0, 0), []),
  (.getfield 105, (23, 3), (2, 3, 2), (0, 0), []),
  (.aload_n 0, (26, 1), (0, 0, 0), (0, 0), []),
  (.getfield 12, (27, 3), (8, 0, 2), (0, 0), []),
  (.getfield 231, (30, 3), (1, 3, 2), (0, 0), []),
  (.getfield 219, (33, 3), (5, 0, 2), (0, 0), []),
  (.iload_n 1, (36, 1), (1, 0, 0), (0, 0), []),
  (.iaload, (37, 1), (0, 0, 0), (0, 0), []),
  (.iaload, (38, 1), (0, 0, 0), (0, 0), []),
  (.aload_n 0, (39, 1), (0, 0, 0), (0, 0), []),
  (.getfield 12, (40, 3), (8, 0, 2), (0, 0), []),
  (.getfield 231, (43, 3), (1, 3, 2), (0, 0), []),
  (.getfield 222, (46, 3), (5, 1, 2), (0, 0), []),
  (.iload_n 1, (49, 1), (1, 0, 0), (0, 0), []),
  (.iaload, (50, 1), (0, 0, 0), (0, 0), []),
  (.if_icmp .eq 5, (51, 3), (0, 28, 0), (0, 0), []),
  (.iload_n 1, (54, 1), (1, 0, 0), (0, 0), []),
  (.ireturn, (55, 1), (0, 0, 0), (0, 0), []),
  (.iinc 1 1, (56, 3), (1, 0, 0), (1, 0), []),
  (.goto (-57), (59, 3), (0, 2, 0), (0, 0), []),
  (.bipush (-5), (62, 2), (0, 0, 0), ((-5), 0), []),
  (.ireturn, (64, 1), (0, 0, 0), (0, 0), [])]
def mm_r113 : List (List mm_R) := [mm_r113_0]
/-- 114: GlobeCorner.judge(II)I -/
def mm_r114_0 : List mm_R := [
  (.iload_n 1, (0, 1), (1, 0, 0), (0, 0), []),
  (.invokestatic 234, (1, 3), (115, 1, 0), (0, 0), []),
  (.ifCond .ne 5, (4, 3), (0, 5, 0), (0, 0), []),
  (.iconst (-1), (7, 1), (0, 0, 0), ((-1), 0), []),
  (.ireturn, (8, 1), (0, 0, 0), (0, 0), []),
  (.aload_n 0, (9, 1), (0, 0, 0), (0, 0), []),
  (.getfield 57, (10, 3), (8, 9, 2), (0, 0), []),
  (.iload_n 1, (13, 1), (1, 0, 0), (0, 0), []),
  (.aaload, (14, 1), (0, 0, 0), (0, 0), []),
  (.astore_n 3, (15, 1), (3, 0, 0), (0, 0), []),
  (.aload_n 3, (16, 1), (3, 0, 0), (0, 0), []),
  (.getfield 237, (17, 3), (7, 0, 0), (0, 0), []),
  (.iconst (-1), (20, 1), (0, 0, 0), ((-1), 0), []),
  (.if_icmp .eq 13, (21, 3), (0, 19, 0), (0, 0), []),
  (.aload_n 3, (24, 1), (3, 0, 0), (0, 0), []),
  (.getfield 237, (25, 3), (7, 0, 0), (0, 0), []),
  (.ifCond .eq 6, (28, 3), (0, 19, 0), (0, 0), []),
  (.bipush (-12), (31, 2), (0, 0, 0), ((-12), 0), []),
  (.ireturn, (33, 1), (0, 0, 0), (0, 0), []),
  (.iconst 0, (34, 1), (0, 0, 0), (0, 0), []),
  (.istore 4, (35, 2), (4, 0, 0), (0, 0), []),
  (.iload 4, (37, 2), (4, 0, 0), (0, 0), []),
  (.bipush 12, (39, 2), (0, 0, 0), (12, 0), []),
  (.if_icmp .ge 60, (41, 3), (0, 55, 0), (0, 0), []),
  (.iload_n 2, (44, 1), (2, 0, 0), (0, 0), []),
  (.ifCond .lt 14, (45, 3), (0, 32, 0), (0, 0), []),
  (.iload_n 2, (48, 1), (2, 0, 0), (0, 0), []),
  (.aload_n 3, (49, 1), (3, 0, 0), (0, 0), []),
  (.getfield 240, (50, 3), (7, 1, 0), (0, 0), []),
  (.iload 4, (53, 2), (4, 0, 0), (0, 0), []),
  (.isub, (55, 1), (0, 0, 0), (0, 0), []),
  (.if_icmp .lt 9, (56, 3), (0, 36, 0), (0, 0), [])]
def mm_r114_1 : List mm_R := [
  (.bipush 100, (59, 2), (0, 0, 0), (100, 0), []),
  (.iload 4, (61, 2), (4, 0, 0), (0, 0), []),
  (.iadd, (63, 1), (0, 0, 0), (0, 0), []),
  (.ireturn, (64, 1), (0, 0, 0), (0, 0), []),
  (.aload_n 3, (65, 1), (3, 0, 0), (0, 0), []),
  (.getfield 243, (66, 3), (7, 2, 2), (0, 0), []),
  (.iload_n 2, (69, 1), (2, 0, 0), (0, 0), []),
  (.iload 4, (70, 2), (4, 0, 0), (0, 0), []),
  (.iadd, (72, 1), (0, 0, 0), (0, 0), []),
  (.laload, (73, 1), (0, 0, 0), (0, 0), []),
  (.aload_n 0, (74, 1), (0, 0, 0), (0, 0), []),
  (.getfield 12, (75, 3), (8, 0, 2), (0, 0), []),
  (.getfield 67, (78, 3), (1, 0, 2), (0, 0), []),
  (.getfield 105, (81, 3), (2, 3, 2), (0, 0), []),
  (.iload 4, (84, 2), (4, 0, 0), (0, 0), []),
  (.iaload, (86, 1), (0, 0, 0), (0, 0), []),
  (.i2l, (87, 1), (0, 0, 0), (0, 0), []),
  (.lcmp, (88, 1), (0, 0, 0), (0, 0), []),
  (.ifCond .eq 6, (89, 3), (0, 53, 0), (0, 0), []),
  (.iload 4, (92, 2), (4, 0, 0), (0, 0), []),
  (.ireturn, (94, 1), (0, 0, 0), (0, 0), []),
  (.iinc 4 1, (95, 3), (4, 0, 0), (1, 0), []),
  (.goto (-61), (98, 3), (0, 21, 0), (0, 0), []),
  (.bipush (-5), (101, 2), (0, 0, 0), ((-5), 0), []),
  (.ireturn, (103, 1), (0, 0, 0), (0, 0), [])]
def mm_r114 : List (List mm_R) := [mm_r114_0, mm_r114_1]
/-- 115: GlobeCorner.isTape(I)Z -/
def mm_r115_0 : List mm_R := [
  (.iload_n 0, (0, 1), (0, 0, 0), (0, 0), []),
  (.iconst 0, (1, 1), (0, 0, 0), (0, 0), []),
  (.iconst 5, (2, 1), (0, 0, 0), (5, 0), []),
  (.invokestatic 63, (3, 3), (86, 3, 0), (0, 0), []),
  (.ireturn, (6, 1), (1, 0, 0), (0, 0), [])]
def mm_r115 : List (List mm_R) := [mm_r115_0]
/-- 116: GlobeCorner.image()I -/
def mm_r116_0 : List mm_R := [
  (.aload_n 0, (0, 1), (0, 0, 0), (0, 0), []),
  (.getfield 18, (1, 3), (8, 1, 2), (0, 0), []),
  (.aload_n 0, (4, 1), (0, 0, 0), (0, 0), []),
  (.getfield 12, (5, 3), (8, 0, 2), (0, 0), []),
  (.invokevirtual 247, (8, 3), (25, 2, 1), (0, 0), []),
  (.aload_n 0, (11, 1), (0, 0, 0), (0, 0), []),
  (.iconst 1, (12, 1), (0, 0, 0), (1, 0), []),
  (.putfield 250, (13, 3), (8, 2, 5), (0, 0), []),
  (.aload_n 0, (16, 1), (0, 0, 0), (0, 0), []),
  (.getfield 12, (17, 3), (8, 0, 2), (0, 0), []),
  (.getfield 67, (20, 3), (1, 0, 2), (0, 0), []),
  (.getfield 178, (23, 3), (2, 1, 0), (0, 0), []),
  (.ireturn, (26, 1), (0, 0, 0), (0, 0), [])]
def mm_r116 : List (List mm_R) := [mm_r116_0]
/-- 117: GlobeCorner.undo()I -/
def mm_r117_0 : List mm_R := [
  (.aload_n 0, (0, 1), (0, 0, 0), (0, 0), []),
  (.getfield 250, (1, 3), (8, 2, 0), (0, 0), []),
  (.ifCond .ne 6, (4, 3), (0, 5, 0), (0, 0), []),
  (.bipush (-3), (7, 2), (0, 0, 0), ((-3), 0), []),
  (.ireturn, (9, 1), (0, 0, 0), (0, 0), []),
  (.aload_n 0, (10, 1), (0, 0, 0), (0, 0), []),
  (.getfield 12, (11, 3), (8, 0, 2), (0, 0), []),
  (.aload_n 0, (14, 1), (0, 0, 0), (0, 0), []),
  (.getfield 18, (15, 3), (8, 1, 2), (0, 0), []),
  (.invokevirtual 247, (18, 3), (25, 2, 1), (0, 0), []),
  (.aload_n 0, (21, 1), (0, 0, 0), (0, 0), []),
  (.getfield 12, (22, 3), (8, 0, 2), (0, 0), []),
  (.getfield 67, (25, 3), (1, 0, 2), (0, 0), []),
  (.getfield 178, (28, 3), (2, 1, 0), (0, 0), []),
  (.ireturn, (31, 1), (0, 0, 0), (0, 0), [])]
def mm_r117 : List (List mm_R) := [mm_r117_0]
/-- 118: GlobeCorner.act(III)I -/
def mm_r118_0 : List mm_R := [
  (.aload_n 0, (0, 1), (0, 0, 0), (0, 0), []),
  (.getfield 51, (1, 3), (8, 8, 2), (0, 0), []),
  (.invokevirtual 254, (4, 3), (19, 1, 1), (0, 0), []),
  (.aload_n 0, (7, 1), (0, 0, 0), (0, 0), []),
  (.iload_n 1, (8, 1), (1, 0, 0), (0, 0), []),
  (.invokevirtual 74, (9, 3), (88, 2, 1), (0, 0), []),
  (.ifCond .eq 12, (12, 3), (0, 12, 0), (0, 0), []),
  (.iload_n 2, (15, 1), (2, 0, 0), (0, 0), []),
  (.iconst 0, (16, 1), (0, 0, 0), (0, 0), []),
  (.iconst 2, (17, 1), (0, 0, 0), (2, 0), []),
  (.invokestatic 63, (18, 3), (86, 3, 0), (0, 0), []),
  (.ifCond .ne 5, (21, 3), (0, 14, 0), (0, 0), []),
  (.iconst 0, (24, 1), (0, 0, 0), (0, 0), []),
  (.ireturn, (25, 1), (0, 0, 0), (0, 0), []),
  (.aload_n 0, (26, 1), (0, 0, 0), (0, 0), []),
  (.getfield 51, (27, 3), (8, 8, 2), (0, 0), []),
  (.aload_n 0, (30, 1), (0, 0, 0), (0, 0), []),
  (.getfield 12, (31, 3), (8, 0, 2), (0, 0), []),
  (.getfield 67, (34, 3), (1, 0, 2), (0, 0), []),
  (.iload_n 1, (37, 1), (1, 0, 0), (0, 0), []),
  (.iload_n 2, (38, 1), (2, 0, 0), (0, 0), []),
  (.iload_n 3, (39, 1), (3, 0, 0), (0, 0), []),
  (.invokevirtual 257, (40, 3), (20, 5, 1), (0, 0), []),
  (.ireturn, (43, 1), (0, 0, 0), (0, 0), [])]
def mm_r118 : List (List mm_R) := [mm_r118_0]
/-- 119: GlobeCorner.trace(I)I -/
def mm_r119_0 : List mm_R := [
  (.iload_n 1, (0, 1), (1, 0, 0), (0, 0), []),
  (.iconst 0, (1, 1), (0, 0, 0), (0, 0), []),
  (.aload_n 0, (2, 1), (0, 0, 0), (0, 0), []),
  (.getfield 51, (3, 3), (8, 8, 2), (0, 0), []),
  (.invokevirtual 261, (6, 3), (23, 1, 1), (0, 0), []),
  (.iconst 1, (9, 1), (0, 0, 0), (1, 0), []),
  (.isub, (10, 1), (0, 0, 0), (0, 0), []),
  (.invokestatic 63, (11, 3), (86, 3, 0), (0, 0), []),
  (.ifCond .eq 15, (14, 3), (0, 15, 0), (0, 0), []),
  (.aload_n 0, (17, 1), (0, 0, 0), (0, 0), []),
  (.getfield 51, (18, 3), (8, 8, 2), (0, 0), []),
  (.getfield 264, (21, 3), (0, 0, 2), (0, 0), []),
  (.iload_n 1, (24, 1), (1, 0, 0), (0, 0), []),
  (.iaload, (25, 1), (0, 0, 0), (0, 0), []),
  (.goto 4, (26, 3), (0, 16, 0), (0, 0), []),
  (.iconst (-1), (29, 1), (0, 0, 0), ((-1), 0), []),
  (.ireturn, (30, 1), (0, 0, 0), (0, 0), [])]
def mm_r119 : List (List mm_R) := [mm_r119_0]
/-- 120: GlobeCorner.taken(II)I -/
def mm_r120_0 : List mm_R := [
  (.iload_n 2, (0, 1), (2, 0, 0), (0, 0), []),
  (.iconst 0, (1, 1), (0, 0, 0), (0, 0), []),
  (.bipush 6, (2, 2), (0, 0, 0), (6, 0), []),
  (.invokestatic 63, (4, 3), (86, 3, 0), (0, 0), []),
  (.ifCond .ne 6, (7, 3), (0, 7, 0), (0, 0), []),
  (.bipush (-2), (10, 2), (0, 0, 0), ((-2), 0), []),
  (.ireturn, (12, 1), (0, 0, 0), (0, 0), []),
  (.aload_n 0, (13, 1), (0, 0, 0), (0, 0), []),
  (.iload_n 1, (14, 1), (1, 0, 0), (0, 0), []),
  (.invokevirtual 74, (15, 3), (88, 2, 1), (0, 0), []),
  (.ifCond .ne 6, (18, 3), (0, 13, 0), (0, 0), []),
  (.bipush (-11), (21, 2), (0, 0, 0), ((-11), 0), []),
  (.ireturn, (23, 1), (0, 0, 0), (0, 0), []),
  (.aload_n 0, (24, 1), (0, 0, 0), (0, 0), []),
  (.getfield 12, (25, 3), (8, 0, 2), (0, 0), []),
  (.getfield 67, (28, 3), (1, 0, 2), (0, 0), []),
  (.getfield 78, (31, 3), (2, 4, 2), (0, 0), []),
  (.iload_n 1, (34, 1), (1, 0, 0), (0, 0), []),
  (.iaload, (35, 1), (0, 0, 0), (0, 0), []),
  (.istore_n 3, (36, 1), (3, 0, 0), (0, 0), []),
  (.iconst 0, (37, 1), (0, 0, 0), (0, 0), []),
  (.istore 4, (38, 2), (4, 0, 0), (0, 0), []),
  (.iload_n 3, (40, 1), (3, 0, 0), (0, 0), []),
  (.istore 5, (41, 2), (5, 0, 0), (0, 0), []),
  (.iload 4, (43, 2), (4, 0, 0), (0, 0), []),
  (.bipush 7, (45, 2), (0, 0, 0), (7, 0), []),
  (.if_icmp .ge 30, (47, 3), (0, 40, 0), (0, 0), []),
  (.iload 5, (50, 2), (5, 0, 0), (0, 0), []),
  (.ifCond .lt 25, (52, 3), (0, 40, 0), (0, 0), []),
  (.iload 5, (55, 2), (5, 0, 0), (0, 0), []),
  (.iload_n 2, (57, 1), (2, 0, 0), (0, 0), []),
  (.if_icmp .ne 5, (58, 3), (0, 34, 0), (0, 0), [])]
def mm_r120_1 : List mm_R := [
  (.iload_n 3, (61, 1), (3, 0, 0), (0, 0), []),
  (.ireturn, (62, 1), (0, 0, 0), (0, 0), []),
  (.iinc 4 1, (63, 3), (4, 0, 0), (1, 0), []),
  (.getstatic 267, (66, 3), (1, 0, 1), (0, 0), []),
  (.iload 5, (69, 2), (5, 0, 0), (0, 0), []),
  (.iaload, (71, 1), (0, 0, 0), (0, 0), []),
  (.istore 5, (72, 2), (5, 0, 0), (0, 0), []),
  (.goto (-31), (74, 3), (0, 24, 0), (0, 0), []),
  (.bipush (-12), (77, 2), (0, 0, 0), ((-12), 0), []),
  (.ireturn, (79, 1), (0, 0, 0), (0, 0), [])]
def mm_r120 : List (List mm_R) := [mm_r120_0, mm_r120_1]
/-- 121: GlobeCorner.count(I)I -/
def mm_r121_0 : List mm_R := [
  (.iload_n 1, (0, 1), (1, 0, 0), (0, 0), []),
  (.tableswitch 108 0 6 #[43, 54, 59, 70, 81, 92, 100], (1, 43), (0, 33, 0), (0, 0), [(0, 2), (1, 7), (2, 10), (3, 15), (4, 20), (5, 25), (6, 29)]),
  (.aload_n 0, (44, 1), (0, 0, 0), (0, 0), []),
  (.getfield 12, (45, 3), (8, 0, 2), (0, 0), []),
  (.getfield 67, (48, 3), (1, 0, 2), (0, 0), []),
  (.getfield 178, (51, 3), (2, 1, 0), (0, 0), []),
  (.ireturn, (54, 1), (0, 0, 0), (0, 0), []),
  (.aload_n 0, (55, 1), (0, 0, 0), (0, 0), []),
  (.getfield 136, (56, 3), (8, 5, 0), (0, 0), []),
  (.ireturn, (59, 1), (0, 0, 0), (0, 0), []),
  (.aload_n 0, (60, 1), (0, 0, 0), (0, 0), []),
  (.getfield 12, (61, 3), (8, 0, 2), (0, 0), []),
  (.getfield 190, (64, 3), (1, 1, 2), (0, 0), []),
  (.getfield 216, (67, 3), (5, 3, 0), (0, 0), []),
  (.ireturn, (70, 1), (0, 0, 0), (0, 0), []),
  (.aload_n 0, (71, 1), (0, 0, 0), (0, 0), []),
  (.getfield 12, (72, 3), (8, 0, 2), (0, 0), []),
  (.getfield 213, (75, 3), (1, 2, 2), (0, 0), []),
  (.getfield 216, (78, 3), (5, 3, 0), (0, 0), []),
  (.ireturn, (81, 1), (0, 0, 0), (0, 0), []),
  (.aload_n 0, (82, 1), (0, 0, 0), (0, 0), []),
  (.getfield 12, (83, 3), (8, 0, 2), (0, 0), []),
  (.getfield 231, (86, 3), (1, 3, 2), (0, 0), []),
  (.getfield 216, (89, 3), (5, 3, 0), (0, 0), []),
  (.ireturn, (92, 1), (0, 0, 0), (0, 0), []),
  (.aload_n 0, (93, 1), (0, 0, 0), (0, 0), []),
  (.getfield 37, (94, 3), (8, 6, 2), (0, 0), []),
  (.getfield 270, (97, 3), (4, 1, 0), (0, 0), []),
  (.ireturn, (100, 1), (0, 0, 0), (0, 0), []),
  (.aload_n 0, (101, 1), (0, 0, 0), (0, 0), []),
  (.getfield 51, (102, 3), (8, 8, 2), (0, 0), []),
  (.getfield 271, (105, 3), (0, 1, 0), (0, 0), [])]
def mm_r121_1 : List mm_R := [
  (.ireturn, (108, 1), (0, 0, 0), (0, 0), []),
  (.bipush (-2), (109, 2), (0, 0, 0), ((-2), 0), []),
  (.ireturn, (111, 1), (0, 0, 0), (0, 0), [])]
def mm_r121 : List (List mm_R) := [mm_r121_0, mm_r121_1]
/-- 122: GlobeCorner.tape(III)I -/
def mm_r122_0 : List mm_R := [
  (.iload_n 1, (0, 1), (1, 0, 0), (0, 0), []),
  (.invokestatic 234, (1, 3), (115, 1, 0), (0, 0), []),
  (.ifCond .ne 5, (4, 3), (0, 5, 0), (0, 0), []),
  (.iconst (-1), (7, 1), (0, 0, 0), ((-1), 0), []),
  (.ireturn, (8, 1), (0, 0, 0), (0, 0), []),
  (.iload_n 2, (9, 1), (2, 0, 0), (0, 0), []),
  (.iconst (-1), (10, 1), (0, 0, 0), ((-1), 0), []),
  (.iconst 4, (11, 1), (0, 0, 0), (4, 0), []),
  (.invokestatic 63, (12, 3), (86, 3, 0), (0, 0), []),
  (.ifCond .ne 6, (15, 3), (0, 12, 0), (0, 0), []),
  (.bipush (-2), (18, 2), (0, 0, 0), ((-2), 0), []),
  (.ireturn, (20, 1), (0, 0, 0), (0, 0), []),
  (.iload_n 2, (21, 1), (2, 0, 0), (0, 0), []),
  (.iconst (-1), (22, 1), (0, 0, 0), ((-1), 0), []),
  (.if_icmp .ne 15, (23, 3), (0, 23, 0), (0, 0), []),
  (.aload_n 0, (26, 1), (0, 0, 0), (0, 0), []),
  (.getfield 57, (27, 3), (8, 9, 2), (0, 0), []),
  (.iload_n 1, (30, 1), (1, 0, 0), (0, 0), []),
  (.aaload, (31, 1), (0, 0, 0), (0, 0), []),
  (.iload_n 2, (32, 1), (2, 0, 0), (0, 0), []),
  (.iconst 0, (33, 1), (0, 0, 0), (0, 0), []),
  (.invokevirtual 274, (34, 3), (81, 3, 1), (0, 0), []),
  (.ireturn, (37, 1), (0, 0, 0), (0, 0), []),
  (.iload_n 3, (38, 1), (3, 0, 0), (0, 0), []),
  (.bipush 60, (39, 2), (0, 0, 0), (60, 0), []),
  (.if_icmp .le 6, (41, 3), (0, 28, 0), (0, 0), []),
  (.bipush (-2), (44, 2), (0, 0, 0), ((-2), 0), []),
  (.ireturn, (46, 1), (0, 0, 0), (0, 0), []),
  (.iload_n 3, (47, 1), (3, 0, 0), (0, 0), []),
  (.ifCond .ge 6, (48, 3), (0, 32, 0), (0, 0), []),
  (.bipush (-14), (51, 2), (0, 0, 0), ((-14), 0), []),
  (.ireturn, (53, 1), (0, 0, 0), (0, 0), [])]
def mm_r122_1 : List mm_R := [
  (.aload_n 0, (54, 1), (0, 0, 0), (0, 0), []),
  (.getfield 57, (55, 3), (8, 9, 2), (0, 0), []),
  (.iload_n 1, (58, 1), (1, 0, 0), (0, 0), []),
  (.aaload, (59, 1), (0, 0, 0), (0, 0), []),
  (.iload_n 2, (60, 1), (2, 0, 0), (0, 0), []),
  (.iload_n 3, (61, 1), (3, 0, 0), (0, 0), []),
  (.invokevirtual 274, (62, 3), (81, 3, 1), (0, 0), []),
  (.ireturn, (65, 1), (0, 0, 0), (0, 0), [])]
def mm_r122 : List (List mm_R) := [mm_r122_0, mm_r122_1]
/-- 123: GlobeCorner.item(IIJ)I -/
def mm_r123_0 : List mm_R := [
  (.iload_n 1, (0, 1), (1, 0, 0), (0, 0), []),
  (.invokestatic 234, (1, 3), (115, 1, 0), (0, 0), []),
  (.ifCond .ne 5, (4, 3), (0, 5, 0), (0, 0), []),
  (.iconst (-1), (7, 1), (0, 0, 0), ((-1), 0), []),
  (.ireturn, (8, 1), (0, 0, 0), (0, 0), []),
  (.aload_n 0, (9, 1), (0, 0, 0), (0, 0), []),
  (.getfield 57, (10, 3), (8, 9, 2), (0, 0), []),
  (.iload_n 1, (13, 1), (1, 0, 0), (0, 0), []),
  (.aaload, (14, 1), (0, 0, 0), (0, 0), []),
  (.astore 5, (15, 2), (5, 0, 0), (0, 0), []),
  (.aload 5, (17, 2), (5, 0, 0), (0, 0), []),
  (.getfield 237, (19, 3), (7, 0, 0), (0, 0), []),
  (.iconst (-1), (22, 1), (0, 0, 0), ((-1), 0), []),
  (.if_icmp .ne 6, (23, 3), (0, 16, 0), (0, 0), []),
  (.bipush (-11), (26, 2), (0, 0, 0), ((-11), 0), []),
  (.ireturn, (28, 1), (0, 0, 0), (0, 0), []),
  (.iload_n 2, (29, 1), (2, 0, 0), (0, 0), []),
  (.iconst 0, (30, 1), (0, 0, 0), (0, 0), []),
  (.aload 5, (31, 2), (5, 0, 0), (0, 0), []),
  (.getfield 240, (33, 3), (7, 1, 0), (0, 0), []),
  (.iconst 1, (36, 1), (0, 0, 0), (1, 0), []),
  (.isub, (37, 1), (0, 0, 0), (0, 0), []),
  (.invokestatic 63, (38, 3), (86, 3, 0), (0, 0), []),
  (.ifCond .ne 6, (41, 3), (0, 26, 0), (0, 0), []),
  (.bipush (-13), (44, 2), (0, 0, 0), ((-13), 0), []),
  (.ireturn, (46, 1), (0, 0, 0), (0, 0), []),
  (.aload 5, (47, 2), (5, 0, 0), (0, 0), []),
  (.getfield 243, (49, 3), (7, 2, 2), (0, 0), []),
  (.iload_n 2, (52, 1), (2, 0, 0), (0, 0), []),
  (.aload 5, (53, 2), (5, 0, 0), (0, 0), []),
  (.lload_n 3, (55, 1), (3, 0, 0), (0, 0), []),
  (.invokevirtual 277, (56, 3), (82, 2, 1), (0, 0), [])]
def mm_r123_1 : List mm_R := [
  (.lastore, (59, 1), (0, 0, 0), (0, 0), []),
  (.iconst 1, (60, 1), (0, 0, 0), (1, 0), []),
  (.ireturn, (61, 1), (0, 0, 0), (0, 0), [])]
def mm_r123 : List (List mm_R) := [mm_r123_0, mm_r123_1]
/-- 124: GlobeCorner.read(II)J -/
def mm_r124_0 : List mm_R := [
  (.iload_n 1, (0, 1), (1, 0, 0), (0, 0), []),
  (.invokestatic 234, (1, 3), (115, 1, 0), (0, 0), []),
  (.ifCond .ne 7, (4, 3), (0, 5, 0), (0, 0), []),
  (.ldc2_w 207, (7, 3), (0, 0, 0), (0, (-9223372036854775808)), []),
  (.lreturn, (10, 1), (0, 0, 0), (0, 0), []),
  (.iload_n 2, (11, 1), (2, 0, 0), (0, 0), []),
  (.iconst 0, (12, 1), (0, 0, 0), (0, 0), []),
  (.aload_n 0, (13, 1), (0, 0, 0), (0, 0), []),
  (.getfield 57, (14, 3), (8, 9, 2), (0, 0), []),
  (.iload_n 1, (17, 1), (1, 0, 0), (0, 0), []),
  (.aaload, (18, 1), (0, 0, 0), (0, 0), []),
  (.getfield 240, (19, 3), (7, 1, 0), (0, 0), []),
  (.iconst 1, (22, 1), (0, 0, 0), (1, 0), []),
  (.isub, (23, 1), (0, 0, 0), (0, 0), []),
  (.invokestatic 63, (24, 3), (86, 3, 0), (0, 0), []),
  (.ifCond .eq 17, (27, 3), (0, 24, 0), (0, 0), []),
  (.aload_n 0, (30, 1), (0, 0, 0), (0, 0), []),
  (.getfield 57, (31, 3), (8, 9, 2), (0, 0), []),
  (.iload_n 1, (34, 1), (1, 0, 0), (0, 0), []),
  (.aaload, (35, 1), (0, 0, 0), (0, 0), []),
  (.getfield 243, (36, 3), (7, 2, 2), (0, 0), []),
  (.iload_n 2, (39, 1), (2, 0, 0), (0, 0), []),
  (.laload, (40, 1), (0, 0, 0), (0, 0), []),
  (.goto 6, (41, 3), (0, 25, 0), (0, 0), []),
  (.ldc2_w 207, (44, 3), (0, 0, 0), (0, (-9223372036854775808)), []),
  (.lreturn, (47, 1), (0, 0, 0), (0, 0), [])]
def mm_r124 : List (List mm_R) := [mm_r124_0]
/-- 125: GlobeCorner.shift(IIIII)I -/
def mm_r125_0 : List mm_R := [
  (.iload_n 1, (0, 1), (1, 0, 0), (0, 0), []),
  (.invokestatic 234, (1, 3), (115, 1, 0), (0, 0), []),
  (.ifCond .eq 10, (4, 3), (0, 6, 0), (0, 0), []),
  (.iload_n 3, (7, 1), (3, 0, 0), (0, 0), []),
  (.invokestatic 234, (8, 3), (115, 1, 0), (0, 0), []),
  (.ifCond .ne 5, (11, 3), (0, 8, 0), (0, 0), []),
  (.iconst (-1), (14, 1), (0, 0, 0), ((-1), 0), []),
  (.ireturn, (15, 1), (0, 0, 0), (0, 0), []),
  (.aload_n 0, (16, 1), (0, 0, 0), (0, 0), []),
  (.getfield 57, (17, 3), (8, 9, 2), (0, 0), []),
  (.iload_n 1, (20, 1), (1, 0, 0), (0, 0), []),
  (.aaload, (21, 1), (0, 0, 0), (0, 0), []),
  (.astore 6, (22, 2), (6, 0, 0), (0, 0), []),
  (.aload_n 0, (24, 1), (0, 0, 0), (0, 0), []),
  (.getfield 57, (25, 3), (8, 9, 2), (0, 0), []),
  (.iload_n 3, (28, 1), (3, 0, 0), (0, 0), []),
  (.aaload, (29, 1), (0, 0, 0), (0, 0), []),
  (.astore 7, (30, 2), (7, 0, 0), (0, 0), []),
  (.aload 6, (32, 2), (6, 0, 0), (0, 0), []),
  (.getfield 237, (34, 3), (7, 0, 0), (0, 0), []),
  (.iconst (-1), (37, 1), (0, 0, 0), ((-1), 0), []),
  (.if_icmp .eq 12, (38, 3), (0, 26, 0), (0, 0), []),
  (.aload 7, (41, 2), (7, 0, 0), (0, 0), []),
  (.getfield 237, (43, 3), (7, 0, 0), (0, 0), []),
  (.iconst (-1), (46, 1), (0, 0, 0), ((-1), 0), []),
  (.if_icmp .ne 6, (47, 3), (0, 28, 0), (0, 0), []),
  (.bipush (-11), (50, 2), (0, 0, 0), ((-11), 0), []),
  (.ireturn, (52, 1), (0, 0, 0), (0, 0), []),
  (.aload 6, (53, 2), (6, 0, 0), (0, 0), []),
  (.getfield 237, (55, 3), (7, 0, 0), (0, 0), []),
  (.aload 7, (58, 2), (7, 0, 0), (0, 0), []),
  (.getfield 237, (60, 3), (7, 0, 0), (0, 0), [])]
def mm_r125_1 : List mm_R := [
  (.if_icmp .eq 6, (63, 3), (0, 35, 0), (0, 0), []),
  (.bipush (-12), (66, 2), (0, 0, 0), ((-12), 0), []),
  (.ireturn, (68, 1), (0, 0, 0), (0, 0), []),
  (.aload 6, (69, 2), (6, 0, 0), (0, 0), []),
  (.iload_n 2, (71, 1), (2, 0, 0), (0, 0), []),
  (.iload 5, (72, 2), (5, 0, 0), (0, 0), []),
  (.invokevirtual 281, (74, 3), (83, 3, 1), (0, 0), []),
  (.ifCond .eq 15, (77, 3), (0, 45, 0), (0, 0), []),
  (.aload 7, (80, 2), (7, 0, 0), (0, 0), []),
  (.iload 4, (82, 2), (4, 0, 0), (0, 0), []),
  (.iload 5, (84, 2), (5, 0, 0), (0, 0), []),
  (.invokevirtual 281, (86, 3), (83, 3, 1), (0, 0), []),
  (.ifCond .ne 6, (89, 3), (0, 47, 0), (0, 0), []),
  (.bipush (-13), (92, 2), (0, 0, 0), ((-13), 0), []),
  (.ireturn, (94, 1), (0, 0, 0), (0, 0), []),
  (.aload 6, (95, 2), (6, 0, 0), (0, 0), []),
  (.getfield 243, (97, 3), (7, 2, 2), (0, 0), []),
  (.iload_n 2, (100, 1), (2, 0, 0), (0, 0), []),
  (.aload 7, (101, 2), (7, 0, 0), (0, 0), []),
  (.getfield 243, (103, 3), (7, 2, 2), (0, 0), []),
  (.iload 4, (106, 2), (4, 0, 0), (0, 0), []),
  (.iload 5, (108, 2), (5, 0, 0), (0, 0), []),
  (.invokestatic 284, (110, 3), (0, 0, 5), (0, 0), []),
  (.iload 5, (113, 2), (5, 0, 0), (0, 0), []),
  (.ireturn, (115, 1), (0, 0, 0), (0, 0), [])]
def mm_r125 : List (List mm_R) := [mm_r125_0, mm_r125_1]
end
section
/-- 126: GlobeCornerModel.<init>()V -/
def mm_r126_0 : List mm_R := [
  (.aload_n 0, (0, 1), (0, 0, 0), (0, 0), []),
  (.invokespecial 3, (1, 3), (0, 0, 4), (0, 0), []),
  (.aload_n 0, (4, 1), (0, 0, 0), (0, 0), []),
  (.bipush 12, (5, 2), (0, 0, 0), (12, 0), []),
  (.newarray .int, (7, 2), (1, 0, 0), (0, 0), []),
  (.putfield 9, (9, 3), (9, 0, 2), (0, 0), []),
  (.aload_n 0, (12, 1), (0, 0, 0), (0, 0), []),
  (.bipush 6, (13, 2), (0, 0, 0), (6, 0), []),
  (.newarray .int, (15, 2), (1, 0, 0), (0, 0), []),
  (.putfield 15, (17, 3), (9, 2, 2), (0, 0), []),
  (.aload_n 0, (20, 1), (0, 0, 0), (0, 0), []),
  (.bipush 6, (21, 2), (0, 0, 0), (6, 0), []),
  (.newarray .int, (23, 2), (1, 0, 0), (0, 0), []),
  (.putfield 18, (25, 3), (9, 3, 2), (0, 0), []),
  (.aload_n 0, (28, 1), (0, 0, 0), (0, 0), []),
  (.bipush 6, (29, 2), (0, 0, 0), (6, 0), []),
  (.newarray .int, (31, 2), (1, 0, 0), (0, 0), []),
  (.putfield 21, (33, 3), (9, 4, 2), (0, 0), []),
  (.aload_n 0, (36, 1), (0, 0, 0), (0, 0), []),
  (.bipush 6, (37, 2), (0, 0, 0), (6, 0), []),
  (.newarray .int, (39, 2), (1, 0, 0), (0, 0), []),
  (.putfield 24, (41, 3), (9, 5, 2), (0, 0), []),
  (.aload_n 0, (44, 1), (0, 0, 0), (0, 0), []),
  (.bipush 24, (45, 2), (0, 0, 0), (24, 0), []),
  (.newarray .int, (47, 2), (1, 0, 0), (0, 0), []),
  (.putfield 27, (49, 3), (9, 6, 2), (0, 0), []),
  (.aload_n 0, (52, 1), (0, 0, 0), (0, 0), []),
  (.bipush 100, (53, 2), (0, 0, 0), (100, 0), []),
  (.newarray .int, (55, 2), (1, 0, 0), (0, 0), []),
  (.putfield 30, (57, 3), (9, 9, 2), (0, 0), []),
  (.aload_n 0, (60, 1), (0, 0, 0), (0, 0), []),
  (.bipush 6, (61, 2), (0, 0, 0), (6, 0), [])]
def mm_r126_1 : List mm_R := [
  (.newarray .int, (63, 2), (1, 0, 0), (0, 0), []),
  (.putfield 33, (65, 3), (9, 16, 2), (0, 0), []),
  (.aload_n 0, (68, 1), (0, 0, 0), (0, 0), []),
  (.bipush 61, (69, 2), (0, 0, 0), (61, 0), []),
  (.newarray .int, (71, 2), (1, 0, 0), (0, 0), []),
  (.putfield 36, (73, 3), (9, 17, 2), (0, 0), []),
  (.aload_n 0, (76, 1), (0, 0, 0), (0, 0), []),
  (.bipush 61, (77, 2), (0, 0, 0), (61, 0), []),
  (.newarray .int, (79, 2), (1, 0, 0), (0, 0), []),
  (.putfield 39, (81, 3), (9, 18, 2), (0, 0), []),
  (.aload_n 0, (84, 1), (0, 0, 0), (0, 0), []),
  (.bipush 61, (85, 2), (0, 0, 0), (61, 0), []),
  (.newarray .int, (87, 2), (1, 0, 0), (0, 0), []),
  (.putfield 42, (89, 3), (9, 19, 2), (0, 0), []),
  (.aload_n 0, (92, 1), (0, 0, 0), (0, 0), []),
  (.bipush 61, (93, 2), (0, 0, 0), (61, 0), []),
  (.newarray .int, (95, 2), (1, 0, 0), (0, 0), []),
  (.putfield 45, (97, 3), (9, 20, 2), (0, 0), []),
  (.aload_n 0, (100, 1), (0, 0, 0), (0, 0), []),
  (.sipush 800, (101, 3), (0, 0, 0), (800, 0), []),
  (.newarray .int, (104, 2), (1, 0, 0), (0, 0), []),
  (.putfield 48, (106, 3), (9, 21, 2), (0, 0), []),
  (.aload_n 0, (109, 1), (0, 0, 0), (0, 0), []),
  (.bipush 110, (110, 2), (0, 0, 0), (110, 0), []),
  (.newarray .boolean, (112, 2), (3, 0, 0), (0, 0), []),
  (.putfield 51, (114, 3), (9, 23, 2), (0, 0), []),
  (.aload_n 0, (117, 1), (0, 0, 0), (0, 0), []),
  (.iconst 5, (118, 1), (0, 0, 0), (5, 0), []),
  (.newarray .int, (119, 2), (1, 0, 0), (0, 0), []),
  (.putfield 55, (121, 3), (9, 25, 2), (0, 0), []),
  (.aload_n 0, (124, 1), (0, 0, 0), (0, 0), []),
  (.iconst 5, (125, 1), (0, 0, 0), (5, 0), [])]
def mm_r126_2 : List mm_R := [
  (.newarray .int, (126, 2), (1, 0, 0), (0, 0), []),
  (.putfield 58, (128, 3), (9, 26, 2), (0, 0), []),
  (.aload_n 0, (131, 1), (0, 0, 0), (0, 0), []),
  (.iconst 5, (132, 1), (0, 0, 0), (5, 0), []),
  (.newarray .int, (133, 2), (1, 0, 0), (0, 0), []),
  (.putfield 61, (135, 3), (9, 27, 2), (0, 0), []),
  (.aload_n 0, (138, 1), (0, 0, 0), (0, 0), []),
  (.bipush 10, (139, 2), (0, 0, 0), (10, 0), []),
  (.newarray .int, (141, 2), (1, 0, 0), (0, 0), []),
  (.putfield 64, (143, 3), (9, 29, 2), (0, 0), []),
  (.aload_n 0, (146, 1), (0, 0, 0), (0, 0), []),
  (.bipush 10, (147, 2), (0, 0, 0), (10, 0), []),
  (.newarray .int, (149, 2), (1, 0, 0), (0, 0), []),
  (.putfield 67, (151, 3), (9, 30, 2), (0, 0), []),
  (.aload_n 0, (154, 1), (0, 0, 0), (0, 0), []),
  (.bipush 8, (155, 2), (0, 0, 0), (8, 0), []),
  (.newarray .int, (157, 2), (1, 0, 0), (0, 0), []),
  (.putfield 70, (159, 3), (9, 32, 2), (0, 0), []),
  (.aload_n 0, (162, 1), (0, 0, 0), (0, 0), []),
  (.bipush 8, (163, 2), (0, 0, 0), (8, 0), []),
  (.newarray .int, (165, 2), (1, 0, 0), (0, 0), []),
  (.putfield 73, (167, 3), (9, 33, 2), (0, 0), []),
  (.aload_n 0, (170, 1), (0, 0, 0), (0, 0), []),
  (.bipush 20, (171, 2), (0, 0, 0), (20, 0), []),
  (.newarray .int, (173, 2), (1, 0, 0), (0, 0), []),
  (.putfield 76, (175, 3), (9, 35, 2), (0, 0), []),
  (.aload_n 0, (178, 1), (0, 0, 0), (0, 0), []),
  (.bipush 118, (179, 2), (0, 0, 0), (118, 0), []),
  (.newarray .int, (181, 2), (1, 0, 0), (0, 0), []),
  (.putfield 79, (183, 3), (9, 37, 2), (0, 0), []),
  (.aload_n 0, (186, 1), (0, 0, 0), (0, 0), []),
  (.bipush 118, (187, 2), (0, 0, 0), (118, 0), [])]
def mm_r126_3 : List mm_R := [
  (.newarray .int, (189, 2), (1, 0, 0), (0, 0), []),
  (.putfield 82, (191, 3), (9, 38, 2), (0, 0), []),
  (.aload_n 0, (194, 1), (0, 0, 0), (0, 0), []),
  (.bipush 12, (195, 2), (0, 0, 0), (12, 0), []),
  (.newarray .int, (197, 2), (1, 0, 0), (0, 0), []),
  (.putfield 85, (199, 3), (9, 39, 2), (0, 0), []),
  (.aload_n 0, (202, 1), (0, 0, 0), (0, 0), []),
  (.bipush 72, (203, 2), (0, 0, 0), (72, 0), []),
  (.newarray .int, (205, 2), (1, 0, 0), (0, 0), []),
  (.putfield 88, (207, 3), (9, 40, 2), (0, 0), []),
  (.aload_n 0, (210, 1), (0, 0, 0), (0, 0), []),
  (.bipush 6, (211, 2), (0, 0, 0), (6, 0), []),
  (.newarray .int, (213, 2), (1, 0, 0), (0, 0), []),
  (.putfield 91, (215, 3), (9, 41, 2), (0, 0), []),
  (.aload_n 0, (218, 1), (0, 0, 0), (0, 0), []),
  (.bipush 6, (219, 2), (0, 0, 0), (6, 0), []),
  (.newarray .int, (221, 2), (1, 0, 0), (0, 0), []),
  (.putfield 94, (223, 3), (9, 42, 2), (0, 0), []),
  (.aload_n 0, (226, 1), (0, 0, 0), (0, 0), []),
  (.bipush 6, (227, 2), (0, 0, 0), (6, 0), []),
  (.newarray .int, (229, 2), (1, 0, 0), (0, 0), []),
  (.putfield 97, (231, 3), (9, 44, 2), (0, 0), []),
  (.aload_n 0, (234, 1), (0, 0, 0), (0, 0), []),
  (.bipush 6, (235, 2), (0, 0, 0), (6, 0), []),
  (.newarray .int, (237, 2), (1, 0, 0), (0, 0), []),
  (.putfield 100, (239, 3), (9, 45, 2), (0, 0), []),
  (.aload_n 0, (242, 1), (0, 0, 0), (0, 0), []),
  (.sipush 360, (243, 3), (0, 0, 0), (360, 0), []),
  (.newarray .long, (246, 2), (4, 0, 0), (0, 0), []),
  (.putfield 103, (248, 3), (9, 46, 2), (0, 0), []),
  (.iconst 0, (251, 1), (0, 0, 0), (0, 0), []),
  (.istore_n 1, (252, 1), (1, 0, 0), (0, 0), [])]
def mm_r126_4 : List mm_R := [
  (.iload_n 1, (253, 1), (1, 0, 0), (0, 0), []),
  (.bipush 12, (254, 2), (0, 0, 0), (12, 0), []),
  (.if_icmp .ge 17, (256, 3), (0, 138, 0), (0, 0), []),
  (.aload_n 0, (259, 1), (0, 0, 0), (0, 0), []),
  (.getfield 9, (260, 3), (9, 0, 2), (0, 0), []),
  (.iload_n 1, (263, 1), (1, 0, 0), (0, 0), []),
  (.bipush 20, (264, 2), (0, 0, 0), (20, 0), []),
  (.iastore, (266, 1), (0, 0, 0), (0, 0), []),
  (.iinc 1 1, (267, 3), (1, 0, 0), (1, 0), []),
  (.goto (-17), (270, 3), (0, 128, 0), (0, 0), []),
  (.aload_n 0, (273, 1), (0, 0, 0), (0, 0), []),
  (.iconst (-1), (274, 1), (0, 0, 0), ((-1), 0), []),
  (.putfield 107, (275, 3), (9, 15, 0), (0, 0), []),
  (.iconst 0, (278, 1), (0, 0, 0), (0, 0), []),
  (.istore_n 1, (279, 1), (1, 0, 0), (0, 0), []),
  (.iload_n 1, (280, 1), (1, 0, 0), (0, 0), []),
  (.bipush 6, (281, 2), (0, 0, 0), (6, 0), []),
  (.if_icmp .ge 16, (283, 3), (0, 153, 0), (0, 0), []),
  (.aload_n 0, (286, 1), (0, 0, 0), (0, 0), []),
  (.getfield 97, (287, 3), (9, 44, 2), (0, 0), []),
  (.iload_n 1, (290, 1), (1, 0, 0), (0, 0), []),
  (.iconst (-1), (291, 1), (0, 0, 0), ((-1), 0), []),
  (.iastore, (292, 1), (0, 0, 0), (0, 0), []),
  (.iinc 1 1, (293, 3), (1, 0, 0), (1, 0), []),
  (.goto (-16), (296, 3), (0, 143, 0), (0, 0), []),
  (.return_, (299, 1), (0, 0, 0), (0, 0), [])]
def mm_r126 : List (List mm_R) := [mm_r126_0, mm_r126_1, mm_r126_2, mm_r126_3, mm_r126_4]
/-- 127: GlobeCornerModel.child(II)I -/
def mm_r127_0 : List mm_R := [
  (.iload_n 1, (0, 1), (1, 0, 0), (0, 0), []),
  (.iconst 0, (1, 1), (0, 0, 0), (0, 0), []),
  (.bipush 6, (2, 2), (0, 0, 0), (6, 0), []),
  (.invokestatic 114, (4, 3), (128, 3, 0), (0, 0), []),
  (.ifCond .ne 5, (7, 3), (0, 7, 0), (0, 0), []),
  (.iconst (-1), (10, 1), (0, 0, 0), ((-1), 0), []),
  (.ireturn, (11, 1), (0, 0, 0), (0, 0), []),
  (.iload_n 2, (12, 1), (2, 0, 0), (0, 0), []),
  (.iconst 0, (13, 1), (0, 0, 0), (0, 0), []),
  (.bipush 9, (14, 2), (0, 0, 0), (9, 0), []),
  (.invokestatic 114, (16, 3), (128, 3, 0), (0, 0), []),
  (.ifCond .ne 6, (19, 3), (0, 14, 0), (0, 0), []),
  (.bipush (-2), (22, 2), (0, 0, 0), ((-2), 0), []),
  (.ireturn, (24, 1), (0, 0, 0), (0, 0), []),
  (.aload_n 0, (25, 1), (0, 0, 0), (0, 0), []),
  (.getfield 111, (26, 3), (9, 1, 0), (0, 0), []),
  (.bipush 6, (29, 2), (0, 0, 0), (6, 0), []),
  (.if_icmp .ne 6, (31, 3), (0, 20, 0), (0, 0), []),
  (.bipush (-4), (34, 2), (0, 0, 0), ((-4), 0), []),
  (.ireturn, (36, 1), (0, 0, 0), (0, 0), []),
  (.aload_n 0, (37, 1), (0, 0, 0), (0, 0), []),
  (.getfield 15, (38, 3), (9, 2, 2), (0, 0), []),
  (.aload_n 0, (41, 1), (0, 0, 0), (0, 0), []),
  (.getfield 111, (42, 3), (9, 1, 0), (0, 0), []),
  (.iload_n 1, (45, 1), (1, 0, 0), (0, 0), []),
  (.iastore, (46, 1), (0, 0, 0), (0, 0), []),
  (.aload_n 0, (47, 1), (0, 0, 0), (0, 0), []),
  (.getfield 18, (48, 3), (9, 3, 2), (0, 0), []),
  (.aload_n 0, (51, 1), (0, 0, 0), (0, 0), []),
  (.getfield 111, (52, 3), (9, 1, 0), (0, 0), []),
  (.iload_n 2, (55, 1), (2, 0, 0), (0, 0), []),
  (.iastore, (56, 1), (0, 0, 0), (0, 0), [])]
def mm_r127_1 : List mm_R := [
  (.aload_n 0, (57, 1), (0, 0, 0), (0, 0), []),
  (.getfield 21, (58, 3), (9, 4, 2), (0, 0), []),
  (.aload_n 0, (61, 1), (0, 0, 0), (0, 0), []),
  (.getfield 111, (62, 3), (9, 1, 0), (0, 0), []),
  (.bipush (-5), (65, 2), (0, 0, 0), ((-5), 0), []),
  (.iastore, (67, 1), (0, 0, 0), (0, 0), []),
  (.aload_n 0, (68, 1), (0, 0, 0), (0, 0), []),
  (.getfield 24, (69, 3), (9, 5, 2), (0, 0), []),
  (.aload_n 0, (72, 1), (0, 0, 0), (0, 0), []),
  (.getfield 111, (73, 3), (9, 1, 0), (0, 0), []),
  (.iconst 0, (76, 1), (0, 0, 0), (0, 0), []),
  (.iastore, (77, 1), (0, 0, 0), (0, 0), []),
  (.iconst 0, (78, 1), (0, 0, 0), (0, 0), []),
  (.istore_n 3, (79, 1), (3, 0, 0), (0, 0), []),
  (.iload_n 3, (80, 1), (3, 0, 0), (0, 0), []),
  (.iconst 4, (81, 1), (0, 0, 0), (4, 0), []),
  (.if_icmp .ge 23, (82, 3), (0, 61, 0), (0, 0), []),
  (.aload_n 0, (85, 1), (0, 0, 0), (0, 0), []),
  (.getfield 27, (86, 3), (9, 6, 2), (0, 0), []),
  (.iconst 4, (89, 1), (0, 0, 0), (4, 0), []),
  (.aload_n 0, (90, 1), (0, 0, 0), (0, 0), []),
  (.getfield 111, (91, 3), (9, 1, 0), (0, 0), []),
  (.imul, (94, 1), (0, 0, 0), (0, 0), []),
  (.iload_n 3, (95, 1), (3, 0, 0), (0, 0), []),
  (.iadd, (96, 1), (0, 0, 0), (0, 0), []),
  (.iconst 0, (97, 1), (0, 0, 0), (0, 0), []),
  (.iastore, (98, 1), (0, 0, 0), (0, 0), []),
  (.iinc 3 1, (99, 3), (3, 0, 0), (1, 0), []),
  (.goto (-22), (102, 3), (0, 46, 0), (0, 0), []),
  (.aload_n 0, (105, 1), (0, 0, 0), (0, 0), []),
  (.dup, (106, 1), (0, 0, 0), (0, 0), []),
  (.getfield 111, (107, 3), (9, 1, 0), (0, 0), [])]
def mm_r127_2 : List mm_R := [
  (.dup_x1, (110, 1), (0, 0, 0), (0, 0), []),
  (.iconst 1, (111, 1), (0, 0, 0), (1, 0), []),
  (.iadd, (112, 1), (0, 0, 0), (0, 0), []),
  (.putfield 111, (113, 3), (9, 1, 0), (0, 0), []),
  (.ireturn, (116, 1), (0, 0, 0), (0, 0), [])]
def mm_r127 : List (List mm_R) := [mm_r127_0, mm_r127_1, mm_r127_2]
/-- 128: GlobeCornerModel.within(III)Z -/
def mm_r128_0 : List mm_R := [
  (.iload_n 0, (0, 1), (0, 0, 0), (0, 0), []),
  (.iload_n 1, (1, 1), (1, 0, 0), (0, 0), []),
  (.if_icmp .lt 12, (2, 3), (0, 8, 0), (0, 0), []),
  (.iload_n 0, (5, 1), (0, 0, 0), (0, 0), []),
  (.iload_n 2, (6, 1), (2, 0, 0), (0, 0), []),
  (.if_icmp .gt 7, (7, 3), (0, 8, 0), (0, 0), []),
  (.iconst 1, (10, 1), (0, 0, 0), (1, 0), []),
  (.goto 4, (11, 3), (0, 9, 0), (0, 0), []),
  (.iconst 0, (14, 1), (0, 0, 0), (0, 0), []),
  (.ireturn, (15, 1), (1, 0, 0), (0, 0), [])]
def mm_r128 : List (List mm_R) := [mm_r128_0]
/-- 129: GlobeCornerModel.of(II)I -/
def mm_r129_0 : List mm_R := [
  (.aload_n 0, (0, 1), (0, 0, 0), (0, 0), []),
  (.iload_n 1, (1, 1), (1, 0, 0), (0, 0), []),
  (.invokevirtual 118, (2, 3), (130, 2, 1), (0, 0), []),
  (.ifCond .ne 7, (5, 3), (0, 6, 0), (0, 0), []),
  (.sipush (-10001), (8, 3), (0, 0, 0), ((-10001), 0), []),
  (.ireturn, (11, 1), (0, 0, 0), (0, 0), []),
  (.iload_n 2, (12, 1), (2, 0, 0), (0, 0), []),
  (.bipush 10, (13, 2), (0, 0, 0), (10, 0), []),
  (.isub, (15, 1), (0, 0, 0), (0, 0), []),
  (.invokestatic 122, (16, 3), (131, 1, 0), (0, 0), []),
  (.ifCond .eq 22, (19, 3), (0, 24, 0), (0, 0), []),
  (.aload_n 0, (22, 1), (0, 0, 0), (0, 0), []),
  (.iload_n 1, (23, 1), (1, 0, 0), (0, 0), []),
  (.iload_n 2, (24, 1), (2, 0, 0), (0, 0), []),
  (.bipush 10, (25, 2), (0, 0, 0), (10, 0), []),
  (.isub, (27, 1), (0, 0, 0), (0, 0), []),
  (.aload_n 0, (28, 1), (0, 0, 0), (0, 0), []),
  (.iload_n 1, (29, 1), (1, 0, 0), (0, 0), []),
  (.iload_n 2, (30, 1), (2, 0, 0), (0, 0), []),
  (.bipush 10, (31, 2), (0, 0, 0), (10, 0), []),
  (.isub, (33, 1), (0, 0, 0), (0, 0), []),
  (.invokevirtual 125, (34, 3), (132, 3, 1), (0, 0), []),
  (.invokevirtual 129, (37, 3), (133, 4, 1), (0, 0), []),
  (.ireturn, (40, 1), (0, 0, 0), (0, 0), []),
  (.iload_n 2, (41, 1), (2, 0, 0), (0, 0), []),
  (.tableswitch 58 0 3 #[30, 37, 44, 51], (42, 30), (0, 46, 0), (0, 0), [(0, 26), (1, 31), (2, 36), (3, 41)]),
  (.aload_n 0, (72, 1), (0, 0, 0), (0, 0), []),
  (.getfield 15, (73, 3), (9, 2, 2), (0, 0), []),
  (.iload_n 1, (76, 1), (1, 0, 0), (0, 0), []),
  (.iaload, (77, 1), (0, 0, 0), (0, 0), []),
  (.ireturn, (78, 1), (0, 0, 0), (0, 0), []),
  (.aload_n 0, (79, 1), (0, 0, 0), (0, 0), [])]
def mm_r129_1 : List mm_R := [
  (.getfield 18, (80, 3), (9, 3, 2), (0, 0), []),
  (.iload_n 1, (83, 1), (1, 0, 0), (0, 0), []),
  (.iaload, (84, 1), (0, 0, 0), (0, 0), []),
  (.ireturn, (85, 1), (0, 0, 0), (0, 0), []),
  (.aload_n 0, (86, 1), (0, 0, 0), (0, 0), []),
  (.getfield 21, (87, 3), (9, 4, 2), (0, 0), []),
  (.iload_n 1, (90, 1), (1, 0, 0), (0, 0), []),
  (.iaload, (91, 1), (0, 0, 0), (0, 0), []),
  (.ireturn, (92, 1), (0, 0, 0), (0, 0), []),
  (.aload_n 0, (93, 1), (0, 0, 0), (0, 0), []),
  (.getfield 24, (94, 3), (9, 5, 2), (0, 0), []),
  (.iload_n 1, (97, 1), (1, 0, 0), (0, 0), []),
  (.iaload, (98, 1), (0, 0, 0), (0, 0), []),
  (.ireturn, (99, 1), (0, 0, 0), (0, 0), []),
  (.sipush (-10001), (100, 3), (0, 0, 0), ((-10001), 0), []),
  (.ireturn, (103, 1), (0, 0, 0), (0, 0), [])]
def mm_r129 : List (List mm_R) := [mm_r129_0, mm_r129_1]
/-- 130: GlobeCornerModel.isOne(I)Z -/
def mm_r130_0 : List mm_R := [
  (.iload_n 1, (0, 1), (1, 0, 0), (0, 0), []),
  (.iconst 0, (1, 1), (0, 0, 0), (0, 0), []),
  (.aload_n 0, (2, 1), (0, 0, 0), (0, 0), []),
  (.getfield 111, (3, 3), (9, 1, 0), (0, 0), []),
  (.iconst 1, (6, 1), (0, 0, 0), (1, 0), []),
  (.isub, (7, 1), (0, 0, 0), (0, 0), []),
  (.invokestatic 114, (8, 3), (128, 3, 0), (0, 0), []),
  (.ireturn, (11, 1), (1, 0, 0), (0, 0), [])]
def mm_r130 : List (List mm_R) := [mm_r130_0]
/-- 131: GlobeCornerModel.isSpot(I)Z -/
def mm_r131_0 : List mm_R := [
  (.iload_n 0, (0, 1), (0, 0, 0), (0, 0), []),
  (.iconst 0, (1, 1), (0, 0, 0), (0, 0), []),
  (.bipush 11, (2, 2), (0, 0, 0), (11, 0), []),
  (.invokestatic 114, (4, 3), (128, 3, 0), (0, 0), []),
  (.ireturn, (7, 1), (1, 0, 0), (0, 0), [])]
def mm_r131 : List (List mm_R) := [mm_r131_0]
/-- 132: GlobeCornerModel.isMet(II)Z -/
def mm_r132_0 : List mm_R := [
  (.iconst 0, (0, 1), (0, 0, 0), (0, 0), []),
  (.istore_n 3, (1, 1), (3, 0, 0), (0, 0), []),
  (.iload_n 3, (2, 1), (3, 0, 0), (0, 0), []),
  (.aload_n 0, (3, 1), (0, 0, 0), (0, 0), []),
  (.getfield 111, (4, 3), (9, 1, 0), (0, 0), []),
  (.if_icmp .ge 26, (7, 3), (0, 19, 0), (0, 0), []),
  (.iload_n 3, (10, 1), (3, 0, 0), (0, 0), []),
  (.iload_n 1, (11, 1), (1, 0, 0), (0, 0), []),
  (.if_icmp .eq 15, (12, 3), (0, 17, 0), (0, 0), []),
  (.aload_n 0, (15, 1), (0, 0, 0), (0, 0), []),
  (.getfield 21, (16, 3), (9, 4, 2), (0, 0), []),
  (.iload_n 3, (19, 1), (3, 0, 0), (0, 0), []),
  (.iaload, (20, 1), (0, 0, 0), (0, 0), []),
  (.iload_n 2, (21, 1), (2, 0, 0), (0, 0), []),
  (.if_icmp .ne 5, (22, 3), (0, 17, 0), (0, 0), []),
  (.iconst 1, (25, 1), (0, 0, 0), (1, 0), []),
  (.ireturn, (26, 1), (1, 0, 0), (0, 0), []),
  (.iinc 3 1, (27, 3), (3, 0, 0), (1, 0), []),
  (.goto (-28), (30, 3), (0, 2, 0), (0, 0), []),
  (.iconst 0, (33, 1), (0, 0, 0), (0, 0), []),
  (.ireturn, (34, 1), (1, 0, 0), (0, 0), [])]
def mm_r132 : List (List mm_R) := [mm_r132_0]
/-- 133: GlobeCornerModel.careOf(IIZ)I -/
def mm_r133_0 : List mm_R := [
  (.aload_n 0, (0, 1), (0, 0, 0), (0, 0), []),
  (.iload_n 1, (1, 1), (1, 0, 0), (0, 0), []),
  (.iload_n 2, (2, 1), (2, 0, 0), (0, 0), []),
  (.invokevirtual 239, (3, 3), (134, 3, 1), (0, 0), []),
  (.istore 4, (6, 2), (4, 0, 0), (0, 0), []),
  (.aload_n 0, (8, 1), (0, 0, 0), (0, 0), []),
  (.getfield 229, (9, 3), (9, 7, 0), (0, 0), []),
  (.iconst 4, (12, 1), (0, 0, 0), (4, 0), []),
  (.irem, (13, 1), (0, 0, 0), (0, 0), []),
  (.iconst 3, (14, 1), (0, 0, 0), (3, 0), []),
  (.if_icmp .ne 7, (15, 3), (0, 13, 0), (0, 0), []),
  (.iconst 0, (18, 1), (0, 0, 0), (0, 0), []),
  (.goto 5, (19, 3), (0, 14, 0), (0, 0), []),
  (.iload 4, (22, 2), (4, 0, 0), (0, 0), []),
  (.istore 5, (24, 2), (5, 0, 0), (0, 0), []),
  (.aload_n 0, (26, 1), (0, 0, 0), (0, 0), []),
  (.getfield 15, (27, 3), (9, 2, 2), (0, 0), []),
  (.iload_n 1, (30, 1), (1, 0, 0), (0, 0), []),
  (.iaload, (31, 1), (0, 0, 0), (0, 0), []),
  (.tableswitch 121 1 6 #[40, 50, 55, 58, 86, 105], (32, 40), (0, 77, 0), (0, 0), [(1, 20), (2, 27), (3, 31), (4, 33), (5, 51), (6, 64)]),
  (.iload 4, (72, 2), (4, 0, 0), (0, 0), []),
  (.aload_n 0, (74, 1), (0, 0, 0), (0, 0), []),
  (.getfield 18, (75, 3), (9, 3, 2), (0, 0), []),
  (.iload_n 1, (78, 1), (1, 0, 0), (0, 0), []),
  (.iaload, (79, 1), (0, 0, 0), (0, 0), []),
  (.iadd, (80, 1), (0, 0, 0), (0, 0), []),
  (.ireturn, (81, 1), (0, 0, 0), (0, 0), []),
  (.iload 4, (82, 2), (4, 0, 0), (0, 0), []),
  (.iconst 2, (84, 1), (0, 0, 0), (2, 0), []),
  (.idiv, (85, 1), (0, 0, 0), (0, 0), []),
  (.ireturn, (86, 1), (0, 0, 0), (0, 0), []),
  (.iload 5, (87, 2), (5, 0, 0), (0, 0), [])]
def mm_r133_1 : List mm_R := [
  (.ireturn, (89, 1), (0, 0, 0), (0, 0), []),
  (.iload_n 3, (90, 1), (3, 0, 0), (0, 0), []),
  (.ifCond .eq 17, (91, 3), (0, 44, 0), (0, 0), []),
  (.iconst 2, (94, 1), (0, 0, 0), (2, 0), []),
  (.iload 4, (95, 2), (4, 0, 0), (0, 0), []),
  (.aload_n 0, (97, 1), (0, 0, 0), (0, 0), []),
  (.getfield 18, (98, 3), (9, 3, 2), (0, 0), []),
  (.iload_n 1, (101, 1), (1, 0, 0), (0, 0), []),
  (.iaload, (102, 1), (0, 0, 0), (0, 0), []),
  (.iadd, (103, 1), (0, 0, 0), (0, 0), []),
  (.imul, (104, 1), (0, 0, 0), (0, 0), []),
  (.goto 12, (105, 3), (0, 50, 0), (0, 0), []),
  (.iload 4, (108, 2), (4, 0, 0), (0, 0), []),
  (.aload_n 0, (110, 1), (0, 0, 0), (0, 0), []),
  (.getfield 18, (111, 3), (9, 3, 2), (0, 0), []),
  (.iload_n 1, (114, 1), (1, 0, 0), (0, 0), []),
  (.iaload, (115, 1), (0, 0, 0), (0, 0), []),
  (.iadd, (116, 1), (0, 0, 0), (0, 0), []),
  (.ireturn, (117, 1), (0, 0, 0), (0, 0), []),
  (.iload 4, (118, 2), (4, 0, 0), (0, 0), []),
  (.iconst 2, (120, 1), (0, 0, 0), (2, 0), []),
  (.idiv, (121, 1), (0, 0, 0), (0, 0), []),
  (.bipush 9, (122, 2), (0, 0, 0), (9, 0), []),
  (.aload_n 0, (124, 1), (0, 0, 0), (0, 0), []),
  (.getfield 24, (125, 3), (9, 5, 2), (0, 0), []),
  (.iload_n 1, (128, 1), (1, 0, 0), (0, 0), []),
  (.iaload, (129, 1), (0, 0, 0), (0, 0), []),
  (.iconst 5, (130, 1), (0, 0, 0), (5, 0), []),
  (.idiv, (131, 1), (0, 0, 0), (0, 0), []),
  (.invokestatic 242, (132, 3), (0, 0, 7), (0, 0), []),
  (.isub, (135, 1), (0, 0, 0), (0, 0), []),
  (.ireturn, (136, 1), (0, 0, 0), (0, 0), [])]
def mm_r133_2 : List mm_R := [
  (.iload 5, (137, 2), (5, 0, 0), (0, 0), []),
  (.aload_n 0, (139, 1), (0, 0, 0), (0, 0), []),
  (.getfield 27, (140, 3), (9, 6, 2), (0, 0), []),
  (.iconst 4, (143, 1), (0, 0, 0), (4, 0), []),
  (.iload_n 1, (144, 1), (1, 0, 0), (0, 0), []),
  (.imul, (145, 1), (0, 0, 0), (0, 0), []),
  (.iload_n 2, (146, 1), (2, 0, 0), (0, 0), []),
  (.iconst 4, (147, 1), (0, 0, 0), (4, 0), []),
  (.irem, (148, 1), (0, 0, 0), (0, 0), []),
  (.iadd, (149, 1), (0, 0, 0), (0, 0), []),
  (.iaload, (150, 1), (0, 0, 0), (0, 0), []),
  (.iadd, (151, 1), (0, 0, 0), (0, 0), []),
  (.ireturn, (152, 1), (0, 0, 0), (0, 0), []),
  (.iload 4, (153, 2), (4, 0, 0), (0, 0), []),
  (.ireturn, (155, 1), (0, 0, 0), (0, 0), [])]
def mm_r133 : List (List mm_R) := [mm_r133_0, mm_r133_1, mm_r133_2]
/-- 134: GlobeCornerModel.sum(II)I -/
def mm_r134_0 : List mm_R := [
  (.iconst 4, (0, 1), (0, 0, 0), (4, 0), []),
  (.istore_n 3, (1, 1), (3, 0, 0), (0, 0), []),
  (.iconst 0, (2, 1), (0, 0, 0), (0, 0), []),
  (.istore 4, (3, 2), (4, 0, 0), (0, 0), []),
  (.aload_n 0, (5, 1), (0, 0, 0), (0, 0), []),
  (.getfield 107, (6, 3), (9, 15, 0), (0, 0), []),
  (.iconst (-1), (9, 1), (0, 0, 0), ((-1), 0), []),
  (.if_icmp .eq 88, (10, 3), (0, 54, 0), (0, 0), []),
  (.iload 4, (13, 2), (4, 0, 0), (0, 0), []),
  (.aload_n 0, (15, 1), (0, 0, 0), (0, 0), []),
  (.getfield 33, (16, 3), (9, 16, 2), (0, 0), []),
  (.aload_n 0, (19, 1), (0, 0, 0), (0, 0), []),
  (.getfield 107, (20, 3), (9, 15, 0), (0, 0), []),
  (.iaload, (23, 1), (0, 0, 0), (0, 0), []),
  (.if_icmp .ge 74, (24, 3), (0, 54, 0), (0, 0), []),
  (.bipush 10, (27, 2), (0, 0, 0), (10, 0), []),
  (.aload_n 0, (29, 1), (0, 0, 0), (0, 0), []),
  (.getfield 107, (30, 3), (9, 15, 0), (0, 0), []),
  (.imul, (33, 1), (0, 0, 0), (0, 0), []),
  (.iload 4, (34, 2), (4, 0, 0), (0, 0), []),
  (.iadd, (36, 1), (0, 0, 0), (0, 0), []),
  (.istore 5, (37, 2), (5, 0, 0), (0, 0), []),
  (.aload_n 0, (39, 1), (0, 0, 0), (0, 0), []),
  (.getfield 36, (40, 3), (9, 17, 2), (0, 0), []),
  (.iload 5, (43, 2), (5, 0, 0), (0, 0), []),
  (.iaload, (45, 1), (0, 0, 0), (0, 0), []),
  (.iconst 2, (46, 1), (0, 0, 0), (2, 0), []),
  (.if_icmp .ge 45, (47, 3), (0, 52, 0), (0, 0), []),
  (.aload_n 0, (50, 1), (0, 0, 0), (0, 0), []),
  (.iload_n 1, (51, 1), (1, 0, 0), (0, 0), []),
  (.iload_n 2, (52, 1), (2, 0, 0), (0, 0), []),
  (.iload 5, (53, 2), (5, 0, 0), (0, 0), [])]
def mm_r134_1 : List mm_R := [
  (.invokevirtual 236, (55, 3), (135, 4, 1), (0, 0), []),
  (.ifCond .eq 34, (58, 3), (0, 52, 0), (0, 0), []),
  (.iload_n 3, (61, 1), (3, 0, 0), (0, 0), []),
  (.aload_n 0, (62, 1), (0, 0, 0), (0, 0), []),
  (.getfield 36, (63, 3), (9, 17, 2), (0, 0), []),
  (.iload 5, (66, 2), (5, 0, 0), (0, 0), []),
  (.iaload, (68, 1), (0, 0, 0), (0, 0), []),
  (.ifCond .ne 13, (69, 3), (0, 45, 0), (0, 0), []),
  (.aload_n 0, (72, 1), (0, 0, 0), (0, 0), []),
  (.getfield 39, (73, 3), (9, 18, 2), (0, 0), []),
  (.iload 5, (76, 2), (5, 0, 0), (0, 0), []),
  (.iaload, (78, 1), (0, 0, 0), (0, 0), []),
  (.goto 11, (79, 3), (0, 50, 0), (0, 0), []),
  (.aload_n 0, (82, 1), (0, 0, 0), (0, 0), []),
  (.getfield 39, (83, 3), (9, 18, 2), (0, 0), []),
  (.iload 5, (86, 2), (5, 0, 0), (0, 0), []),
  (.iaload, (88, 1), (0, 0, 0), (0, 0), []),
  (.ineg, (89, 1), (0, 0, 0), (0, 0), []),
  (.iadd, (90, 1), (0, 0, 0), (0, 0), []),
  (.istore_n 3, (91, 1), (3, 0, 0), (0, 0), []),
  (.iinc 4 1, (92, 3), (4, 0, 0), (1, 0), []),
  (.goto (-90), (95, 3), (0, 4, 0), (0, 0), []),
  (.iload_n 3, (98, 1), (3, 0, 0), (0, 0), []),
  (.ireturn, (99, 1), (0, 0, 0), (0, 0), [])]
def mm_r134 : List (List mm_R) := [mm_r134_0, mm_r134_1]
/-- 135: GlobeCornerModel.isTrue(III)Z -/
def mm_r135_0 : List mm_R := [
  (.iconst 0, (0, 1), (0, 0, 0), (0, 0), []),
  (.istore 4, (1, 2), (4, 0, 0), (0, 0), []),
  (.aload_n 0, (3, 1), (0, 0, 0), (0, 0), []),
  (.getfield 42, (4, 3), (9, 19, 2), (0, 0), []),
  (.iload_n 3, (7, 1), (3, 0, 0), (0, 0), []),
  (.iaload, (8, 1), (0, 0, 0), (0, 0), []),
  (.istore 5, (9, 2), (5, 0, 0), (0, 0), []),
  (.iload 5, (11, 2), (5, 0, 0), (0, 0), []),
  (.aload_n 0, (13, 1), (0, 0, 0), (0, 0), []),
  (.getfield 42, (14, 3), (9, 19, 2), (0, 0), []),
  (.iload_n 3, (17, 1), (3, 0, 0), (0, 0), []),
  (.iaload, (18, 1), (0, 0, 0), (0, 0), []),
  (.aload_n 0, (19, 1), (0, 0, 0), (0, 0), []),
  (.getfield 45, (20, 3), (9, 20, 2), (0, 0), []),
  (.iload_n 3, (23, 1), (3, 0, 0), (0, 0), []),
  (.iaload, (24, 1), (0, 0, 0), (0, 0), []),
  (.iadd, (25, 1), (0, 0, 0), (0, 0), []),
  (.if_icmp .ge 235, (26, 3), (0, 143, 0), (0, 0), []),
  (.aload_n 0, (29, 1), (0, 0, 0), (0, 0), []),
  (.getfield 48, (30, 3), (9, 21, 2), (0, 0), []),
  (.iload 5, (33, 2), (5, 0, 0), (0, 0), []),
  (.iaload, (35, 1), (0, 0, 0), (0, 0), []),
  (.istore 6, (36, 2), (6, 0, 0), (0, 0), []),
  (.iload 6, (38, 2), (6, 0, 0), (0, 0), []),
  (.iconst 3, (40, 1), (0, 0, 0), (3, 0), []),
  (.if_icmp .lt 105, (41, 3), (0, 81, 0), (0, 0), []),
  (.aload_n 0, (44, 1), (0, 0, 0), (0, 0), []),
  (.iload_n 1, (45, 1), (1, 0, 0), (0, 0), []),
  (.iload_n 2, (46, 1), (2, 0, 0), (0, 0), []),
  (.iload 6, (47, 2), (6, 0, 0), (0, 0), []),
  (.iconst 3, (49, 1), (0, 0, 0), (3, 0), []),
  (.isub, (50, 1), (0, 0, 0), (0, 0), [])]
def mm_r135_1 : List mm_R := [
  (.sipush 300, (51, 3), (0, 0, 0), (300, 0), []),
  (.idiv, (54, 1), (0, 0, 0), (0, 0), []),
  (.invokevirtual 232, (55, 3), (136, 4, 1), (0, 0), []),
  (.istore 7, (58, 2), (7, 0, 0), (0, 0), []),
  (.iload 6, (60, 2), (6, 0, 0), (0, 0), []),
  (.iconst 3, (62, 1), (0, 0, 0), (3, 0), []),
  (.isub, (63, 1), (0, 0, 0), (0, 0), []),
  (.bipush 100, (64, 2), (0, 0, 0), (100, 0), []),
  (.irem, (66, 1), (0, 0, 0), (0, 0), []),
  (.istore 8, (67, 2), (8, 0, 0), (0, 0), []),
  (.iload 6, (69, 2), (6, 0, 0), (0, 0), []),
  (.iconst 3, (71, 1), (0, 0, 0), (3, 0), []),
  (.isub, (72, 1), (0, 0, 0), (0, 0), []),
  (.bipush 100, (73, 2), (0, 0, 0), (100, 0), []),
  (.idiv, (75, 1), (0, 0, 0), (0, 0), []),
  (.iconst 3, (76, 1), (0, 0, 0), (3, 0), []),
  (.irem, (77, 1), (0, 0, 0), (0, 0), []),
  (.istore 9, (78, 2), (9, 0, 0), (0, 0), []),
  (.aload_n 0, (80, 1), (0, 0, 0), (0, 0), []),
  (.getfield 51, (81, 3), (9, 23, 2), (0, 0), []),
  (.iload 4, (84, 2), (4, 0, 0), (0, 0), []),
  (.iinc 4 1, (86, 3), (4, 0, 0), (1, 0), []),
  (.iload 9, (89, 2), (9, 0, 0), (0, 0), []),
  (.ifCond .ne 18, (91, 3), (0, 63, 0), (0, 0), []),
  (.iload 7, (94, 2), (7, 0, 0), (0, 0), []),
  (.iload 8, (96, 2), (8, 0, 0), (0, 0), []),
  (.if_icmp .ge 7, (98, 3), (0, 61, 0), (0, 0), []),
  (.iconst 1, (101, 1), (0, 0, 0), (1, 0), []),
  (.goto 40, (102, 3), (0, 79, 0), (0, 0), []),
  (.iconst 0, (105, 1), (0, 0, 0), (0, 0), []),
  (.goto 36, (106, 3), (0, 79, 0), (0, 0), []),
  (.iload 9, (109, 2), (9, 0, 0), (0, 0), [])]
def mm_r135_2 : List mm_R := [
  (.iconst 1, (111, 1), (0, 0, 0), (1, 0), []),
  (.if_icmp .ne 18, (112, 3), (0, 73, 0), (0, 0), []),
  (.iload 7, (115, 2), (7, 0, 0), (0, 0), []),
  (.iload 8, (117, 2), (8, 0, 0), (0, 0), []),
  (.if_icmp .ne 7, (119, 3), (0, 71, 0), (0, 0), []),
  (.iconst 1, (122, 1), (0, 0, 0), (1, 0), []),
  (.goto 19, (123, 3), (0, 79, 0), (0, 0), []),
  (.iconst 0, (126, 1), (0, 0, 0), (0, 0), []),
  (.goto 15, (127, 3), (0, 79, 0), (0, 0), []),
  (.iload 7, (130, 2), (7, 0, 0), (0, 0), []),
  (.iload 8, (132, 2), (8, 0, 0), (0, 0), []),
  (.if_icmp .le 7, (134, 3), (0, 78, 0), (0, 0), []),
  (.iconst 1, (137, 1), (0, 0, 0), (1, 0), []),
  (.goto 4, (138, 3), (0, 79, 0), (0, 0), []),
  (.iconst 0, (141, 1), (0, 0, 0), (0, 0), []),
  (.bastore, (142, 1), (0, 0, 0), (0, 0), []),
  (.goto 112, (143, 3), (0, 141, 0), (0, 0), []),
  (.iload 6, (146, 2), (6, 0, 0), (0, 0), []),
  (.ifCond .ne 32, (148, 3), (0, 100, 0), (0, 0), []),
  (.aload_n 0, (151, 1), (0, 0, 0), (0, 0), []),
  (.getfield 51, (152, 3), (9, 23, 2), (0, 0), []),
  (.iload 4, (155, 2), (4, 0, 0), (0, 0), []),
  (.iconst 1, (157, 1), (0, 0, 0), (1, 0), []),
  (.isub, (158, 1), (0, 0, 0), (0, 0), []),
  (.aload_n 0, (159, 1), (0, 0, 0), (0, 0), []),
  (.getfield 51, (160, 3), (9, 23, 2), (0, 0), []),
  (.iload 4, (163, 2), (4, 0, 0), (0, 0), []),
  (.iconst 1, (165, 1), (0, 0, 0), (1, 0), []),
  (.isub, (166, 1), (0, 0, 0), (0, 0), []),
  (.baload, (167, 1), (0, 0, 0), (0, 0), []),
  (.ifCond .ne 7, (168, 3), (0, 97, 0), (0, 0), []),
  (.iconst 1, (171, 1), (0, 0, 0), (1, 0), [])]
def mm_r135_3 : List mm_R := [
  (.goto 4, (172, 3), (0, 98, 0), (0, 0), []),
  (.iconst 0, (175, 1), (0, 0, 0), (0, 0), []),
  (.bastore, (176, 1), (0, 0, 0), (0, 0), []),
  (.goto 78, (177, 3), (0, 141, 0), (0, 0), []),
  (.iinc 4 (-1), (180, 3), (4, 0, 0), ((-1), 0), []),
  (.aload_n 0, (183, 1), (0, 0, 0), (0, 0), []),
  (.getfield 51, (184, 3), (9, 23, 2), (0, 0), []),
  (.iload 4, (187, 2), (4, 0, 0), (0, 0), []),
  (.iconst 1, (189, 1), (0, 0, 0), (1, 0), []),
  (.isub, (190, 1), (0, 0, 0), (0, 0), []),
  (.iload 6, (191, 2), (6, 0, 0), (0, 0), []),
  (.iconst 1, (193, 1), (0, 0, 0), (1, 0), []),
  (.if_icmp .ne 33, (194, 3), (0, 125, 0), (0, 0), []),
  (.aload_n 0, (197, 1), (0, 0, 0), (0, 0), []),
  (.getfield 51, (198, 3), (9, 23, 2), (0, 0), []),
  (.iload 4, (201, 2), (4, 0, 0), (0, 0), []),
  (.iconst 1, (203, 1), (0, 0, 0), (1, 0), []),
  (.isub, (204, 1), (0, 0, 0), (0, 0), []),
  (.baload, (205, 1), (0, 0, 0), (0, 0), []),
  (.ifCond .eq 17, (206, 3), (0, 123, 0), (0, 0), []),
  (.aload_n 0, (209, 1), (0, 0, 0), (0, 0), []),
  (.getfield 51, (210, 3), (9, 23, 2), (0, 0), []),
  (.iload 4, (213, 2), (4, 0, 0), (0, 0), []),
  (.baload, (215, 1), (0, 0, 0), (0, 0), []),
  (.ifCond .eq 7, (216, 3), (0, 123, 0), (0, 0), []),
  (.iconst 1, (219, 1), (0, 0, 0), (1, 0), []),
  (.goto 34, (220, 3), (0, 140, 0), (0, 0), []),
  (.iconst 0, (223, 1), (0, 0, 0), (0, 0), []),
  (.goto 30, (224, 3), (0, 140, 0), (0, 0), []),
  (.aload_n 0, (227, 1), (0, 0, 0), (0, 0), []),
  (.getfield 51, (228, 3), (9, 23, 2), (0, 0), []),
  (.iload 4, (231, 2), (4, 0, 0), (0, 0), [])]
def mm_r135_4 : List mm_R := [
  (.iconst 1, (233, 1), (0, 0, 0), (1, 0), []),
  (.isub, (234, 1), (0, 0, 0), (0, 0), []),
  (.baload, (235, 1), (0, 0, 0), (0, 0), []),
  (.ifCond .ne 13, (236, 3), (0, 137, 0), (0, 0), []),
  (.aload_n 0, (239, 1), (0, 0, 0), (0, 0), []),
  (.getfield 51, (240, 3), (9, 23, 2), (0, 0), []),
  (.iload 4, (243, 2), (4, 0, 0), (0, 0), []),
  (.baload, (245, 1), (0, 0, 0), (0, 0), []),
  (.ifCond .eq 7, (246, 3), (0, 139, 0), (0, 0), []),
  (.iconst 1, (249, 1), (0, 0, 0), (1, 0), []),
  (.goto 4, (250, 3), (0, 140, 0), (0, 0), []),
  (.iconst 0, (253, 1), (0, 0, 0), (0, 0), []),
  (.bastore, (254, 1), (0, 0, 0), (0, 0), []),
  (.iinc 5 1, (255, 3), (5, 0, 0), (1, 0), []),
  (.goto (-247), (258, 3), (0, 7, 0), (0, 0), []),
  (.aload_n 0, (261, 1), (0, 0, 0), (0, 0), []),
  (.getfield 51, (262, 3), (9, 23, 2), (0, 0), []),
  (.iconst 0, (265, 1), (0, 0, 0), (0, 0), []),
  (.baload, (266, 1), (0, 0, 0), (0, 0), []),
  (.ireturn, (267, 1), (1, 0, 0), (0, 0), [])]
def mm_r135 : List (List mm_R) := [mm_r135_0, mm_r135_1, mm_r135_2, mm_r135_3, mm_r135_4]
/-- 136: GlobeCornerModel.letterOf(III)I -/
def mm_r136_0 : List mm_R := [
  (.iload_n 3, (0, 1), (3, 0, 0), (0, 0), []),
  (.tableswitch 63 0 4 #[35, 37, 44, 51, 53], (1, 35), (0, 23, 0), (0, 0), [(0, 2), (1, 4), (2, 9), (3, 14), (4, 16)]),
  (.iload_n 1, (36, 1), (1, 0, 0), (0, 0), []),
  (.ireturn, (37, 1), (0, 0, 0), (0, 0), []),
  (.aload_n 0, (38, 1), (0, 0, 0), (0, 0), []),
  (.getfield 15, (39, 3), (9, 2, 2), (0, 0), []),
  (.iload_n 1, (42, 1), (1, 0, 0), (0, 0), []),
  (.iaload, (43, 1), (0, 0, 0), (0, 0), []),
  (.ireturn, (44, 1), (0, 0, 0), (0, 0), []),
  (.aload_n 0, (45, 1), (0, 0, 0), (0, 0), []),
  (.getfield 18, (46, 3), (9, 3, 2), (0, 0), []),
  (.iload_n 1, (49, 1), (1, 0, 0), (0, 0), []),
  (.iaload, (50, 1), (0, 0, 0), (0, 0), []),
  (.ireturn, (51, 1), (0, 0, 0), (0, 0), []),
  (.iload_n 2, (52, 1), (2, 0, 0), (0, 0), []),
  (.ireturn, (53, 1), (0, 0, 0), (0, 0), []),
  (.aload_n 0, (54, 1), (0, 0, 0), (0, 0), []),
  (.getfield 9, (55, 3), (9, 0, 2), (0, 0), []),
  (.iload_n 2, (58, 1), (2, 0, 0), (0, 0), []),
  (.iaload, (59, 1), (0, 0, 0), (0, 0), []),
  (.bipush 10, (60, 2), (0, 0, 0), (10, 0), []),
  (.idiv, (62, 1), (0, 0, 0), (0, 0), []),
  (.ireturn, (63, 1), (0, 0, 0), (0, 0), []),
  (.aload_n 0, (64, 1), (0, 0, 0), (0, 0), []),
  (.getfield 229, (65, 3), (9, 7, 0), (0, 0), []),
  (.bipush 10, (68, 2), (0, 0, 0), (10, 0), []),
  (.irem, (70, 1), (0, 0, 0), (0, 0), []),
  (.ireturn, (71, 1), (0, 0, 0), (0, 0), [])]
def mm_r136 : List (List mm_R) := [mm_r136_0]
/-- 137: GlobeCornerModel.spot(II)I -/
def mm_r137_0 : List mm_R := [
  (.iload_n 1, (0, 1), (1, 0, 0), (0, 0), []),
  (.invokestatic 122, (1, 3), (131, 1, 0), (0, 0), []),
  (.ifCond .ne 5, (4, 3), (0, 5, 0), (0, 0), []),
  (.iconst (-1), (7, 1), (0, 0, 0), ((-1), 0), []),
  (.ireturn, (8, 1), (0, 0, 0), (0, 0), []),
  (.iload_n 2, (9, 1), (2, 0, 0), (0, 0), []),
  (.tableswitch 57 0 3 #[30, 37, 43, 50], (10, 30), (0, 26, 0), (0, 0), [(0, 7), (1, 12), (2, 16), (3, 21)]),
  (.aload_n 0, (40, 1), (0, 0, 0), (0, 0), []),
  (.getfield 9, (41, 3), (9, 0, 2), (0, 0), []),
  (.iload_n 1, (44, 1), (1, 0, 0), (0, 0), []),
  (.iaload, (45, 1), (0, 0, 0), (0, 0), []),
  (.ireturn, (46, 1), (0, 0, 0), (0, 0), []),
  (.aload_n 0, (47, 1), (0, 0, 0), (0, 0), []),
  (.iload_n 1, (48, 1), (1, 0, 0), (0, 0), []),
  (.invokevirtual 133, (49, 3), (138, 2, 1), (0, 0), []),
  (.ireturn, (52, 1), (0, 0, 0), (0, 0), []),
  (.aload_n 0, (53, 1), (0, 0, 0), (0, 0), []),
  (.iload_n 1, (54, 1), (1, 0, 0), (0, 0), []),
  (.iconst 0, (55, 1), (0, 0, 0), (0, 0), []),
  (.invokevirtual 137, (56, 3), (143, 3, 1), (0, 0), []),
  (.ireturn, (59, 1), (0, 0, 0), (0, 0), []),
  (.aload_n 0, (60, 1), (0, 0, 0), (0, 0), []),
  (.iload_n 1, (61, 1), (1, 0, 0), (0, 0), []),
  (.iconst 1, (62, 1), (0, 0, 0), (1, 0), []),
  (.invokevirtual 137, (63, 3), (143, 3, 1), (0, 0), []),
  (.ireturn, (66, 1), (0, 0, 0), (0, 0), []),
  (.iconst (-1), (67, 1), (0, 0, 0), ((-1), 0), []),
  (.ireturn, (68, 1), (0, 0, 0), (0, 0), [])]
def mm_r137 : List (List mm_R) := [mm_r137_0]
/-- 138: GlobeCornerModel.well(I)I -/
def mm_r138_0 : List mm_R := [
  (.aload_n 0, (0, 1), (0, 0, 0), (0, 0), []),
  (.aload_n 0, (1, 1), (0, 0, 0), (0, 0), []),
  (.getfield 82, (2, 3), (9, 38, 2), (0, 0), []),
  (.invokevirtual 268, (5, 3), (139, 2, 1), (0, 0), []),
  (.bipush (-5), (8, 2), (0, 0, 0), ((-5), 0), []),
  (.istore_n 2, (10, 1), (2, 0, 0), (0, 0), []),
  (.iconst 0, (11, 1), (0, 0, 0), (0, 0), []),
  (.istore_n 3, (12, 1), (3, 0, 0), (0, 0), []),
  (.iload_n 3, (13, 1), (3, 0, 0), (0, 0), []),
  (.bipush 61, (14, 2), (0, 0, 0), (61, 0), []),
  (.if_icmp .ge 34, (16, 3), (0, 27, 0), (0, 0), []),
  (.iload_n 2, (19, 1), (2, 0, 0), (0, 0), []),
  (.bipush (-5), (20, 2), (0, 0, 0), ((-5), 0), []),
  (.if_icmp .ne 28, (22, 3), (0, 27, 0), (0, 0), []),
  (.iload_n 3, (25, 1), (3, 0, 0), (0, 0), []),
  (.ifCond .le 7, (26, 3), (0, 18, 0), (0, 0), []),
  (.aload_n 0, (29, 1), (0, 0, 0), (0, 0), []),
  (.invokevirtual 265, (30, 3), (140, 1, 1), (0, 0), []),
  (.aload_n 0, (33, 1), (0, 0, 0), (0, 0), []),
  (.getfield 9, (34, 3), (9, 0, 2), (0, 0), []),
  (.iload_n 1, (37, 1), (1, 0, 0), (0, 0), []),
  (.iaload, (38, 1), (0, 0, 0), (0, 0), []),
  (.ifCond .ne 5, (39, 3), (0, 25, 0), (0, 0), []),
  (.iload_n 3, (42, 1), (3, 0, 0), (0, 0), []),
  (.istore_n 2, (43, 1), (2, 0, 0), (0, 0), []),
  (.iinc 3 1, (44, 3), (3, 0, 0), (1, 0), []),
  (.goto (-34), (47, 3), (0, 8, 0), (0, 0), []),
  (.aload_n 0, (50, 1), (0, 0, 0), (0, 0), []),
  (.aload_n 0, (51, 1), (0, 0, 0), (0, 0), []),
  (.getfield 82, (52, 3), (9, 38, 2), (0, 0), []),
  (.invokevirtual 272, (55, 3), (142, 2, 1), (0, 0), []),
  (.iload_n 2, (58, 1), (2, 0, 0), (0, 0), [])]
def mm_r138_1 : List mm_R := [
  (.ireturn, (59, 1), (0, 0, 0), (0, 0), [])]
def mm_r138 : List (List mm_R) := [mm_r138_0, mm_r138_1]
/-- 139: GlobeCornerModel.keep([I)V -/
def mm_r139_0 : List mm_R := [
  (.iconst 0, (0, 1), (0, 0, 0), (0, 0), []),
  (.istore_n 2, (1, 1), (2, 0, 0), (0, 0), []),
  (.iload_n 2, (2, 1), (2, 0, 0), (0, 0), []),
  (.bipush 12, (3, 2), (0, 0, 0), (12, 0), []),
  (.if_icmp .ge 18, (5, 3), (0, 14, 0), (0, 0), []),
  (.aload_n 1, (8, 1), (1, 0, 0), (0, 0), []),
  (.iload_n 2, (9, 1), (2, 0, 0), (0, 0), []),
  (.aload_n 0, (10, 1), (0, 0, 0), (0, 0), []),
  (.getfield 9, (11, 3), (9, 0, 2), (0, 0), []),
  (.iload_n 2, (14, 1), (2, 0, 0), (0, 0), []),
  (.iaload, (15, 1), (0, 0, 0), (0, 0), []),
  (.iastore, (16, 1), (0, 0, 0), (0, 0), []),
  (.iinc 2 1, (17, 3), (2, 0, 0), (1, 0), []),
  (.goto (-18), (20, 3), (0, 2, 0), (0, 0), []),
  (.iconst 0, (23, 1), (0, 0, 0), (0, 0), []),
  (.istore_n 2, (24, 1), (2, 0, 0), (0, 0), []),
  (.iload_n 2, (25, 1), (2, 0, 0), (0, 0), []),
  (.bipush 6, (26, 2), (0, 0, 0), (6, 0), []),
  (.if_icmp .ge 57, (28, 3), (0, 57, 0), (0, 0), []),
  (.aload_n 1, (31, 1), (1, 0, 0), (0, 0), []),
  (.bipush 12, (32, 2), (0, 0, 0), (12, 0), []),
  (.iload_n 2, (34, 1), (2, 0, 0), (0, 0), []),
  (.iadd, (35, 1), (0, 0, 0), (0, 0), []),
  (.aload_n 0, (36, 1), (0, 0, 0), (0, 0), []),
  (.getfield 15, (37, 3), (9, 2, 2), (0, 0), []),
  (.iload_n 2, (40, 1), (2, 0, 0), (0, 0), []),
  (.iaload, (41, 1), (0, 0, 0), (0, 0), []),
  (.iastore, (42, 1), (0, 0, 0), (0, 0), []),
  (.aload_n 1, (43, 1), (1, 0, 0), (0, 0), []),
  (.bipush 18, (44, 2), (0, 0, 0), (18, 0), []),
  (.iload_n 2, (46, 1), (2, 0, 0), (0, 0), []),
  (.iadd, (47, 1), (0, 0, 0), (0, 0), [])]
def mm_r139_1 : List mm_R := [
  (.aload_n 0, (48, 1), (0, 0, 0), (0, 0), []),
  (.getfield 18, (49, 3), (9, 3, 2), (0, 0), []),
  (.iload_n 2, (52, 1), (2, 0, 0), (0, 0), []),
  (.iaload, (53, 1), (0, 0, 0), (0, 0), []),
  (.iastore, (54, 1), (0, 0, 0), (0, 0), []),
  (.aload_n 1, (55, 1), (1, 0, 0), (0, 0), []),
  (.bipush 24, (56, 2), (0, 0, 0), (24, 0), []),
  (.iload_n 2, (58, 1), (2, 0, 0), (0, 0), []),
  (.iadd, (59, 1), (0, 0, 0), (0, 0), []),
  (.aload_n 0, (60, 1), (0, 0, 0), (0, 0), []),
  (.getfield 21, (61, 3), (9, 4, 2), (0, 0), []),
  (.iload_n 2, (64, 1), (2, 0, 0), (0, 0), []),
  (.iaload, (65, 1), (0, 0, 0), (0, 0), []),
  (.iastore, (66, 1), (0, 0, 0), (0, 0), []),
  (.aload_n 1, (67, 1), (1, 0, 0), (0, 0), []),
  (.bipush 30, (68, 2), (0, 0, 0), (30, 0), []),
  (.iload_n 2, (70, 1), (2, 0, 0), (0, 0), []),
  (.iadd, (71, 1), (0, 0, 0), (0, 0), []),
  (.aload_n 0, (72, 1), (0, 0, 0), (0, 0), []),
  (.getfield 24, (73, 3), (9, 5, 2), (0, 0), []),
  (.iload_n 2, (76, 1), (2, 0, 0), (0, 0), []),
  (.iaload, (77, 1), (0, 0, 0), (0, 0), []),
  (.iastore, (78, 1), (0, 0, 0), (0, 0), []),
  (.iinc 2 1, (79, 3), (2, 0, 0), (1, 0), []),
  (.goto (-57), (82, 3), (0, 16, 0), (0, 0), []),
  (.iconst 0, (85, 1), (0, 0, 0), (0, 0), []),
  (.istore_n 2, (86, 1), (2, 0, 0), (0, 0), []),
  (.iload_n 2, (87, 1), (2, 0, 0), (0, 0), []),
  (.bipush 24, (88, 2), (0, 0, 0), (24, 0), []),
  (.if_icmp .ge 21, (90, 3), (0, 73, 0), (0, 0), []),
  (.aload_n 1, (93, 1), (1, 0, 0), (0, 0), []),
  (.bipush 36, (94, 2), (0, 0, 0), (36, 0), [])]
def mm_r139_2 : List mm_R := [
  (.iload_n 2, (96, 1), (2, 0, 0), (0, 0), []),
  (.iadd, (97, 1), (0, 0, 0), (0, 0), []),
  (.aload_n 0, (98, 1), (0, 0, 0), (0, 0), []),
  (.getfield 27, (99, 3), (9, 6, 2), (0, 0), []),
  (.iload_n 2, (102, 1), (2, 0, 0), (0, 0), []),
  (.iaload, (103, 1), (0, 0, 0), (0, 0), []),
  (.iastore, (104, 1), (0, 0, 0), (0, 0), []),
  (.iinc 2 1, (105, 3), (2, 0, 0), (1, 0), []),
  (.goto (-21), (108, 3), (0, 59, 0), (0, 0), []),
  (.iconst 0, (111, 1), (0, 0, 0), (0, 0), []),
  (.istore_n 2, (112, 1), (2, 0, 0), (0, 0), []),
  (.iload_n 2, (113, 1), (2, 0, 0), (0, 0), []),
  (.iconst 5, (114, 1), (0, 0, 0), (5, 0), []),
  (.if_icmp .ge 45, (115, 3), (0, 107, 0), (0, 0), []),
  (.aload_n 1, (118, 1), (1, 0, 0), (0, 0), []),
  (.bipush 60, (119, 2), (0, 0, 0), (60, 0), []),
  (.iload_n 2, (121, 1), (2, 0, 0), (0, 0), []),
  (.iadd, (122, 1), (0, 0, 0), (0, 0), []),
  (.aload_n 0, (123, 1), (0, 0, 0), (0, 0), []),
  (.getfield 55, (124, 3), (9, 25, 2), (0, 0), []),
  (.iload_n 2, (127, 1), (2, 0, 0), (0, 0), []),
  (.iaload, (128, 1), (0, 0, 0), (0, 0), []),
  (.iastore, (129, 1), (0, 0, 0), (0, 0), []),
  (.aload_n 1, (130, 1), (1, 0, 0), (0, 0), []),
  (.bipush 65, (131, 2), (0, 0, 0), (65, 0), []),
  (.iload_n 2, (133, 1), (2, 0, 0), (0, 0), []),
  (.iadd, (134, 1), (0, 0, 0), (0, 0), []),
  (.aload_n 0, (135, 1), (0, 0, 0), (0, 0), []),
  (.getfield 58, (136, 3), (9, 26, 2), (0, 0), []),
  (.iload_n 2, (139, 1), (2, 0, 0), (0, 0), []),
  (.iaload, (140, 1), (0, 0, 0), (0, 0), []),
  (.iastore, (141, 1), (0, 0, 0), (0, 0), [])]
def mm_r139_3 : List mm_R := [
  (.aload_n 1, (142, 1), (1, 0, 0), (0, 0), []),
  (.bipush 70, (143, 2), (0, 0, 0), (70, 0), []),
  (.iload_n 2, (145, 1), (2, 0, 0), (0, 0), []),
  (.iadd, (146, 1), (0, 0, 0), (0, 0), []),
  (.aload_n 0, (147, 1), (0, 0, 0), (0, 0), []),
  (.getfield 61, (148, 3), (9, 27, 2), (0, 0), []),
  (.iload_n 2, (151, 1), (2, 0, 0), (0, 0), []),
  (.iaload, (152, 1), (0, 0, 0), (0, 0), []),
  (.iastore, (153, 1), (0, 0, 0), (0, 0), []),
  (.iinc 2 1, (154, 3), (2, 0, 0), (1, 0), []),
  (.goto (-44), (157, 3), (0, 75, 0), (0, 0), []),
  (.iconst 0, (160, 1), (0, 0, 0), (0, 0), []),
  (.istore_n 2, (161, 1), (2, 0, 0), (0, 0), []),
  (.iload_n 2, (162, 1), (2, 0, 0), (0, 0), []),
  (.bipush 10, (163, 2), (0, 0, 0), (10, 0), []),
  (.if_icmp .ge 33, (165, 3), (0, 132, 0), (0, 0), []),
  (.aload_n 1, (168, 1), (1, 0, 0), (0, 0), []),
  (.bipush 75, (169, 2), (0, 0, 0), (75, 0), []),
  (.iload_n 2, (171, 1), (2, 0, 0), (0, 0), []),
  (.iadd, (172, 1), (0, 0, 0), (0, 0), []),
  (.aload_n 0, (173, 1), (0, 0, 0), (0, 0), []),
  (.getfield 64, (174, 3), (9, 29, 2), (0, 0), []),
  (.iload_n 2, (177, 1), (2, 0, 0), (0, 0), []),
  (.iaload, (178, 1), (0, 0, 0), (0, 0), []),
  (.iastore, (179, 1), (0, 0, 0), (0, 0), []),
  (.aload_n 1, (180, 1), (1, 0, 0), (0, 0), []),
  (.bipush 85, (181, 2), (0, 0, 0), (85, 0), []),
  (.iload_n 2, (183, 1), (2, 0, 0), (0, 0), []),
  (.iadd, (184, 1), (0, 0, 0), (0, 0), []),
  (.aload_n 0, (185, 1), (0, 0, 0), (0, 0), []),
  (.getfield 67, (186, 3), (9, 30, 2), (0, 0), []),
  (.iload_n 2, (189, 1), (2, 0, 0), (0, 0), [])]
def mm_r139_4 : List mm_R := [
  (.iaload, (190, 1), (0, 0, 0), (0, 0), []),
  (.iastore, (191, 1), (0, 0, 0), (0, 0), []),
  (.iinc 2 1, (192, 3), (2, 0, 0), (1, 0), []),
  (.goto (-33), (195, 3), (0, 109, 0), (0, 0), []),
  (.iconst 0, (198, 1), (0, 0, 0), (0, 0), []),
  (.istore_n 2, (199, 1), (2, 0, 0), (0, 0), []),
  (.iload_n 2, (200, 1), (2, 0, 0), (0, 0), []),
  (.bipush 8, (201, 2), (0, 0, 0), (8, 0), []),
  (.if_icmp .ge 33, (203, 3), (0, 157, 0), (0, 0), []),
  (.aload_n 1, (206, 1), (1, 0, 0), (0, 0), []),
  (.bipush 95, (207, 2), (0, 0, 0), (95, 0), []),
  (.iload_n 2, (209, 1), (2, 0, 0), (0, 0), []),
  (.iadd, (210, 1), (0, 0, 0), (0, 0), []),
  (.aload_n 0, (211, 1), (0, 0, 0), (0, 0), []),
  (.getfield 70, (212, 3), (9, 32, 2), (0, 0), []),
  (.iload_n 2, (215, 1), (2, 0, 0), (0, 0), []),
  (.iaload, (216, 1), (0, 0, 0), (0, 0), []),
  (.iastore, (217, 1), (0, 0, 0), (0, 0), []),
  (.aload_n 1, (218, 1), (1, 0, 0), (0, 0), []),
  (.bipush 103, (219, 2), (0, 0, 0), (103, 0), []),
  (.iload_n 2, (221, 1), (2, 0, 0), (0, 0), []),
  (.iadd, (222, 1), (0, 0, 0), (0, 0), []),
  (.aload_n 0, (223, 1), (0, 0, 0), (0, 0), []),
  (.getfield 73, (224, 3), (9, 33, 2), (0, 0), []),
  (.iload_n 2, (227, 1), (2, 0, 0), (0, 0), []),
  (.iaload, (228, 1), (0, 0, 0), (0, 0), []),
  (.iastore, (229, 1), (0, 0, 0), (0, 0), []),
  (.iinc 2 1, (230, 3), (2, 0, 0), (1, 0), []),
  (.goto (-33), (233, 3), (0, 134, 0), (0, 0), []),
  (.aload_n 1, (236, 1), (1, 0, 0), (0, 0), []),
  (.bipush 111, (237, 2), (0, 0, 0), (111, 0), []),
  (.aload_n 0, (239, 1), (0, 0, 0), (0, 0), [])]
def mm_r139_5 : List mm_R := [
  (.getfield 111, (240, 3), (9, 1, 0), (0, 0), []),
  (.iastore, (243, 1), (0, 0, 0), (0, 0), []),
  (.aload_n 1, (244, 1), (1, 0, 0), (0, 0), []),
  (.bipush 112, (245, 2), (0, 0, 0), (112, 0), []),
  (.aload_n 0, (247, 1), (0, 0, 0), (0, 0), []),
  (.getfield 229, (248, 3), (9, 7, 0), (0, 0), []),
  (.iastore, (251, 1), (0, 0, 0), (0, 0), []),
  (.aload_n 1, (252, 1), (1, 0, 0), (0, 0), []),
  (.bipush 113, (253, 2), (0, 0, 0), (113, 0), []),
  (.aload_n 0, (255, 1), (0, 0, 0), (0, 0), []),
  (.getfield 285, (256, 3), (9, 24, 0), (0, 0), []),
  (.iastore, (259, 1), (0, 0, 0), (0, 0), []),
  (.aload_n 1, (260, 1), (1, 0, 0), (0, 0), []),
  (.bipush 114, (261, 2), (0, 0, 0), (114, 0), []),
  (.aload_n 0, (263, 1), (0, 0, 0), (0, 0), []),
  (.getfield 306, (264, 3), (9, 28, 0), (0, 0), []),
  (.iastore, (267, 1), (0, 0, 0), (0, 0), []),
  (.aload_n 1, (268, 1), (1, 0, 0), (0, 0), []),
  (.bipush 115, (269, 2), (0, 0, 0), (115, 0), []),
  (.aload_n 0, (271, 1), (0, 0, 0), (0, 0), []),
  (.getfield 312, (272, 3), (9, 31, 0), (0, 0), []),
  (.iastore, (275, 1), (0, 0, 0), (0, 0), []),
  (.aload_n 1, (276, 1), (1, 0, 0), (0, 0), []),
  (.bipush 116, (277, 2), (0, 0, 0), (116, 0), []),
  (.aload_n 0, (279, 1), (0, 0, 0), (0, 0), []),
  (.getfield 107, (280, 3), (9, 15, 0), (0, 0), []),
  (.iastore, (283, 1), (0, 0, 0), (0, 0), []),
  (.return_, (284, 1), (0, 0, 0), (0, 0), [])]
def mm_r139 : List (List mm_R) := [mm_r139_0, mm_r139_1, mm_r139_2, mm_r139_3, mm_r139_4, mm_r139_5]
/-- 140: GlobeCornerModel.goesHour()V -/
def mm_r140_0 : List mm_R := [
  (.aload_n 0, (0, 1), (0, 0, 0), (0, 0), []),
  (.invokevirtual 247, (1, 3), (141, 1, 1), (0, 0), []),
  (.istore_n 1, (4, 1), (1, 0, 0), (0, 0), []),
  (.iconst 0, (5, 1), (0, 0, 0), (0, 0), []),
  (.istore_n 2, (6, 1), (2, 0, 0), (0, 0), []),
  (.iload_n 2, (7, 1), (2, 0, 0), (0, 0), []),
  (.bipush 12, (8, 2), (0, 0, 0), (12, 0), []),
  (.if_icmp .ge 16, (10, 3), (0, 15, 0), (0, 0), []),
  (.aload_n 0, (13, 1), (0, 0, 0), (0, 0), []),
  (.getfield 85, (14, 3), (9, 39, 2), (0, 0), []),
  (.iload_n 2, (17, 1), (2, 0, 0), (0, 0), []),
  (.iconst 0, (18, 1), (0, 0, 0), (0, 0), []),
  (.iastore, (19, 1), (0, 0, 0), (0, 0), []),
  (.iinc 2 1, (20, 3), (2, 0, 0), (1, 0), []),
  (.goto (-16), (23, 3), (0, 5, 0), (0, 0), []),
  (.iconst 0, (26, 1), (0, 0, 0), (0, 0), []),
  (.istore_n 2, (27, 1), (2, 0, 0), (0, 0), []),
  (.iload_n 2, (28, 1), (2, 0, 0), (0, 0), []),
  (.aload_n 0, (29, 1), (0, 0, 0), (0, 0), []),
  (.getfield 111, (30, 3), (9, 1, 0), (0, 0), []),
  (.if_icmp .ge 60, (33, 3), (0, 55, 0), (0, 0), []),
  (.aload_n 0, (36, 1), (0, 0, 0), (0, 0), []),
  (.getfield 21, (37, 3), (9, 4, 2), (0, 0), []),
  (.iload_n 2, (40, 1), (2, 0, 0), (0, 0), []),
  (.iaload, (41, 1), (0, 0, 0), (0, 0), []),
  (.bipush (-5), (42, 2), (0, 0, 0), ((-5), 0), []),
  (.if_icmp .eq 43, (44, 3), (0, 53, 0), (0, 0), []),
  (.aload_n 0, (47, 1), (0, 0, 0), (0, 0), []),
  (.getfield 85, (48, 3), (9, 39, 2), (0, 0), []),
  (.aload_n 0, (51, 1), (0, 0, 0), (0, 0), []),
  (.getfield 21, (52, 3), (9, 4, 2), (0, 0), []),
  (.iload_n 2, (55, 1), (2, 0, 0), (0, 0), [])]
def mm_r140_1 : List mm_R := [
  (.iaload, (56, 1), (0, 0, 0), (0, 0), []),
  (.dup2, (57, 1), (0, 0, 0), (0, 0), []),
  (.iaload, (58, 1), (0, 0, 0), (0, 0), []),
  (.iconst 0, (59, 1), (0, 0, 0), (0, 0), []),
  (.aload_n 0, (60, 1), (0, 0, 0), (0, 0), []),
  (.iload_n 2, (61, 1), (2, 0, 0), (0, 0), []),
  (.aload_n 0, (62, 1), (0, 0, 0), (0, 0), []),
  (.getfield 21, (63, 3), (9, 4, 2), (0, 0), []),
  (.iload_n 2, (66, 1), (2, 0, 0), (0, 0), []),
  (.iaload, (67, 1), (0, 0, 0), (0, 0), []),
  (.aload_n 0, (68, 1), (0, 0, 0), (0, 0), []),
  (.iload_n 2, (69, 1), (2, 0, 0), (0, 0), []),
  (.aload_n 0, (70, 1), (0, 0, 0), (0, 0), []),
  (.getfield 21, (71, 3), (9, 4, 2), (0, 0), []),
  (.iload_n 2, (74, 1), (2, 0, 0), (0, 0), []),
  (.iaload, (75, 1), (0, 0, 0), (0, 0), []),
  (.invokevirtual 125, (76, 3), (132, 3, 1), (0, 0), []),
  (.invokevirtual 129, (79, 3), (133, 4, 1), (0, 0), []),
  (.invokestatic 250, (82, 3), (0, 0, 6), (0, 0), []),
  (.iadd, (85, 1), (0, 0, 0), (0, 0), []),
  (.iastore, (86, 1), (0, 0, 0), (0, 0), []),
  (.iinc 2 1, (87, 3), (2, 0, 0), (1, 0), []),
  (.goto (-62), (90, 3), (0, 17, 0), (0, 0), []),
  (.iconst 0, (93, 1), (0, 0, 0), (0, 0), []),
  (.istore_n 2, (94, 1), (2, 0, 0), (0, 0), []),
  (.iload_n 2, (95, 1), (2, 0, 0), (0, 0), []),
  (.bipush 12, (96, 2), (0, 0, 0), (12, 0), []),
  (.if_icmp .ge 39, (98, 3), (0, 81, 0), (0, 0), []),
  (.aload_n 0, (101, 1), (0, 0, 0), (0, 0), []),
  (.getfield 9, (102, 3), (9, 0, 2), (0, 0), []),
  (.iload_n 2, (105, 1), (2, 0, 0), (0, 0), []),
  (.iconst 0, (106, 1), (0, 0, 0), (0, 0), [])]
def mm_r140_2 : List mm_R := [
  (.bipush 99, (107, 2), (0, 0, 0), (99, 0), []),
  (.aload_n 0, (109, 1), (0, 0, 0), (0, 0), []),
  (.getfield 9, (110, 3), (9, 0, 2), (0, 0), []),
  (.iload_n 2, (113, 1), (2, 0, 0), (0, 0), []),
  (.iaload, (114, 1), (0, 0, 0), (0, 0), []),
  (.iload_n 1, (115, 1), (1, 0, 0), (0, 0), []),
  (.iadd, (116, 1), (0, 0, 0), (0, 0), []),
  (.aload_n 0, (117, 1), (0, 0, 0), (0, 0), []),
  (.getfield 85, (118, 3), (9, 39, 2), (0, 0), []),
  (.iload_n 2, (121, 1), (2, 0, 0), (0, 0), []),
  (.iaload, (122, 1), (0, 0, 0), (0, 0), []),
  (.isub, (123, 1), (0, 0, 0), (0, 0), []),
  (.invokestatic 242, (124, 3), (0, 0, 7), (0, 0), []),
  (.invokestatic 250, (127, 3), (0, 0, 6), (0, 0), []),
  (.iastore, (130, 1), (0, 0, 0), (0, 0), []),
  (.iinc 2 1, (131, 3), (2, 0, 0), (1, 0), []),
  (.goto (-39), (134, 3), (0, 57, 0), (0, 0), []),
  (.iconst 0, (137, 1), (0, 0, 0), (0, 0), []),
  (.istore_n 2, (138, 1), (2, 0, 0), (0, 0), []),
  (.iload_n 2, (139, 1), (2, 0, 0), (0, 0), []),
  (.aload_n 0, (140, 1), (0, 0, 0), (0, 0), []),
  (.getfield 111, (141, 3), (9, 1, 0), (0, 0), []),
  (.if_icmp .ge 30, (144, 3), (0, 103, 0), (0, 0), []),
  (.aload_n 0, (147, 1), (0, 0, 0), (0, 0), []),
  (.getfield 21, (148, 3), (9, 4, 2), (0, 0), []),
  (.iload_n 2, (151, 1), (2, 0, 0), (0, 0), []),
  (.iaload, (152, 1), (0, 0, 0), (0, 0), []),
  (.bipush (-5), (153, 2), (0, 0, 0), ((-5), 0), []),
  (.if_icmp .eq 13, (155, 3), (0, 101, 0), (0, 0), []),
  (.aload_n 0, (158, 1), (0, 0, 0), (0, 0), []),
  (.getfield 24, (159, 3), (9, 5, 2), (0, 0), []),
  (.iload_n 2, (162, 1), (2, 0, 0), (0, 0), [])]
def mm_r140_3 : List mm_R := [
  (.dup2, (163, 1), (0, 0, 0), (0, 0), []),
  (.iaload, (164, 1), (0, 0, 0), (0, 0), []),
  (.iconst 1, (165, 1), (0, 0, 0), (1, 0), []),
  (.iadd, (166, 1), (0, 0, 0), (0, 0), []),
  (.iastore, (167, 1), (0, 0, 0), (0, 0), []),
  (.iinc 2 1, (168, 3), (2, 0, 0), (1, 0), []),
  (.goto (-32), (171, 3), (0, 83, 0), (0, 0), []),
  (.aload_n 0, (174, 1), (0, 0, 0), (0, 0), []),
  (.dup, (175, 1), (0, 0, 0), (0, 0), []),
  (.getfield 229, (176, 3), (9, 7, 0), (0, 0), []),
  (.iconst 1, (179, 1), (0, 0, 0), (1, 0), []),
  (.iadd, (180, 1), (0, 0, 0), (0, 0), []),
  (.putfield 229, (181, 3), (9, 7, 0), (0, 0), []),
  (.return_, (184, 1), (0, 0, 0), (0, 0), [])]
def mm_r140 : List (List mm_R) := [mm_r140_0, mm_r140_1, mm_r140_2, mm_r140_3]
/-- 141: GlobeCornerModel.growBy()I -/
def mm_r141_0 : List mm_R := [
  (.iconst 2, (0, 1), (0, 0, 0), (2, 0), []),
  (.istore_n 1, (1, 1), (1, 0, 0), (0, 0), []),
  (.iconst 0, (2, 1), (0, 0, 0), (0, 0), []),
  (.istore_n 2, (3, 1), (2, 0, 0), (0, 0), []),
  (.aload_n 0, (4, 1), (0, 0, 0), (0, 0), []),
  (.getfield 107, (5, 3), (9, 15, 0), (0, 0), []),
  (.iconst (-1), (8, 1), (0, 0, 0), ((-1), 0), []),
  (.if_icmp .eq 55, (9, 3), (0, 38, 0), (0, 0), []),
  (.iload_n 2, (12, 1), (2, 0, 0), (0, 0), []),
  (.aload_n 0, (13, 1), (0, 0, 0), (0, 0), []),
  (.getfield 33, (14, 3), (9, 16, 2), (0, 0), []),
  (.aload_n 0, (17, 1), (0, 0, 0), (0, 0), []),
  (.getfield 107, (18, 3), (9, 15, 0), (0, 0), []),
  (.iaload, (21, 1), (0, 0, 0), (0, 0), []),
  (.if_icmp .ge 42, (22, 3), (0, 38, 0), (0, 0), []),
  (.aload_n 0, (25, 1), (0, 0, 0), (0, 0), []),
  (.getfield 36, (26, 3), (9, 17, 2), (0, 0), []),
  (.bipush 10, (29, 2), (0, 0, 0), (10, 0), []),
  (.aload_n 0, (31, 1), (0, 0, 0), (0, 0), []),
  (.getfield 107, (32, 3), (9, 15, 0), (0, 0), []),
  (.imul, (35, 1), (0, 0, 0), (0, 0), []),
  (.iload_n 2, (36, 1), (2, 0, 0), (0, 0), []),
  (.iadd, (37, 1), (0, 0, 0), (0, 0), []),
  (.iaload, (38, 1), (0, 0, 0), (0, 0), []),
  (.iconst 2, (39, 1), (0, 0, 0), (2, 0), []),
  (.if_icmp .ne 18, (40, 3), (0, 36, 0), (0, 0), []),
  (.aload_n 0, (43, 1), (0, 0, 0), (0, 0), []),
  (.getfield 39, (44, 3), (9, 18, 2), (0, 0), []),
  (.bipush 10, (47, 2), (0, 0, 0), (10, 0), []),
  (.aload_n 0, (49, 1), (0, 0, 0), (0, 0), []),
  (.getfield 107, (50, 3), (9, 15, 0), (0, 0), []),
  (.imul, (53, 1), (0, 0, 0), (0, 0), [])]
def mm_r141_1 : List mm_R := [
  (.iload_n 2, (54, 1), (2, 0, 0), (0, 0), []),
  (.iadd, (55, 1), (0, 0, 0), (0, 0), []),
  (.iaload, (56, 1), (0, 0, 0), (0, 0), []),
  (.istore_n 1, (57, 1), (1, 0, 0), (0, 0), []),
  (.iinc 2 1, (58, 3), (2, 0, 0), (1, 0), []),
  (.goto (-57), (61, 3), (0, 4, 0), (0, 0), []),
  (.iload_n 1, (64, 1), (1, 0, 0), (0, 0), []),
  (.ireturn, (65, 1), (0, 0, 0), (0, 0), [])]
def mm_r141 : List (List mm_R) := [mm_r141_0, mm_r141_1]
/-- 142: GlobeCornerModel.again([I)V -/
def mm_r142_0 : List mm_R := [
  (.iconst 0, (0, 1), (0, 0, 0), (0, 0), []),
  (.istore_n 2, (1, 1), (2, 0, 0), (0, 0), []),
  (.iload_n 2, (2, 1), (2, 0, 0), (0, 0), []),
  (.bipush 12, (3, 2), (0, 0, 0), (12, 0), []),
  (.if_icmp .ge 18, (5, 3), (0, 14, 0), (0, 0), []),
  (.aload_n 0, (8, 1), (0, 0, 0), (0, 0), []),
  (.getfield 9, (9, 3), (9, 0, 2), (0, 0), []),
  (.iload_n 2, (12, 1), (2, 0, 0), (0, 0), []),
  (.aload_n 1, (13, 1), (1, 0, 0), (0, 0), []),
  (.iload_n 2, (14, 1), (2, 0, 0), (0, 0), []),
  (.iaload, (15, 1), (0, 0, 0), (0, 0), []),
  (.iastore, (16, 1), (0, 0, 0), (0, 0), []),
  (.iinc 2 1, (17, 3), (2, 0, 0), (1, 0), []),
  (.goto (-18), (20, 3), (0, 2, 0), (0, 0), []),
  (.iconst 0, (23, 1), (0, 0, 0), (0, 0), []),
  (.istore_n 2, (24, 1), (2, 0, 0), (0, 0), []),
  (.iload_n 2, (25, 1), (2, 0, 0), (0, 0), []),
  (.bipush 6, (26, 2), (0, 0, 0), (6, 0), []),
  (.if_icmp .ge 57, (28, 3), (0, 57, 0), (0, 0), []),
  (.aload_n 0, (31, 1), (0, 0, 0), (0, 0), []),
  (.getfield 15, (32, 3), (9, 2, 2), (0, 0), []),
  (.iload_n 2, (35, 1), (2, 0, 0), (0, 0), []),
  (.aload_n 1, (36, 1), (1, 0, 0), (0, 0), []),
  (.bipush 12, (37, 2), (0, 0, 0), (12, 0), []),
  (.iload_n 2, (39, 1), (2, 0, 0), (0, 0), []),
  (.iadd, (40, 1), (0, 0, 0), (0, 0), []),
  (.iaload, (41, 1), (0, 0, 0), (0, 0), []),
  (.iastore, (42, 1), (0, 0, 0), (0, 0), []),
  (.aload_n 0, (43, 1), (0, 0, 0), (0, 0), []),
  (.getfield 18, (44, 3), (9, 3, 2), (0, 0), []),
  (.iload_n 2, (47, 1), (2, 0, 0), (0, 0), []),
  (.aload_n 1, (48, 1), (1, 0, 0), (0, 0), [])]
def mm_r142_1 : List mm_R := [
  (.bipush 18, (49, 2), (0, 0, 0), (18, 0), []),
  (.iload_n 2, (51, 1), (2, 0, 0), (0, 0), []),
  (.iadd, (52, 1), (0, 0, 0), (0, 0), []),
  (.iaload, (53, 1), (0, 0, 0), (0, 0), []),
  (.iastore, (54, 1), (0, 0, 0), (0, 0), []),
  (.aload_n 0, (55, 1), (0, 0, 0), (0, 0), []),
  (.getfield 21, (56, 3), (9, 4, 2), (0, 0), []),
  (.iload_n 2, (59, 1), (2, 0, 0), (0, 0), []),
  (.aload_n 1, (60, 1), (1, 0, 0), (0, 0), []),
  (.bipush 24, (61, 2), (0, 0, 0), (24, 0), []),
  (.iload_n 2, (63, 1), (2, 0, 0), (0, 0), []),
  (.iadd, (64, 1), (0, 0, 0), (0, 0), []),
  (.iaload, (65, 1), (0, 0, 0), (0, 0), []),
  (.iastore, (66, 1), (0, 0, 0), (0, 0), []),
  (.aload_n 0, (67, 1), (0, 0, 0), (0, 0), []),
  (.getfield 24, (68, 3), (9, 5, 2), (0, 0), []),
  (.iload_n 2, (71, 1), (2, 0, 0), (0, 0), []),
  (.aload_n 1, (72, 1), (1, 0, 0), (0, 0), []),
  (.bipush 30, (73, 2), (0, 0, 0), (30, 0), []),
  (.iload_n 2, (75, 1), (2, 0, 0), (0, 0), []),
  (.iadd, (76, 1), (0, 0, 0), (0, 0), []),
  (.iaload, (77, 1), (0, 0, 0), (0, 0), []),
  (.iastore, (78, 1), (0, 0, 0), (0, 0), []),
  (.iinc 2 1, (79, 3), (2, 0, 0), (1, 0), []),
  (.goto (-57), (82, 3), (0, 16, 0), (0, 0), []),
  (.iconst 0, (85, 1), (0, 0, 0), (0, 0), []),
  (.istore_n 2, (86, 1), (2, 0, 0), (0, 0), []),
  (.iload_n 2, (87, 1), (2, 0, 0), (0, 0), []),
  (.bipush 24, (88, 2), (0, 0, 0), (24, 0), []),
  (.if_icmp .ge 21, (90, 3), (0, 73, 0), (0, 0), []),
  (.aload_n 0, (93, 1), (0, 0, 0), (0, 0), []),
  (.getfield 27, (94, 3), (9, 6, 2), (0, 0), [])]
def mm_r142_2 : List mm_R := [
  (.iload_n 2, (97, 1), (2, 0, 0), (0, 0), []),
  (.aload_n 1, (98, 1), (1, 0, 0), (0, 0), []),
  (.bipush 36, (99, 2), (0, 0, 0), (36, 0), []),
  (.iload_n 2, (101, 1), (2, 0, 0), (0, 0), []),
  (.iadd, (102, 1), (0, 0, 0), (0, 0), []),
  (.iaload, (103, 1), (0, 0, 0), (0, 0), []),
  (.iastore, (104, 1), (0, 0, 0), (0, 0), []),
  (.iinc 2 1, (105, 3), (2, 0, 0), (1, 0), []),
  (.goto (-21), (108, 3), (0, 59, 0), (0, 0), []),
  (.iconst 0, (111, 1), (0, 0, 0), (0, 0), []),
  (.istore_n 2, (112, 1), (2, 0, 0), (0, 0), []),
  (.iload_n 2, (113, 1), (2, 0, 0), (0, 0), []),
  (.iconst 5, (114, 1), (0, 0, 0), (5, 0), []),
  (.if_icmp .ge 45, (115, 3), (0, 107, 0), (0, 0), []),
  (.aload_n 0, (118, 1), (0, 0, 0), (0, 0), []),
  (.getfield 55, (119, 3), (9, 25, 2), (0, 0), []),
  (.iload_n 2, (122, 1), (2, 0, 0), (0, 0), []),
  (.aload_n 1, (123, 1), (1, 0, 0), (0, 0), []),
  (.bipush 60, (124, 2), (0, 0, 0), (60, 0), []),
  (.iload_n 2, (126, 1), (2, 0, 0), (0, 0), []),
  (.iadd, (127, 1), (0, 0, 0), (0, 0), []),
  (.iaload, (128, 1), (0, 0, 0), (0, 0), []),
  (.iastore, (129, 1), (0, 0, 0), (0, 0), []),
  (.aload_n 0, (130, 1), (0, 0, 0), (0, 0), []),
  (.getfield 58, (131, 3), (9, 26, 2), (0, 0), []),
  (.iload_n 2, (134, 1), (2, 0, 0), (0, 0), []),
  (.aload_n 1, (135, 1), (1, 0, 0), (0, 0), []),
  (.bipush 65, (136, 2), (0, 0, 0), (65, 0), []),
  (.iload_n 2, (138, 1), (2, 0, 0), (0, 0), []),
  (.iadd, (139, 1), (0, 0, 0), (0, 0), []),
  (.iaload, (140, 1), (0, 0, 0), (0, 0), []),
  (.iastore, (141, 1), (0, 0, 0), (0, 0), [])]
def mm_r142_3 : List mm_R := [
  (.aload_n 0, (142, 1), (0, 0, 0), (0, 0), []),
  (.getfield 61, (143, 3), (9, 27, 2), (0, 0), []),
  (.iload_n 2, (146, 1), (2, 0, 0), (0, 0), []),
  (.aload_n 1, (147, 1), (1, 0, 0), (0, 0), []),
  (.bipush 70, (148, 2), (0, 0, 0), (70, 0), []),
  (.iload_n 2, (150, 1), (2, 0, 0), (0, 0), []),
  (.iadd, (151, 1), (0, 0, 0), (0, 0), []),
  (.iaload, (152, 1), (0, 0, 0), (0, 0), []),
  (.iastore, (153, 1), (0, 0, 0), (0, 0), []),
  (.iinc 2 1, (154, 3), (2, 0, 0), (1, 0), []),
  (.goto (-44), (157, 3), (0, 75, 0), (0, 0), []),
  (.iconst 0, (160, 1), (0, 0, 0), (0, 0), []),
  (.istore_n 2, (161, 1), (2, 0, 0), (0, 0), []),
  (.iload_n 2, (162, 1), (2, 0, 0), (0, 0), []),
  (.bipush 10, (163, 2), (0, 0, 0), (10, 0), []),
  (.if_icmp .ge 33, (165, 3), (0, 132, 0), (0, 0), []),
  (.aload_n 0, (168, 1), (0, 0, 0), (0, 0), []),
  (.getfield 64, (169, 3), (9, 29, 2), (0, 0), []),
  (.iload_n 2, (172, 1), (2, 0, 0), (0, 0), []),
  (.aload_n 1, (173, 1), (1, 0, 0), (0, 0), []),
  (.bipush 75, (174, 2), (0, 0, 0), (75, 0), []),
  (.iload_n 2, (176, 1), (2, 0, 0), (0, 0), []),
  (.iadd, (177, 1), (0, 0, 0), (0, 0), []),
  (.iaload, (178, 1), (0, 0, 0), (0, 0), []),
  (.iastore, (179, 1), (0, 0, 0), (0, 0), []),
  (.aload_n 0, (180, 1), (0, 0, 0), (0, 0), []),
  (.getfield 67, (181, 3), (9, 30, 2), (0, 0), []),
  (.iload_n 2, (184, 1), (2, 0, 0), (0, 0), []),
  (.aload_n 1, (185, 1), (1, 0, 0), (0, 0), []),
  (.bipush 85, (186, 2), (0, 0, 0), (85, 0), []),
  (.iload_n 2, (188, 1), (2, 0, 0), (0, 0), []),
  (.iadd, (189, 1), (0, 0, 0), (0, 0), [])]
def mm_r142_4 : List mm_R := [
  (.iaload, (190, 1), (0, 0, 0), (0, 0), []),
  (.iastore, (191, 1), (0, 0, 0), (0, 0), []),
  (.iinc 2 1, (192, 3), (2, 0, 0), (1, 0), []),
  (.goto (-33), (195, 3), (0, 109, 0), (0, 0), []),
  (.iconst 0, (198, 1), (0, 0, 0), (0, 0), []),
  (.istore_n 2, (199, 1), (2, 0, 0), (0, 0), []),
  (.iload_n 2, (200, 1), (2, 0, 0), (0, 0), []),
  (.bipush 8, (201, 2), (0, 0, 0), (8, 0), []),
  (.if_icmp .ge 33, (203, 3), (0, 157, 0), (0, 0), []),
  (.aload_n 0, (206, 1), (0, 0, 0), (0, 0), []),
  (.getfield 70, (207, 3), (9, 32, 2), (0, 0), []),
  (.iload_n 2, (210, 1), (2, 0, 0), (0, 0), []),
  (.aload_n 1, (211, 1), (1, 0, 0), (0, 0), []),
  (.bipush 95, (212, 2), (0, 0, 0), (95, 0), []),
  (.iload_n 2, (214, 1), (2, 0, 0), (0, 0), []),
  (.iadd, (215, 1), (0, 0, 0), (0, 0), []),
  (.iaload, (216, 1), (0, 0, 0), (0, 0), []),
  (.iastore, (217, 1), (0, 0, 0), (0, 0), []),
  (.aload_n 0, (218, 1), (0, 0, 0), (0, 0), []),
  (.getfield 73, (219, 3), (9, 33, 2), (0, 0), []),
  (.iload_n 2, (222, 1), (2, 0, 0), (0, 0), []),
  (.aload_n 1, (223, 1), (1, 0, 0), (0, 0), []),
  (.bipush 103, (224, 2), (0, 0, 0), (103, 0), []),
  (.iload_n 2, (226, 1), (2, 0, 0), (0, 0), []),
  (.iadd, (227, 1), (0, 0, 0), (0, 0), []),
  (.iaload, (228, 1), (0, 0, 0), (0, 0), []),
  (.iastore, (229, 1), (0, 0, 0), (0, 0), []),
  (.iinc 2 1, (230, 3), (2, 0, 0), (1, 0), []),
  (.goto (-33), (233, 3), (0, 134, 0), (0, 0), []),
  (.aload_n 0, (236, 1), (0, 0, 0), (0, 0), []),
  (.aload_n 1, (237, 1), (1, 0, 0), (0, 0), []),
  (.bipush 111, (238, 2), (0, 0, 0), (111, 0), [])]
def mm_r142_5 : List mm_R := [
  (.iaload, (240, 1), (0, 0, 0), (0, 0), []),
  (.putfield 111, (241, 3), (9, 1, 0), (0, 0), []),
  (.aload_n 0, (244, 1), (0, 0, 0), (0, 0), []),
  (.aload_n 1, (245, 1), (1, 0, 0), (0, 0), []),
  (.bipush 112, (246, 2), (0, 0, 0), (112, 0), []),
  (.iaload, (248, 1), (0, 0, 0), (0, 0), []),
  (.putfield 229, (249, 3), (9, 7, 0), (0, 0), []),
  (.aload_n 0, (252, 1), (0, 0, 0), (0, 0), []),
  (.aload_n 1, (253, 1), (1, 0, 0), (0, 0), []),
  (.bipush 113, (254, 2), (0, 0, 0), (113, 0), []),
  (.iaload, (256, 1), (0, 0, 0), (0, 0), []),
  (.putfield 285, (257, 3), (9, 24, 0), (0, 0), []),
  (.aload_n 0, (260, 1), (0, 0, 0), (0, 0), []),
  (.aload_n 1, (261, 1), (1, 0, 0), (0, 0), []),
  (.bipush 114, (262, 2), (0, 0, 0), (114, 0), []),
  (.iaload, (264, 1), (0, 0, 0), (0, 0), []),
  (.putfield 306, (265, 3), (9, 28, 0), (0, 0), []),
  (.aload_n 0, (268, 1), (0, 0, 0), (0, 0), []),
  (.aload_n 1, (269, 1), (1, 0, 0), (0, 0), []),
  (.bipush 115, (270, 2), (0, 0, 0), (115, 0), []),
  (.iaload, (272, 1), (0, 0, 0), (0, 0), []),
  (.putfield 312, (273, 3), (9, 31, 0), (0, 0), []),
  (.aload_n 0, (276, 1), (0, 0, 0), (0, 0), []),
  (.aload_n 1, (277, 1), (1, 0, 0), (0, 0), []),
  (.bipush 116, (278, 2), (0, 0, 0), (116, 0), []),
  (.iaload, (280, 1), (0, 0, 0), (0, 0), []),
  (.putfield 107, (281, 3), (9, 15, 0), (0, 0), []),
  (.return_, (284, 1), (0, 0, 0), (0, 0), [])]
def mm_r142 : List (List mm_R) := [mm_r142_0, mm_r142_1, mm_r142_2, mm_r142_3, mm_r142_4, mm_r142_5]
/-- 143: GlobeCornerModel.needs(II)I -/
def mm_r143_0 : List mm_R := [
  (.aload_n 0, (0, 1), (0, 0, 0), (0, 0), []),
  (.getfield 9, (1, 3), (9, 0, 2), (0, 0), []),
  (.iload_n 1, (4, 1), (1, 0, 0), (0, 0), []),
  (.iaload, (5, 1), (0, 0, 0), (0, 0), []),
  (.istore_n 3, (6, 1), (3, 0, 0), (0, 0), []),
  (.iconst 0, (7, 1), (0, 0, 0), (0, 0), []),
  (.istore 4, (8, 2), (4, 0, 0), (0, 0), []),
  (.bipush (-5), (10, 2), (0, 0, 0), ((-5), 0), []),
  (.istore 5, (12, 2), (5, 0, 0), (0, 0), []),
  (.bipush 99, (14, 2), (0, 0, 0), (99, 0), []),
  (.istore 6, (16, 2), (6, 0, 0), (0, 0), []),
  (.iload 6, (18, 2), (6, 0, 0), (0, 0), []),
  (.ifCond .lt 34, (20, 3), (0, 27, 0), (0, 0), []),
  (.aload_n 0, (23, 1), (0, 0, 0), (0, 0), []),
  (.getfield 9, (24, 3), (9, 0, 2), (0, 0), []),
  (.iload_n 1, (27, 1), (1, 0, 0), (0, 0), []),
  (.iload 6, (28, 2), (6, 0, 0), (0, 0), []),
  (.iastore, (30, 1), (0, 0, 0), (0, 0), []),
  (.aload_n 0, (31, 1), (0, 0, 0), (0, 0), []),
  (.invokevirtual 288, (32, 3), (144, 1, 1), (0, 0), []),
  (.ifCond .ne 6, (35, 3), (0, 22, 0), (0, 0), []),
  (.goto 10, (38, 3), (0, 25, 0), (0, 0), []),
  (.iinc 4 1, (41, 3), (4, 0, 0), (1, 0), []),
  (.iload 6, (44, 2), (6, 0, 0), (0, 0), []),
  (.istore 5, (46, 2), (5, 0, 0), (0, 0), []),
  (.iinc 6 (-1), (48, 3), (6, 0, 0), ((-1), 0), []),
  (.goto (-33), (51, 3), (0, 11, 0), (0, 0), []),
  (.aload_n 0, (54, 1), (0, 0, 0), (0, 0), []),
  (.getfield 9, (55, 3), (9, 0, 2), (0, 0), []),
  (.iload_n 1, (58, 1), (1, 0, 0), (0, 0), []),
  (.iload_n 3, (59, 1), (3, 0, 0), (0, 0), []),
  (.iastore, (60, 1), (0, 0, 0), (0, 0), [])]
def mm_r143_1 : List mm_R := [
  (.iload_n 2, (61, 1), (2, 0, 0), (0, 0), []),
  (.ifCond .ne 8, (62, 3), (0, 36, 0), (0, 0), []),
  (.iload 4, (65, 2), (4, 0, 0), (0, 0), []),
  (.goto 5, (67, 3), (0, 37, 0), (0, 0), []),
  (.iload 5, (70, 2), (5, 0, 0), (0, 0), []),
  (.ireturn, (72, 1), (0, 0, 0), (0, 0), [])]
def mm_r143 : List (List mm_R) := [mm_r143_0, mm_r143_1]
/-- 144: GlobeCornerModel.isSeen()Z -/
def mm_r144_0 : List mm_R := [
  (.iconst 1, (0, 1), (0, 0, 0), (1, 0), []),
  (.istore_n 1, (1, 1), (1, 0, 0), (0, 0), []),
  (.iconst 0, (2, 1), (0, 0, 0), (0, 0), []),
  (.istore_n 2, (3, 1), (2, 0, 0), (0, 0), []),
  (.iload_n 2, (4, 1), (2, 0, 0), (0, 0), []),
  (.aload_n 0, (5, 1), (0, 0, 0), (0, 0), []),
  (.getfield 285, (6, 3), (9, 24, 0), (0, 0), []),
  (.if_icmp .ge 77, (9, 3), (0, 48, 0), (0, 0), []),
  (.iload_n 1, (12, 1), (1, 0, 0), (0, 0), []),
  (.ifCond .eq 73, (13, 3), (0, 48, 0), (0, 0), []),
  (.aload_n 0, (16, 1), (0, 0, 0), (0, 0), []),
  (.aload_n 0, (17, 1), (0, 0, 0), (0, 0), []),
  (.getfield 82, (18, 3), (9, 38, 2), (0, 0), []),
  (.invokevirtual 268, (21, 3), (139, 2, 1), (0, 0), []),
  (.iconst 0, (24, 1), (0, 0, 0), (0, 0), []),
  (.istore_n 3, (25, 1), (3, 0, 0), (0, 0), []),
  (.iload_n 3, (26, 1), (3, 0, 0), (0, 0), []),
  (.aload_n 0, (27, 1), (0, 0, 0), (0, 0), []),
  (.getfield 58, (28, 3), (9, 26, 2), (0, 0), []),
  (.iload_n 2, (31, 1), (2, 0, 0), (0, 0), []),
  (.iaload, (32, 1), (0, 0, 0), (0, 0), []),
  (.if_icmp .ge 13, (33, 3), (0, 26, 0), (0, 0), []),
  (.aload_n 0, (36, 1), (0, 0, 0), (0, 0), []),
  (.invokevirtual 265, (37, 3), (140, 1, 1), (0, 0), []),
  (.iinc 3 1, (40, 3), (3, 0, 0), (1, 0), []),
  (.goto (-17), (43, 3), (0, 16, 0), (0, 0), []),
  (.aload_n 0, (46, 1), (0, 0, 0), (0, 0), []),
  (.getfield 9, (47, 3), (9, 0, 2), (0, 0), []),
  (.aload_n 0, (50, 1), (0, 0, 0), (0, 0), []),
  (.getfield 55, (51, 3), (9, 25, 2), (0, 0), []),
  (.iload_n 2, (54, 1), (2, 0, 0), (0, 0), []),
  (.iaload, (55, 1), (0, 0, 0), (0, 0), [])]
def mm_r144_1 : List mm_R := [
  (.iaload, (56, 1), (0, 0, 0), (0, 0), []),
  (.aload_n 0, (57, 1), (0, 0, 0), (0, 0), []),
  (.getfield 61, (58, 3), (9, 27, 2), (0, 0), []),
  (.iload_n 2, (61, 1), (2, 0, 0), (0, 0), []),
  (.iaload, (62, 1), (0, 0, 0), (0, 0), []),
  (.if_icmp .ne 7, (63, 3), (0, 40, 0), (0, 0), []),
  (.iconst 1, (66, 1), (0, 0, 0), (1, 0), []),
  (.goto 4, (67, 3), (0, 41, 0), (0, 0), []),
  (.iconst 0, (70, 1), (0, 0, 0), (0, 0), []),
  (.istore_n 1, (71, 1), (1, 0, 0), (0, 0), []),
  (.aload_n 0, (72, 1), (0, 0, 0), (0, 0), []),
  (.aload_n 0, (73, 1), (0, 0, 0), (0, 0), []),
  (.getfield 82, (74, 3), (9, 38, 2), (0, 0), []),
  (.invokevirtual 272, (77, 3), (142, 2, 1), (0, 0), []),
  (.iinc 2 1, (80, 3), (2, 0, 0), (1, 0), []),
  (.goto (-79), (83, 3), (0, 4, 0), (0, 0), []),
  (.iload_n 1, (86, 1), (1, 0, 0), (0, 0), []),
  (.ireturn, (87, 1), (1, 0, 0), (0, 0), [])]
def mm_r144 : List (List mm_R) := [mm_r144_0, mm_r144_1]
/-- 145: GlobeCornerModel.point(II)I -/
def mm_r145_0 : List mm_R := [
  (.aload_n 0, (0, 1), (0, 0, 0), (0, 0), []),
  (.iload_n 1, (1, 1), (1, 0, 0), (0, 0), []),
  (.invokevirtual 118, (2, 3), (130, 2, 1), (0, 0), []),
  (.ifCond .eq 15, (5, 3), (0, 10, 0), (0, 0), []),
  (.iload_n 2, (8, 1), (2, 0, 0), (0, 0), []),
  (.iconst (-1), (9, 1), (0, 0, 0), ((-1), 0), []),
  (.if_icmp .eq 12, (10, 3), (0, 12, 0), (0, 0), []),
  (.iload_n 2, (13, 1), (2, 0, 0), (0, 0), []),
  (.invokestatic 122, (14, 3), (131, 1, 0), (0, 0), []),
  (.ifCond .ne 5, (17, 3), (0, 12, 0), (0, 0), []),
  (.iconst (-1), (20, 1), (0, 0, 0), ((-1), 0), []),
  (.ireturn, (21, 1), (0, 0, 0), (0, 0), []),
  (.aload_n 0, (22, 1), (0, 0, 0), (0, 0), []),
  (.getfield 21, (23, 3), (9, 4, 2), (0, 0), []),
  (.iload_n 1, (26, 1), (1, 0, 0), (0, 0), []),
  (.iaload, (27, 1), (0, 0, 0), (0, 0), []),
  (.istore_n 3, (28, 1), (3, 0, 0), (0, 0), []),
  (.aload_n 0, (29, 1), (0, 0, 0), (0, 0), []),
  (.getfield 21, (30, 3), (9, 4, 2), (0, 0), []),
  (.iload_n 1, (33, 1), (1, 0, 0), (0, 0), []),
  (.iload_n 2, (34, 1), (2, 0, 0), (0, 0), []),
  (.iconst (-1), (35, 1), (0, 0, 0), ((-1), 0), []),
  (.if_icmp .ne 8, (36, 3), (0, 25, 0), (0, 0), []),
  (.bipush (-5), (39, 2), (0, 0, 0), ((-5), 0), []),
  (.goto 4, (41, 3), (0, 26, 0), (0, 0), []),
  (.iload_n 2, (44, 1), (2, 0, 0), (0, 0), []),
  (.iastore, (45, 1), (0, 0, 0), (0, 0), []),
  (.iload_n 3, (46, 1), (3, 0, 0), (0, 0), []),
  (.ireturn, (47, 1), (0, 0, 0), (0, 0), [])]
def mm_r145 : List (List mm_R) := [mm_r145_0]
/-- 146: GlobeCornerModel.need(II)I -/
def mm_r146_0 : List mm_R := [
  (.iload_n 1, (0, 1), (1, 0, 0), (0, 0), []),
  (.invokestatic 122, (1, 3), (131, 1, 0), (0, 0), []),
  (.ifCond .ne 5, (4, 3), (0, 5, 0), (0, 0), []),
  (.iconst (-1), (7, 1), (0, 0, 0), ((-1), 0), []),
  (.ireturn, (8, 1), (0, 0, 0), (0, 0), []),
  (.iload_n 2, (9, 1), (2, 0, 0), (0, 0), []),
  (.invokestatic 141, (10, 3), (147, 1, 0), (0, 0), []),
  (.ifCond .ne 6, (13, 3), (0, 10, 0), (0, 0), []),
  (.bipush (-2), (16, 2), (0, 0, 0), ((-2), 0), []),
  (.ireturn, (18, 1), (0, 0, 0), (0, 0), []),
  (.aload_n 0, (19, 1), (0, 0, 0), (0, 0), []),
  (.getfield 9, (20, 3), (9, 0, 2), (0, 0), []),
  (.iload_n 1, (23, 1), (1, 0, 0), (0, 0), []),
  (.iaload, (24, 1), (0, 0, 0), (0, 0), []),
  (.istore_n 3, (25, 1), (3, 0, 0), (0, 0), []),
  (.aload_n 0, (26, 1), (0, 0, 0), (0, 0), []),
  (.getfield 9, (27, 3), (9, 0, 2), (0, 0), []),
  (.iload_n 1, (30, 1), (1, 0, 0), (0, 0), []),
  (.iload_n 2, (31, 1), (2, 0, 0), (0, 0), []),
  (.iastore, (32, 1), (0, 0, 0), (0, 0), []),
  (.iload_n 3, (33, 1), (3, 0, 0), (0, 0), []),
  (.ireturn, (34, 1), (0, 0, 0), (0, 0), [])]
def mm_r146 : List (List mm_R) := [mm_r146_0]
/-- 147: GlobeCornerModel.isNeed(I)Z -/
def mm_r147_0 : List mm_R := [
  (.iload_n 0, (0, 1), (0, 0, 0), (0, 0), []),
  (.iconst 0, (1, 1), (0, 0, 0), (0, 0), []),
  (.bipush 99, (2, 2), (0, 0, 0), (99, 0), []),
  (.invokestatic 114, (4, 3), (128, 3, 0), (0, 0), []),
  (.ireturn, (7, 1), (1, 0, 0), (0, 0), [])]
def mm_r147 : List (List mm_R) := [mm_r147_0]
/-- 148: GlobeCornerModel.spin(I)I -/
def mm_r148_0 : List mm_R := [
  (.iload_n 1, (0, 1), (1, 0, 0), (0, 0), []),
  (.iconst 0, (1, 1), (0, 0, 0), (0, 0), []),
  (.bipush 11, (2, 2), (0, 0, 0), (11, 0), []),
  (.invokestatic 114, (4, 3), (128, 3, 0), (0, 0), []),
  (.ifCond .ne 6, (7, 3), (0, 7, 0), (0, 0), []),
  (.bipush (-2), (10, 2), (0, 0, 0), ((-2), 0), []),
  (.ireturn, (12, 1), (0, 0, 0), (0, 0), []),
  (.aload_n 0, (13, 1), (0, 0, 0), (0, 0), []),
  (.iload_n 1, (14, 1), (1, 0, 0), (0, 0), []),
  (.invokevirtual 144, (15, 3), (149, 2, 1), (0, 0), []),
  (.aload_n 0, (18, 1), (0, 0, 0), (0, 0), []),
  (.invokevirtual 148, (19, 3), (150, 1, 1), (0, 0), []),
  (.ireturn, (22, 1), (0, 0, 0), (0, 0), [])]
def mm_r148 : List (List mm_R) := [mm_r148_0]
/-- 149: GlobeCornerModel.spins(I)V -/
def mm_r149_0 : List mm_R := [
  (.iconst 0, (0, 1), (0, 0, 0), (0, 0), []),
  (.istore_n 2, (1, 1), (2, 0, 0), (0, 0), []),
  (.iload_n 2, (2, 1), (2, 0, 0), (0, 0), []),
  (.aload_n 0, (3, 1), (0, 0, 0), (0, 0), []),
  (.getfield 111, (4, 3), (9, 1, 0), (0, 0), []),
  (.if_icmp .ge 37, (7, 3), (0, 26, 0), (0, 0), []),
  (.aload_n 0, (10, 1), (0, 0, 0), (0, 0), []),
  (.getfield 21, (11, 3), (9, 4, 2), (0, 0), []),
  (.iload_n 2, (14, 1), (2, 0, 0), (0, 0), []),
  (.iaload, (15, 1), (0, 0, 0), (0, 0), []),
  (.bipush (-5), (16, 2), (0, 0, 0), ((-5), 0), []),
  (.if_icmp .eq 20, (18, 3), (0, 24, 0), (0, 0), []),
  (.aload_n 0, (21, 1), (0, 0, 0), (0, 0), []),
  (.getfield 21, (22, 3), (9, 4, 2), (0, 0), []),
  (.iload_n 2, (25, 1), (2, 0, 0), (0, 0), []),
  (.aload_n 0, (26, 1), (0, 0, 0), (0, 0), []),
  (.getfield 21, (27, 3), (9, 4, 2), (0, 0), []),
  (.iload_n 2, (30, 1), (2, 0, 0), (0, 0), []),
  (.iaload, (31, 1), (0, 0, 0), (0, 0), []),
  (.iload_n 1, (32, 1), (1, 0, 0), (0, 0), []),
  (.iadd, (33, 1), (0, 0, 0), (0, 0), []),
  (.bipush 12, (34, 2), (0, 0, 0), (12, 0), []),
  (.irem, (36, 1), (0, 0, 0), (0, 0), []),
  (.iastore, (37, 1), (0, 0, 0), (0, 0), []),
  (.iinc 2 1, (38, 3), (2, 0, 0), (1, 0), []),
  (.goto (-39), (41, 3), (0, 2, 0), (0, 0), []),
  (.return_, (44, 1), (0, 0, 0), (0, 0), [])]
def mm_r149 : List (List mm_R) := [mm_r149_0]
/-- 150: GlobeCornerModel.onSome()I -/
def mm_r150_0 : List mm_R := [
  (.iconst 0, (0, 1), (0, 0, 0), (0, 0), []),
  (.istore_n 1, (1, 1), (1, 0, 0), (0, 0), []),
  (.iconst 0, (2, 1), (0, 0, 0), (0, 0), []),
  (.istore_n 2, (3, 1), (2, 0, 0), (0, 0), []),
  (.iload_n 2, (4, 1), (2, 0, 0), (0, 0), []),
  (.aload_n 0, (5, 1), (0, 0, 0), (0, 0), []),
  (.getfield 111, (6, 3), (9, 1, 0), (0, 0), []),
  (.if_icmp .ge 23, (9, 3), (0, 17, 0), (0, 0), []),
  (.aload_n 0, (12, 1), (0, 0, 0), (0, 0), []),
  (.getfield 21, (13, 3), (9, 4, 2), (0, 0), []),
  (.iload_n 2, (16, 1), (2, 0, 0), (0, 0), []),
  (.iaload, (17, 1), (0, 0, 0), (0, 0), []),
  (.bipush (-5), (18, 2), (0, 0, 0), ((-5), 0), []),
  (.if_icmp .eq 6, (20, 3), (0, 15, 0), (0, 0), []),
  (.iinc 1 1, (23, 3), (1, 0, 0), (1, 0), []),
  (.iinc 2 1, (26, 3), (2, 0, 0), (1, 0), []),
  (.goto (-25), (29, 3), (0, 4, 0), (0, 0), []),
  (.iload_n 1, (32, 1), (1, 0, 0), (0, 0), []),
  (.ireturn, (33, 1), (0, 0, 0), (0, 0), [])]
def mm_r150 : List (List mm_R) := [mm_r150_0]
/-- 151: GlobeCornerModel.bell()I -/
def mm_r151_0 : List mm_R := [
  (.aload_n 0, (0, 1), (0, 0, 0), (0, 0), []),
  (.invokevirtual 148, (1, 3), (150, 1, 1), (0, 0), []),
  (.istore_n 1, (4, 1), (1, 0, 0), (0, 0), []),
  (.iconst 0, (5, 1), (0, 0, 0), (0, 0), []),
  (.istore_n 2, (6, 1), (2, 0, 0), (0, 0), []),
  (.iload_n 2, (7, 1), (2, 0, 0), (0, 0), []),
  (.aload_n 0, (8, 1), (0, 0, 0), (0, 0), []),
  (.getfield 111, (9, 3), (9, 1, 0), (0, 0), []),
  (.if_icmp .ge 17, (12, 3), (0, 16, 0), (0, 0), []),
  (.aload_n 0, (15, 1), (0, 0, 0), (0, 0), []),
  (.getfield 21, (16, 3), (9, 4, 2), (0, 0), []),
  (.iload_n 2, (19, 1), (2, 0, 0), (0, 0), []),
  (.bipush (-5), (20, 2), (0, 0, 0), ((-5), 0), []),
  (.iastore, (22, 1), (0, 0, 0), (0, 0), []),
  (.iinc 2 1, (23, 3), (2, 0, 0), (1, 0), []),
  (.goto (-19), (26, 3), (0, 5, 0), (0, 0), []),
  (.iload_n 1, (29, 1), (1, 0, 0), (0, 0), []),
  (.ireturn, (30, 1), (0, 0, 0), (0, 0), [])]
def mm_r151 : List (List mm_R) := [mm_r151_0]
/-- 152: GlobeCornerModel.row(III)I -/
def mm_r152_0 : List mm_R := [
  (.aload_n 0, (0, 1), (0, 0, 0), (0, 0), []),
  (.iload_n 1, (1, 1), (1, 0, 0), (0, 0), []),
  (.invokevirtual 118, (2, 3), (130, 2, 1), (0, 0), []),
  (.ifCond .eq 12, (5, 3), (0, 9, 0), (0, 0), []),
  (.iload_n 2, (8, 1), (2, 0, 0), (0, 0), []),
  (.iconst 0, (9, 1), (0, 0, 0), (0, 0), []),
  (.iconst 3, (10, 1), (0, 0, 0), (3, 0), []),
  (.invokestatic 114, (11, 3), (128, 3, 0), (0, 0), []),
  (.ifCond .ne 5, (14, 3), (0, 11, 0), (0, 0), []),
  (.iconst (-1), (17, 1), (0, 0, 0), ((-1), 0), []),
  (.ireturn, (18, 1), (0, 0, 0), (0, 0), []),
  (.iload_n 3, (19, 1), (3, 0, 0), (0, 0), []),
  (.iconst 0, (20, 1), (0, 0, 0), (0, 0), []),
  (.bipush 9, (21, 2), (0, 0, 0), (9, 0), []),
  (.invokestatic 114, (23, 3), (128, 3, 0), (0, 0), []),
  (.ifCond .ne 6, (26, 3), (0, 18, 0), (0, 0), []),
  (.bipush (-2), (29, 2), (0, 0, 0), ((-2), 0), []),
  (.ireturn, (31, 1), (0, 0, 0), (0, 0), []),
  (.aload_n 0, (32, 1), (0, 0, 0), (0, 0), []),
  (.getfield 15, (33, 3), (9, 2, 2), (0, 0), []),
  (.iload_n 1, (36, 1), (1, 0, 0), (0, 0), []),
  (.iaload, (37, 1), (0, 0, 0), (0, 0), []),
  (.bipush 6, (38, 2), (0, 0, 0), (6, 0), []),
  (.if_icmp .eq 6, (40, 3), (0, 26, 0), (0, 0), []),
  (.bipush (-3), (43, 2), (0, 0, 0), ((-3), 0), []),
  (.ireturn, (45, 1), (0, 0, 0), (0, 0), []),
  (.aload_n 0, (46, 1), (0, 0, 0), (0, 0), []),
  (.getfield 27, (47, 3), (9, 6, 2), (0, 0), []),
  (.iconst 4, (50, 1), (0, 0, 0), (4, 0), []),
  (.iload_n 1, (51, 1), (1, 0, 0), (0, 0), []),
  (.imul, (52, 1), (0, 0, 0), (0, 0), []),
  (.iload_n 2, (53, 1), (2, 0, 0), (0, 0), [])]
def mm_r152_1 : List mm_R := [
  (.iadd, (54, 1), (0, 0, 0), (0, 0), []),
  (.iaload, (55, 1), (0, 0, 0), (0, 0), []),
  (.istore 4, (56, 2), (4, 0, 0), (0, 0), []),
  (.aload_n 0, (58, 1), (0, 0, 0), (0, 0), []),
  (.getfield 27, (59, 3), (9, 6, 2), (0, 0), []),
  (.iconst 4, (62, 1), (0, 0, 0), (4, 0), []),
  (.iload_n 1, (63, 1), (1, 0, 0), (0, 0), []),
  (.imul, (64, 1), (0, 0, 0), (0, 0), []),
  (.iload_n 2, (65, 1), (2, 0, 0), (0, 0), []),
  (.iadd, (66, 1), (0, 0, 0), (0, 0), []),
  (.iload_n 3, (67, 1), (3, 0, 0), (0, 0), []),
  (.iastore, (68, 1), (0, 0, 0), (0, 0), []),
  (.iload 4, (69, 2), (4, 0, 0), (0, 0), []),
  (.ireturn, (71, 1), (0, 0, 0), (0, 0), [])]
def mm_r152 : List (List mm_R) := [mm_r152_0, mm_r152_1]
/-- 153: GlobeCornerModel.feed(I)I -/
def mm_r153_0 : List mm_R := [
  (.iload_n 1, (0, 1), (1, 0, 0), (0, 0), []),
  (.iconst 0, (1, 1), (0, 0, 0), (0, 0), []),
  (.bipush 127, (2, 2), (0, 0, 0), (127, 0), []),
  (.invokestatic 114, (4, 3), (128, 3, 0), (0, 0), []),
  (.ifCond .ne 6, (7, 3), (0, 7, 0), (0, 0), []),
  (.bipush (-2), (10, 2), (0, 0, 0), ((-2), 0), []),
  (.ireturn, (12, 1), (0, 0, 0), (0, 0), []),
  (.aload_n 0, (13, 1), (0, 0, 0), (0, 0), []),
  (.getfield 152, (14, 3), (9, 8, 0), (0, 0), []),
  (.bipush 100, (17, 2), (0, 0, 0), (100, 0), []),
  (.if_icmp .ne 6, (19, 3), (0, 13, 0), (0, 0), []),
  (.bipush (-4), (22, 2), (0, 0, 0), ((-4), 0), []),
  (.ireturn, (24, 1), (0, 0, 0), (0, 0), []),
  (.aload_n 0, (25, 1), (0, 0, 0), (0, 0), []),
  (.getfield 30, (26, 3), (9, 9, 2), (0, 0), []),
  (.aload_n 0, (29, 1), (0, 0, 0), (0, 0), []),
  (.dup, (30, 1), (0, 0, 0), (0, 0), []),
  (.getfield 152, (31, 3), (9, 8, 0), (0, 0), []),
  (.dup_x1, (34, 1), (0, 0, 0), (0, 0), []),
  (.iconst 1, (35, 1), (0, 0, 0), (1, 0), []),
  (.iadd, (36, 1), (0, 0, 0), (0, 0), []),
  (.putfield 152, (37, 3), (9, 8, 0), (0, 0), []),
  (.iload_n 1, (40, 1), (1, 0, 0), (0, 0), []),
  (.iastore, (41, 1), (0, 0, 0), (0, 0), []),
  (.aload_n 0, (42, 1), (0, 0, 0), (0, 0), []),
  (.getfield 152, (43, 3), (9, 8, 0), (0, 0), []),
  (.ireturn, (46, 1), (0, 0, 0), (0, 0), [])]
def mm_r153 : List (List mm_R) := [mm_r153_0]
/-- 154: GlobeCornerModel.school()I -/
def mm_r154_0 : List mm_R := [
  (.aload_n 0, (0, 1), (0, 0, 0), (0, 0), []),
  (.getfield 223, (1, 3), (9, 14, 0), (0, 0), []),
  (.bipush 6, (4, 2), (0, 0, 0), (6, 0), []),
  (.if_icmp .ne 6, (6, 3), (0, 6, 0), (0, 0), []),
  (.bipush (-4), (9, 2), (0, 0, 0), ((-4), 0), []),
  (.ireturn, (11, 1), (0, 0, 0), (0, 0), []),
  (.aload_n 0, (12, 1), (0, 0, 0), (0, 0), []),
  (.getfield 179, (13, 3), (9, 22, 0), (0, 0), []),
  (.istore_n 1, (16, 1), (1, 0, 0), (0, 0), []),
  (.aload_n 0, (17, 1), (0, 0, 0), (0, 0), []),
  (.iconst 0, (18, 1), (0, 0, 0), (0, 0), []),
  (.putfield 155, (19, 3), (9, 10, 0), (0, 0), []),
  (.iconst 0, (22, 1), (0, 0, 0), (0, 0), []),
  (.istore_n 2, (23, 1), (2, 0, 0), (0, 0), []),
  (.iconst 1, (24, 1), (0, 0, 0), (1, 0), []),
  (.istore_n 3, (25, 1), (3, 0, 0), (0, 0), []),
  (.iconst 0, (26, 1), (0, 0, 0), (0, 0), []),
  (.istore 4, (27, 2), (4, 0, 0), (0, 0), []),
  (.iload_n 3, (29, 1), (3, 0, 0), (0, 0), []),
  (.ifCond .eq 93, (30, 3), (0, 65, 0), (0, 0), []),
  (.iload 4, (33, 2), (4, 0, 0), (0, 0), []),
  (.ifCond .ne 88, (35, 3), (0, 65, 0), (0, 0), []),
  (.iload_n 2, (38, 1), (2, 0, 0), (0, 0), []),
  (.bipush 10, (39, 2), (0, 0, 0), (10, 0), []),
  (.if_icmp .ge 23, (41, 3), (0, 36, 0), (0, 0), []),
  (.aload_n 0, (44, 1), (0, 0, 0), (0, 0), []),
  (.bipush 10, (45, 2), (0, 0, 0), (10, 0), []),
  (.aload_n 0, (47, 1), (0, 0, 0), (0, 0), []),
  (.getfield 223, (48, 3), (9, 14, 0), (0, 0), []),
  (.imul, (51, 1), (0, 0, 0), (0, 0), []),
  (.iload_n 2, (52, 1), (2, 0, 0), (0, 0), []),
  (.iadd, (53, 1), (0, 0, 0), (0, 0), [])]
def mm_r154_1 : List mm_R := [
  (.invokevirtual 226, (54, 3), (155, 2, 1), (0, 0), []),
  (.ifCond .eq 7, (57, 3), (0, 36, 0), (0, 0), []),
  (.iconst 1, (60, 1), (0, 0, 0), (1, 0), []),
  (.goto 4, (61, 3), (0, 37, 0), (0, 0), []),
  (.iconst 0, (64, 1), (0, 0, 0), (0, 0), []),
  (.istore_n 3, (65, 1), (3, 0, 0), (0, 0), []),
  (.iload_n 3, (66, 1), (3, 0, 0), (0, 0), []),
  (.ifCond .ne 6, (67, 3), (0, 41, 0), (0, 0), []),
  (.goto (-41), (70, 3), (0, 18, 0), (0, 0), []),
  (.iinc 2 1, (73, 3), (2, 0, 0), (1, 0), []),
  (.aload_n 0, (76, 1), (0, 0, 0), (0, 0), []),
  (.getfield 155, (77, 3), (9, 10, 0), (0, 0), []),
  (.aload_n 0, (80, 1), (0, 0, 0), (0, 0), []),
  (.getfield 152, (81, 3), (9, 8, 0), (0, 0), []),
  (.if_icmp .ne 7, (84, 3), (0, 49, 0), (0, 0), []),
  (.iconst 1, (87, 1), (0, 0, 0), (1, 0), []),
  (.goto 4, (88, 3), (0, 50, 0), (0, 0), []),
  (.iconst 0, (91, 1), (0, 0, 0), (0, 0), []),
  (.istore 4, (92, 2), (4, 0, 0), (0, 0), []),
  (.iload 4, (94, 2), (4, 0, 0), (0, 0), []),
  (.ifCond .ne 18, (96, 3), (0, 60, 0), (0, 0), []),
  (.iload_n 2, (99, 1), (2, 0, 0), (0, 0), []),
  (.bipush 10, (100, 2), (0, 0, 0), (10, 0), []),
  (.if_icmp .ge 16, (102, 3), (0, 62, 0), (0, 0), []),
  (.aload_n 0, (105, 1), (0, 0, 0), (0, 0), []),
  (.bipush 59, (106, 2), (0, 0, 0), (59, 0), []),
  (.invokevirtual 176, (108, 3), (157, 2, 1), (0, 0), []),
  (.ifCond .eq 7, (111, 3), (0, 62, 0), (0, 0), []),
  (.iconst 1, (114, 1), (0, 0, 0), (1, 0), []),
  (.goto 4, (115, 3), (0, 63, 0), (0, 0), []),
  (.iconst 0, (118, 1), (0, 0, 0), (0, 0), []),
  (.istore_n 3, (119, 1), (3, 0, 0), (0, 0), [])]
def mm_r154_2 : List mm_R := [
  (.goto (-91), (120, 3), (0, 18, 0), (0, 0), []),
  (.aload_n 0, (123, 1), (0, 0, 0), (0, 0), []),
  (.iconst 0, (124, 1), (0, 0, 0), (0, 0), []),
  (.putfield 152, (125, 3), (9, 8, 0), (0, 0), []),
  (.iload 4, (128, 2), (4, 0, 0), (0, 0), []),
  (.ifCond .ne 16, (130, 3), (0, 78, 0), (0, 0), []),
  (.aload_n 0, (133, 1), (0, 0, 0), (0, 0), []),
  (.iload_n 1, (134, 1), (1, 0, 0), (0, 0), []),
  (.putfield 179, (135, 3), (9, 22, 0), (0, 0), []),
  (.bipush (-10), (138, 2), (0, 0, 0), ((-10), 0), []),
  (.aload_n 0, (140, 1), (0, 0, 0), (0, 0), []),
  (.getfield 155, (141, 3), (9, 10, 0), (0, 0), []),
  (.isub, (144, 1), (0, 0, 0), (0, 0), []),
  (.ireturn, (145, 1), (0, 0, 0), (0, 0), []),
  (.aload_n 0, (146, 1), (0, 0, 0), (0, 0), []),
  (.getfield 33, (147, 3), (9, 16, 2), (0, 0), []),
  (.aload_n 0, (150, 1), (0, 0, 0), (0, 0), []),
  (.getfield 223, (151, 3), (9, 14, 0), (0, 0), []),
  (.iload_n 2, (154, 1), (2, 0, 0), (0, 0), []),
  (.iastore, (155, 1), (0, 0, 0), (0, 0), []),
  (.aload_n 0, (156, 1), (0, 0, 0), (0, 0), []),
  (.aload_n 0, (157, 1), (0, 0, 0), (0, 0), []),
  (.getfield 223, (158, 3), (9, 14, 0), (0, 0), []),
  (.putfield 107, (161, 3), (9, 15, 0), (0, 0), []),
  (.aload_n 0, (164, 1), (0, 0, 0), (0, 0), []),
  (.dup, (165, 1), (0, 0, 0), (0, 0), []),
  (.getfield 223, (166, 3), (9, 14, 0), (0, 0), []),
  (.dup_x1, (169, 1), (0, 0, 0), (0, 0), []),
  (.iconst 1, (170, 1), (0, 0, 0), (1, 0), []),
  (.iadd, (171, 1), (0, 0, 0), (0, 0), []),
  (.putfield 223, (172, 3), (9, 14, 0), (0, 0), []),
  (.ireturn, (175, 1), (0, 0, 0), (0, 0), [])]
def mm_r154 : List (List mm_R) := [mm_r154_0, mm_r154_1, mm_r154_2]
/-- 155: GlobeCornerModel.isClause(I)Z -/
def mm_r155_0 : List mm_R := [
  (.iconst (-1), (0, 1), (0, 0, 0), ((-1), 0), []),
  (.istore_n 2, (1, 1), (2, 0, 0), (0, 0), []),
  (.aload_n 0, (2, 1), (0, 0, 0), (0, 0), []),
  (.getfield 155, (3, 3), (9, 10, 0), (0, 0), []),
  (.aload_n 0, (6, 1), (0, 0, 0), (0, 0), []),
  (.getfield 152, (7, 3), (9, 8, 0), (0, 0), []),
  (.if_icmp .ge 59, (10, 3), (0, 36, 0), (0, 0), []),
  (.aload_n 0, (13, 1), (0, 0, 0), (0, 0), []),
  (.getfield 30, (14, 3), (9, 9, 2), (0, 0), []),
  (.aload_n 0, (17, 1), (0, 0, 0), (0, 0), []),
  (.getfield 155, (18, 3), (9, 10, 0), (0, 0), []),
  (.iaload, (21, 1), (0, 0, 0), (0, 0), []),
  (.bipush 109, (22, 2), (0, 0, 0), (109, 0), []),
  (.if_icmp .ne 7, (24, 3), (0, 16, 0), (0, 0), []),
  (.iconst 0, (27, 1), (0, 0, 0), (0, 0), []),
  (.goto 40, (28, 3), (0, 35, 0), (0, 0), []),
  (.aload_n 0, (31, 1), (0, 0, 0), (0, 0), []),
  (.getfield 30, (32, 3), (9, 9, 2), (0, 0), []),
  (.aload_n 0, (35, 1), (0, 0, 0), (0, 0), []),
  (.getfield 155, (36, 3), (9, 10, 0), (0, 0), []),
  (.iaload, (39, 1), (0, 0, 0), (0, 0), []),
  (.bipush 108, (40, 2), (0, 0, 0), (108, 0), []),
  (.if_icmp .ne 7, (42, 3), (0, 25, 0), (0, 0), []),
  (.iconst 1, (45, 1), (0, 0, 0), (1, 0), []),
  (.goto 22, (46, 3), (0, 35, 0), (0, 0), []),
  (.aload_n 0, (49, 1), (0, 0, 0), (0, 0), []),
  (.getfield 30, (50, 3), (9, 9, 2), (0, 0), []),
  (.aload_n 0, (53, 1), (0, 0, 0), (0, 0), []),
  (.getfield 155, (54, 3), (9, 10, 0), (0, 0), []),
  (.iaload, (57, 1), (0, 0, 0), (0, 0), []),
  (.bipush 103, (58, 2), (0, 0, 0), (103, 0), []),
  (.if_icmp .ne 7, (60, 3), (0, 34, 0), (0, 0), [])]
def mm_r155_1 : List mm_R := [
  (.iconst 2, (63, 1), (0, 0, 0), (2, 0), []),
  (.goto 4, (64, 3), (0, 35, 0), (0, 0), []),
  (.iconst (-1), (67, 1), (0, 0, 0), ((-1), 0), []),
  (.istore_n 2, (68, 1), (2, 0, 0), (0, 0), []),
  (.iload_n 2, (69, 1), (2, 0, 0), (0, 0), []),
  (.ifCond .ne 12, (70, 3), (0, 42, 0), (0, 0), []),
  (.aload_n 0, (73, 1), (0, 0, 0), (0, 0), []),
  (.ldc 213, (74, 2), (3, 0, 1), (0, 0), []),
  (.invokevirtual 215, (76, 3), (156, 2, 1), (0, 0), []),
  (.goto 36, (79, 3), (0, 59, 0), (0, 0), []),
  (.iload_n 2, (82, 1), (2, 0, 0), (0, 0), []),
  (.iconst 1, (83, 1), (0, 0, 0), (1, 0), []),
  (.if_icmp .ne 12, (84, 3), (0, 49, 0), (0, 0), []),
  (.aload_n 0, (87, 1), (0, 0, 0), (0, 0), []),
  (.ldc 219, (88, 2), (4, 0, 1), (0, 0), []),
  (.invokevirtual 215, (90, 3), (156, 2, 1), (0, 0), []),
  (.goto 22, (93, 3), (0, 59, 0), (0, 0), []),
  (.iload_n 2, (96, 1), (2, 0, 0), (0, 0), []),
  (.iconst 2, (97, 1), (0, 0, 0), (2, 0), []),
  (.if_icmp .ne 16, (98, 3), (0, 58, 0), (0, 0), []),
  (.aload_n 0, (101, 1), (0, 0, 0), (0, 0), []),
  (.ldc 221, (102, 2), (5, 0, 1), (0, 0), []),
  (.invokevirtual 215, (104, 3), (156, 2, 1), (0, 0), []),
  (.ifCond .eq 7, (107, 3), (0, 58, 0), (0, 0), []),
  (.iconst 1, (110, 1), (0, 0, 0), (1, 0), []),
  (.goto 4, (111, 3), (0, 59, 0), (0, 0), []),
  (.iconst 0, (114, 1), (0, 0, 0), (0, 0), []),
  (.istore_n 3, (115, 1), (3, 0, 0), (0, 0), []),
  (.iload_n 3, (116, 1), (3, 0, 0), (0, 0), []),
  (.ifCond .eq 10, (117, 3), (0, 65, 0), (0, 0), []),
  (.aload_n 0, (120, 1), (0, 0, 0), (0, 0), []),
  (.invokevirtual 189, (121, 3), (158, 1, 1), (0, 0), [])]
def mm_r155_2 : List mm_R := [
  (.ifCond .ne 5, (124, 3), (0, 67, 0), (0, 0), []),
  (.iconst 0, (127, 1), (0, 0, 0), (0, 0), []),
  (.ireturn, (128, 1), (1, 0, 0), (0, 0), []),
  (.aload_n 0, (129, 1), (0, 0, 0), (0, 0), []),
  (.getfield 36, (130, 3), (9, 17, 2), (0, 0), []),
  (.iload_n 1, (133, 1), (1, 0, 0), (0, 0), []),
  (.iload_n 2, (134, 1), (2, 0, 0), (0, 0), []),
  (.iastore, (135, 1), (0, 0, 0), (0, 0), []),
  (.aload_n 0, (136, 1), (0, 0, 0), (0, 0), []),
  (.getfield 39, (137, 3), (9, 18, 2), (0, 0), []),
  (.iload_n 1, (140, 1), (1, 0, 0), (0, 0), []),
  (.aload_n 0, (141, 1), (0, 0, 0), (0, 0), []),
  (.getfield 158, (142, 3), (9, 11, 0), (0, 0), []),
  (.iastore, (145, 1), (0, 0, 0), (0, 0), []),
  (.aload_n 0, (146, 1), (0, 0, 0), (0, 0), []),
  (.getfield 42, (147, 3), (9, 19, 2), (0, 0), []),
  (.iload_n 1, (150, 1), (1, 0, 0), (0, 0), []),
  (.aload_n 0, (151, 1), (0, 0, 0), (0, 0), []),
  (.getfield 179, (152, 3), (9, 22, 0), (0, 0), []),
  (.iastore, (155, 1), (0, 0, 0), (0, 0), []),
  (.aload_n 0, (156, 1), (0, 0, 0), (0, 0), []),
  (.iconst 0, (157, 1), (0, 0, 0), (0, 0), []),
  (.putfield 195, (158, 3), (9, 13, 0), (0, 0), []),
  (.iload_n 2, (161, 1), (2, 0, 0), (0, 0), []),
  (.iconst 2, (162, 1), (0, 0, 0), (2, 0), []),
  (.if_icmp .ge 21, (163, 3), (0, 99, 0), (0, 0), []),
  (.aload_n 0, (166, 1), (0, 0, 0), (0, 0), []),
  (.bipush 32, (167, 2), (0, 0, 0), (32, 0), []),
  (.invokevirtual 176, (169, 3), (157, 2, 1), (0, 0), []),
  (.ifCond .eq 10, (172, 3), (0, 97, 0), (0, 0), []),
  (.aload_n 0, (175, 1), (0, 0, 0), (0, 0), []),
  (.invokevirtual 204, (176, 3), (160, 1, 1), (0, 0), [])]
def mm_r155_3 : List mm_R := [
  (.ifCond .ne 5, (179, 3), (0, 99, 0), (0, 0), []),
  (.iconst 0, (182, 1), (0, 0, 0), (0, 0), []),
  (.ireturn, (183, 1), (1, 0, 0), (0, 0), []),
  (.aload_n 0, (184, 1), (0, 0, 0), (0, 0), []),
  (.getfield 45, (185, 3), (9, 20, 2), (0, 0), []),
  (.iload_n 1, (188, 1), (1, 0, 0), (0, 0), []),
  (.aload_n 0, (189, 1), (0, 0, 0), (0, 0), []),
  (.getfield 179, (190, 3), (9, 22, 0), (0, 0), []),
  (.aload_n 0, (193, 1), (0, 0, 0), (0, 0), []),
  (.getfield 42, (194, 3), (9, 19, 2), (0, 0), []),
  (.iload_n 1, (197, 1), (1, 0, 0), (0, 0), []),
  (.iaload, (198, 1), (0, 0, 0), (0, 0), []),
  (.isub, (199, 1), (0, 0, 0), (0, 0), []),
  (.iastore, (200, 1), (0, 0, 0), (0, 0), []),
  (.iconst 1, (201, 1), (0, 0, 0), (1, 0), []),
  (.ireturn, (202, 1), (1, 0, 0), (0, 0), [])]
def mm_r155 : List (List mm_R) := [mm_r155_0, mm_r155_1, mm_r155_2, mm_r155_3]
/-- 156: GlobeCornerModel.isAll(Ljava/lang/String;)Z -/
def mm_r156_0 : List mm_R := [
  (.iconst 0, (0, 1), (0, 0, 0), (0, 0), []),
  (.istore_n 2, (1, 1), (2, 0, 0), (0, 0), []),
  (.iload_n 2, (2, 1), (2, 0, 0), (0, 0), []),
  (.aload_n 1, (3, 1), (1, 0, 0), (0, 0), []),
  (.invokevirtual 168, (4, 3), (6, 1, 1), (0, 0), []),
  (.if_icmp .ge 23, (7, 3), (0, 16, 0), (0, 0), []),
  (.aload_n 0, (10, 1), (0, 0, 0), (0, 0), []),
  (.aload_n 1, (11, 1), (1, 0, 0), (0, 0), []),
  (.iload_n 2, (12, 1), (2, 0, 0), (0, 0), []),
  (.invokevirtual 172, (13, 3), (8, 2, 1), (0, 0), []),
  (.invokevirtual 176, (16, 3), (157, 2, 1), (0, 0), []),
  (.ifCond .ne 5, (19, 3), (0, 14, 0), (0, 0), []),
  (.iconst 0, (22, 1), (0, 0, 0), (0, 0), []),
  (.ireturn, (23, 1), (1, 0, 0), (0, 0), []),
  (.iinc 2 1, (24, 3), (2, 0, 0), (1, 0), []),
  (.goto (-25), (27, 3), (0, 2, 0), (0, 0), []),
  (.iconst 1, (30, 1), (0, 0, 0), (1, 0), []),
  (.ireturn, (31, 1), (1, 0, 0), (0, 0), [])]
def mm_r156 : List (List mm_R) := [mm_r156_0]
/-- 157: GlobeCornerModel.is(I)Z -/
def mm_r157_0 : List mm_R := [
  (.aload_n 0, (0, 1), (0, 0, 0), (0, 0), []),
  (.getfield 155, (1, 3), (9, 10, 0), (0, 0), []),
  (.aload_n 0, (4, 1), (0, 0, 0), (0, 0), []),
  (.getfield 152, (5, 3), (9, 8, 0), (0, 0), []),
  (.if_icmp .eq 16, (8, 3), (0, 12, 0), (0, 0), []),
  (.aload_n 0, (11, 1), (0, 0, 0), (0, 0), []),
  (.getfield 30, (12, 3), (9, 9, 2), (0, 0), []),
  (.aload_n 0, (15, 1), (0, 0, 0), (0, 0), []),
  (.getfield 155, (16, 3), (9, 10, 0), (0, 0), []),
  (.iaload, (19, 1), (0, 0, 0), (0, 0), []),
  (.iload_n 1, (20, 1), (1, 0, 0), (0, 0), []),
  (.if_icmp .eq 5, (21, 3), (0, 14, 0), (0, 0), []),
  (.iconst 0, (24, 1), (0, 0, 0), (0, 0), []),
  (.ireturn, (25, 1), (1, 0, 0), (0, 0), []),
  (.aload_n 0, (26, 1), (0, 0, 0), (0, 0), []),
  (.dup, (27, 1), (0, 0, 0), (0, 0), []),
  (.getfield 155, (28, 3), (9, 10, 0), (0, 0), []),
  (.iconst 1, (31, 1), (0, 0, 0), (1, 0), []),
  (.iadd, (32, 1), (0, 0, 0), (0, 0), []),
  (.putfield 155, (33, 3), (9, 10, 0), (0, 0), []),
  (.iconst 1, (36, 1), (0, 0, 0), (1, 0), []),
  (.ireturn, (37, 1), (1, 0, 0), (0, 0), [])]
def mm_r157 : List (List mm_R) := [mm_r157_0]
/-- 158: GlobeCornerModel.isNumber()Z -/
def mm_r158_0 : List mm_R := [
  (.aload_n 0, (0, 1), (0, 0, 0), (0, 0), []),
  (.iconst 0, (1, 1), (0, 0, 0), (0, 0), []),
  (.putfield 158, (2, 3), (9, 11, 0), (0, 0), []),
  (.aload_n 0, (5, 1), (0, 0, 0), (0, 0), []),
  (.iconst 0, (6, 1), (0, 0, 0), (0, 0), []),
  (.putfield 161, (7, 3), (9, 12, 0), (0, 0), []),
  (.aload_n 0, (10, 1), (0, 0, 0), (0, 0), []),
  (.getfield 161, (11, 3), (9, 12, 0), (0, 0), []),
  (.iconst 2, (14, 1), (0, 0, 0), (2, 0), []),
  (.if_icmp .ge 57, (15, 3), (0, 40, 0), (0, 0), []),
  (.aload_n 0, (18, 1), (0, 0, 0), (0, 0), []),
  (.invokevirtual 164, (19, 3), (159, 1, 1), (0, 0), []),
  (.ifCond .eq 50, (22, 3), (0, 40, 0), (0, 0), []),
  (.aload_n 0, (25, 1), (0, 0, 0), (0, 0), []),
  (.bipush 10, (26, 2), (0, 0, 0), (10, 0), []),
  (.aload_n 0, (28, 1), (0, 0, 0), (0, 0), []),
  (.getfield 158, (29, 3), (9, 11, 0), (0, 0), []),
  (.imul, (32, 1), (0, 0, 0), (0, 0), []),
  (.aload_n 0, (33, 1), (0, 0, 0), (0, 0), []),
  (.getfield 30, (34, 3), (9, 9, 2), (0, 0), []),
  (.aload_n 0, (37, 1), (0, 0, 0), (0, 0), []),
  (.getfield 155, (38, 3), (9, 10, 0), (0, 0), []),
  (.iaload, (41, 1), (0, 0, 0), (0, 0), []),
  (.iadd, (42, 1), (0, 0, 0), (0, 0), []),
  (.bipush 48, (43, 2), (0, 0, 0), (48, 0), []),
  (.isub, (45, 1), (0, 0, 0), (0, 0), []),
  (.putfield 158, (46, 3), (9, 11, 0), (0, 0), []),
  (.aload_n 0, (49, 1), (0, 0, 0), (0, 0), []),
  (.dup, (50, 1), (0, 0, 0), (0, 0), []),
  (.getfield 155, (51, 3), (9, 10, 0), (0, 0), []),
  (.iconst 1, (54, 1), (0, 0, 0), (1, 0), []),
  (.iadd, (55, 1), (0, 0, 0), (0, 0), [])]
def mm_r158_1 : List mm_R := [
  (.putfield 155, (56, 3), (9, 10, 0), (0, 0), []),
  (.aload_n 0, (59, 1), (0, 0, 0), (0, 0), []),
  (.dup, (60, 1), (0, 0, 0), (0, 0), []),
  (.getfield 161, (61, 3), (9, 12, 0), (0, 0), []),
  (.iconst 1, (64, 1), (0, 0, 0), (1, 0), []),
  (.iadd, (65, 1), (0, 0, 0), (0, 0), []),
  (.putfield 161, (66, 3), (9, 12, 0), (0, 0), []),
  (.goto (-59), (69, 3), (0, 6, 0), (0, 0), []),
  (.aload_n 0, (72, 1), (0, 0, 0), (0, 0), []),
  (.getfield 161, (73, 3), (9, 12, 0), (0, 0), []),
  (.ifCond .le 7, (76, 3), (0, 45, 0), (0, 0), []),
  (.iconst 1, (79, 1), (0, 0, 0), (1, 0), []),
  (.goto 4, (80, 3), (0, 46, 0), (0, 0), []),
  (.iconst 0, (83, 1), (0, 0, 0), (0, 0), []),
  (.ireturn, (84, 1), (1, 0, 0), (0, 0), [])]
def mm_r158 : List (List mm_R) := [mm_r158_0, mm_r158_1]
/-- 159: GlobeCornerModel.isDigit()Z -/
def mm_r159_0 : List mm_R := [
  (.aload_n 0, (0, 1), (0, 0, 0), (0, 0), []),
  (.getfield 155, (1, 3), (9, 10, 0), (0, 0), []),
  (.aload_n 0, (4, 1), (0, 0, 0), (0, 0), []),
  (.getfield 152, (5, 3), (9, 8, 0), (0, 0), []),
  (.if_icmp .ge 35, (8, 3), (0, 21, 0), (0, 0), []),
  (.aload_n 0, (11, 1), (0, 0, 0), (0, 0), []),
  (.getfield 30, (12, 3), (9, 9, 2), (0, 0), []),
  (.aload_n 0, (15, 1), (0, 0, 0), (0, 0), []),
  (.getfield 155, (16, 3), (9, 10, 0), (0, 0), []),
  (.iaload, (19, 1), (0, 0, 0), (0, 0), []),
  (.bipush 48, (20, 2), (0, 0, 0), (48, 0), []),
  (.if_icmp .lt 21, (22, 3), (0, 21, 0), (0, 0), []),
  (.aload_n 0, (25, 1), (0, 0, 0), (0, 0), []),
  (.getfield 30, (26, 3), (9, 9, 2), (0, 0), []),
  (.aload_n 0, (29, 1), (0, 0, 0), (0, 0), []),
  (.getfield 155, (30, 3), (9, 10, 0), (0, 0), []),
  (.iaload, (33, 1), (0, 0, 0), (0, 0), []),
  (.bipush 57, (34, 2), (0, 0, 0), (57, 0), []),
  (.if_icmp .gt 7, (36, 3), (0, 21, 0), (0, 0), []),
  (.iconst 1, (39, 1), (0, 0, 0), (1, 0), []),
  (.goto 4, (40, 3), (0, 22, 0), (0, 0), []),
  (.iconst 0, (43, 1), (0, 0, 0), (0, 0), []),
  (.ireturn, (44, 1), (1, 0, 0), (0, 0), [])]
def mm_r159 : List (List mm_R) := [mm_r159_0]
/-- 160: GlobeCornerModel.isE()Z -/
def mm_r160_0 : List mm_R := [
  (.aload_n 0, (0, 1), (0, 0, 0), (0, 0), []),
  (.invokevirtual 210, (1, 3), (161, 1, 1), (0, 0), []),
  (.ifCond .ne 5, (4, 3), (0, 5, 0), (0, 0), []),
  (.iconst 0, (7, 1), (0, 0, 0), (0, 0), []),
  (.ireturn, (8, 1), (1, 0, 0), (0, 0), []),
  (.aload_n 0, (9, 1), (0, 0, 0), (0, 0), []),
  (.bipush 124, (10, 2), (0, 0, 0), (124, 0), []),
  (.invokevirtual 176, (12, 3), (157, 2, 1), (0, 0), []),
  (.ifCond .eq 20, (15, 3), (0, 18, 0), (0, 0), []),
  (.aload_n 0, (18, 1), (0, 0, 0), (0, 0), []),
  (.invokevirtual 210, (19, 3), (161, 1, 1), (0, 0), []),
  (.ifCond .eq 11, (22, 3), (0, 16, 0), (0, 0), []),
  (.aload_n 0, (25, 1), (0, 0, 0), (0, 0), []),
  (.iconst 2, (26, 1), (0, 0, 0), (2, 0), []),
  (.invokevirtual 192, (27, 3), (164, 2, 1), (0, 0), []),
  (.ifCond .ne (-21), (30, 3), (0, 5, 0), (0, 0), []),
  (.iconst 0, (33, 1), (0, 0, 0), (0, 0), []),
  (.ireturn, (34, 1), (1, 0, 0), (0, 0), []),
  (.iconst 1, (35, 1), (0, 0, 0), (1, 0), []),
  (.ireturn, (36, 1), (1, 0, 0), (0, 0), [])]
def mm_r160 : List (List mm_R) := [mm_r160_0]
/-- 161: GlobeCornerModel.isT()Z -/
def mm_r161_0 : List mm_R := [
  (.aload_n 0, (0, 1), (0, 0, 0), (0, 0), []),
  (.invokevirtual 201, (1, 3), (162, 1, 1), (0, 0), []),
  (.ifCond .ne 5, (4, 3), (0, 5, 0), (0, 0), []),
  (.iconst 0, (7, 1), (0, 0, 0), (0, 0), []),
  (.ireturn, (8, 1), (1, 0, 0), (0, 0), []),
  (.aload_n 0, (9, 1), (0, 0, 0), (0, 0), []),
  (.bipush 38, (10, 2), (0, 0, 0), (38, 0), []),
  (.invokevirtual 176, (12, 3), (157, 2, 1), (0, 0), []),
  (.ifCond .eq 20, (15, 3), (0, 18, 0), (0, 0), []),
  (.aload_n 0, (18, 1), (0, 0, 0), (0, 0), []),
  (.invokevirtual 201, (19, 3), (162, 1, 1), (0, 0), []),
  (.ifCond .eq 11, (22, 3), (0, 16, 0), (0, 0), []),
  (.aload_n 0, (25, 1), (0, 0, 0), (0, 0), []),
  (.iconst 1, (26, 1), (0, 0, 0), (1, 0), []),
  (.invokevirtual 192, (27, 3), (164, 2, 1), (0, 0), []),
  (.ifCond .ne (-21), (30, 3), (0, 5, 0), (0, 0), []),
  (.iconst 0, (33, 1), (0, 0, 0), (0, 0), []),
  (.ireturn, (34, 1), (1, 0, 0), (0, 0), []),
  (.iconst 1, (35, 1), (0, 0, 0), (1, 0), []),
  (.ireturn, (36, 1), (1, 0, 0), (0, 0), [])]
def mm_r161 : List (List mm_R) := [mm_r161_0]
/-- 162: GlobeCornerModel.isF()Z -/
def mm_r162_0 : List mm_R := [
  (.aload_n 0, (0, 1), (0, 0, 0), (0, 0), []),
  (.bipush 33, (1, 2), (0, 0, 0), (33, 0), []),
  (.invokevirtual 198, (3, 3), (163, 2, 1), (0, 0), []),
  (.ifCond .eq 27, (6, 3), (0, 16, 0), (0, 0), []),
  (.aload_n 0, (9, 1), (0, 0, 0), (0, 0), []),
  (.invokevirtual 201, (10, 3), (162, 1, 1), (0, 0), []),
  (.ifCond .eq 15, (13, 3), (0, 13, 0), (0, 0), []),
  (.aload_n 0, (16, 1), (0, 0, 0), (0, 0), []),
  (.iconst 0, (17, 1), (0, 0, 0), (0, 0), []),
  (.invokevirtual 192, (18, 3), (164, 2, 1), (0, 0), []),
  (.ifCond .eq 7, (21, 3), (0, 13, 0), (0, 0), []),
  (.iconst 1, (24, 1), (0, 0, 0), (1, 0), []),
  (.goto 4, (25, 3), (0, 14, 0), (0, 0), []),
  (.iconst 0, (28, 1), (0, 0, 0), (0, 0), []),
  (.istore_n 1, (29, 1), (1, 0, 0), (0, 0), []),
  (.goto 42, (30, 3), (0, 35, 0), (0, 0), []),
  (.aload_n 0, (33, 1), (0, 0, 0), (0, 0), []),
  (.bipush 40, (34, 2), (0, 0, 0), (40, 0), []),
  (.invokevirtual 198, (36, 3), (163, 2, 1), (0, 0), []),
  (.ifCond .eq 28, (39, 3), (0, 32, 0), (0, 0), []),
  (.aload_n 0, (42, 1), (0, 0, 0), (0, 0), []),
  (.invokevirtual 204, (43, 3), (160, 1, 1), (0, 0), []),
  (.ifCond .eq 16, (46, 3), (0, 29, 0), (0, 0), []),
  (.aload_n 0, (49, 1), (0, 0, 0), (0, 0), []),
  (.bipush 41, (50, 2), (0, 0, 0), (41, 0), []),
  (.invokevirtual 176, (52, 3), (157, 2, 1), (0, 0), []),
  (.ifCond .eq 7, (55, 3), (0, 29, 0), (0, 0), []),
  (.iconst 1, (58, 1), (0, 0, 0), (1, 0), []),
  (.goto 4, (59, 3), (0, 30, 0), (0, 0), []),
  (.iconst 0, (62, 1), (0, 0, 0), (0, 0), []),
  (.istore_n 1, (63, 1), (1, 0, 0), (0, 0), []),
  (.goto 8, (64, 3), (0, 35, 0), (0, 0), [])]
def mm_r162_1 : List mm_R := [
  (.aload_n 0, (67, 1), (0, 0, 0), (0, 0), []),
  (.invokevirtual 207, (68, 3), (165, 1, 1), (0, 0), []),
  (.ireturn, (71, 1), (1, 0, 0), (0, 0), []),
  (.aload_n 0, (72, 1), (0, 0, 0), (0, 0), []),
  (.dup, (73, 1), (0, 0, 0), (0, 0), []),
  (.getfield 195, (74, 3), (9, 13, 0), (0, 0), []),
  (.iconst 1, (77, 1), (0, 0, 0), (1, 0), []),
  (.isub, (78, 1), (0, 0, 0), (0, 0), []),
  (.putfield 195, (79, 3), (9, 13, 0), (0, 0), []),
  (.iload_n 1, (82, 1), (1, 0, 0), (0, 0), []),
  (.ireturn, (83, 1), (1, 0, 0), (0, 0), [])]
def mm_r162 : List (List mm_R) := [mm_r162_0, mm_r162_1]
/-- 163: GlobeCornerModel.isOpened(I)Z -/
def mm_r163_0 : List mm_R := [
  (.aload_n 0, (0, 1), (0, 0, 0), (0, 0), []),
  (.getfield 195, (1, 3), (9, 13, 0), (0, 0), []),
  (.iconst 4, (4, 1), (0, 0, 0), (4, 0), []),
  (.if_icmp .eq 11, (5, 3), (0, 8, 0), (0, 0), []),
  (.aload_n 0, (8, 1), (0, 0, 0), (0, 0), []),
  (.iload_n 1, (9, 1), (1, 0, 0), (0, 0), []),
  (.invokevirtual 176, (10, 3), (157, 2, 1), (0, 0), []),
  (.ifCond .ne 5, (13, 3), (0, 10, 0), (0, 0), []),
  (.iconst 0, (16, 1), (0, 0, 0), (0, 0), []),
  (.ireturn, (17, 1), (1, 0, 0), (0, 0), []),
  (.aload_n 0, (18, 1), (0, 0, 0), (0, 0), []),
  (.dup, (19, 1), (0, 0, 0), (0, 0), []),
  (.getfield 195, (20, 3), (9, 13, 0), (0, 0), []),
  (.iconst 1, (23, 1), (0, 0, 0), (1, 0), []),
  (.iadd, (24, 1), (0, 0, 0), (0, 0), []),
  (.putfield 195, (25, 3), (9, 13, 0), (0, 0), []),
  (.iconst 1, (28, 1), (0, 0, 0), (1, 0), []),
  (.ireturn, (29, 1), (1, 0, 0), (0, 0), [])]
def mm_r163 : List (List mm_R) := [mm_r163_0]
/-- 164: GlobeCornerModel.codes(I)Z -/
def mm_r164_0 : List mm_R := [
  (.aload_n 0, (0, 1), (0, 0, 0), (0, 0), []),
  (.getfield 48, (1, 3), (9, 21, 2), (0, 0), []),
  (.aload_n 0, (4, 1), (0, 0, 0), (0, 0), []),
  (.dup, (5, 1), (0, 0, 0), (0, 0), []),
  (.getfield 179, (6, 3), (9, 22, 0), (0, 0), []),
  (.dup_x1, (9, 1), (0, 0, 0), (0, 0), []),
  (.iconst 1, (10, 1), (0, 0, 0), (1, 0), []),
  (.iadd, (11, 1), (0, 0, 0), (0, 0), []),
  (.putfield 179, (12, 3), (9, 22, 0), (0, 0), []),
  (.iload_n 1, (15, 1), (1, 0, 0), (0, 0), []),
  (.iastore, (16, 1), (0, 0, 0), (0, 0), []),
  (.iconst 1, (17, 1), (0, 0, 0), (1, 0), []),
  (.ireturn, (18, 1), (1, 0, 0), (0, 0), [])]
def mm_r164 : List (List mm_R) := [mm_r164_0]
/-- 165: GlobeCornerModel.isTest()Z -/
def mm_r165_0 : List mm_R := [
  (.aload_n 0, (0, 1), (0, 0, 0), (0, 0), []),
  (.getfield 155, (1, 3), (9, 10, 0), (0, 0), []),
  (.aload_n 0, (4, 1), (0, 0, 0), (0, 0), []),
  (.getfield 152, (5, 3), (9, 8, 0), (0, 0), []),
  (.if_icmp .ge 32, (8, 3), (0, 19, 0), (0, 0), []),
  (.aload_n 0, (11, 1), (0, 0, 0), (0, 0), []),
  (.getfield 30, (12, 3), (9, 9, 2), (0, 0), []),
  (.aload_n 0, (15, 1), (0, 0, 0), (0, 0), []),
  (.getfield 155, (16, 3), (9, 10, 0), (0, 0), []),
  (.iaload, (19, 1), (0, 0, 0), (0, 0), []),
  (.ifCond .le 20, (20, 3), (0, 19, 0), (0, 0), []),
  (.ldc 182, (23, 2), (6, 0, 1), (0, 0), []),
  (.aload_n 0, (25, 1), (0, 0, 0), (0, 0), []),
  (.getfield 30, (26, 3), (9, 9, 2), (0, 0), []),
  (.aload_n 0, (29, 1), (0, 0, 0), (0, 0), []),
  (.getfield 155, (30, 3), (9, 10, 0), (0, 0), []),
  (.iaload, (33, 1), (0, 0, 0), (0, 0), []),
  (.invokevirtual 184, (34, 3), (11, 2, 1), (0, 0), []),
  (.goto 4, (37, 3), (0, 20, 0), (0, 0), []),
  (.iconst (-1), (40, 1), (0, 0, 0), ((-1), 0), []),
  (.istore_n 1, (41, 1), (1, 0, 0), (0, 0), []),
  (.iload_n 1, (42, 1), (1, 0, 0), (0, 0), []),
  (.ifCond .ge 5, (43, 3), (0, 25, 0), (0, 0), []),
  (.iconst 0, (46, 1), (0, 0, 0), (0, 0), []),
  (.ireturn, (47, 1), (1, 0, 0), (0, 0), []),
  (.aload_n 0, (48, 1), (0, 0, 0), (0, 0), []),
  (.dup, (49, 1), (0, 0, 0), (0, 0), []),
  (.getfield 155, (50, 3), (9, 10, 0), (0, 0), []),
  (.iconst 1, (53, 1), (0, 0, 0), (1, 0), []),
  (.iadd, (54, 1), (0, 0, 0), (0, 0), []),
  (.putfield 155, (55, 3), (9, 10, 0), (0, 0), []),
  (.aload_n 0, (58, 1), (0, 0, 0), (0, 0), [])]
def mm_r165_1 : List mm_R := [
  (.getfield 155, (59, 3), (9, 10, 0), (0, 0), []),
  (.aload_n 0, (62, 1), (0, 0, 0), (0, 0), []),
  (.getfield 152, (63, 3), (9, 8, 0), (0, 0), []),
  (.if_icmp .ge 32, (66, 3), (0, 50, 0), (0, 0), []),
  (.aload_n 0, (69, 1), (0, 0, 0), (0, 0), []),
  (.getfield 30, (70, 3), (9, 9, 2), (0, 0), []),
  (.aload_n 0, (73, 1), (0, 0, 0), (0, 0), []),
  (.getfield 155, (74, 3), (9, 10, 0), (0, 0), []),
  (.iaload, (77, 1), (0, 0, 0), (0, 0), []),
  (.ifCond .le 20, (78, 3), (0, 50, 0), (0, 0), []),
  (.ldc 187, (81, 2), (7, 0, 1), (0, 0), []),
  (.aload_n 0, (83, 1), (0, 0, 0), (0, 0), []),
  (.getfield 30, (84, 3), (9, 9, 2), (0, 0), []),
  (.aload_n 0, (87, 1), (0, 0, 0), (0, 0), []),
  (.getfield 155, (88, 3), (9, 10, 0), (0, 0), []),
  (.iaload, (91, 1), (0, 0, 0), (0, 0), []),
  (.invokevirtual 184, (92, 3), (11, 2, 1), (0, 0), []),
  (.goto 4, (95, 3), (0, 51, 0), (0, 0), []),
  (.iconst (-1), (98, 1), (0, 0, 0), ((-1), 0), []),
  (.istore_n 2, (99, 1), (2, 0, 0), (0, 0), []),
  (.iload_n 2, (100, 1), (2, 0, 0), (0, 0), []),
  (.ifCond .ge 5, (101, 3), (0, 56, 0), (0, 0), []),
  (.iconst 0, (104, 1), (0, 0, 0), (0, 0), []),
  (.ireturn, (105, 1), (1, 0, 0), (0, 0), []),
  (.aload_n 0, (106, 1), (0, 0, 0), (0, 0), []),
  (.dup, (107, 1), (0, 0, 0), (0, 0), []),
  (.getfield 155, (108, 3), (9, 10, 0), (0, 0), []),
  (.iconst 1, (111, 1), (0, 0, 0), (1, 0), []),
  (.iadd, (112, 1), (0, 0, 0), (0, 0), []),
  (.putfield 155, (113, 3), (9, 10, 0), (0, 0), []),
  (.aload_n 0, (116, 1), (0, 0, 0), (0, 0), []),
  (.invokevirtual 189, (117, 3), (158, 1, 1), (0, 0), [])]
def mm_r165_2 : List mm_R := [
  (.ifCond .eq 31, (120, 3), (0, 82, 0), (0, 0), []),
  (.aload_n 0, (123, 1), (0, 0, 0), (0, 0), []),
  (.iconst 3, (124, 1), (0, 0, 0), (3, 0), []),
  (.sipush 300, (125, 3), (0, 0, 0), (300, 0), []),
  (.iload_n 1, (128, 1), (1, 0, 0), (0, 0), []),
  (.imul, (129, 1), (0, 0, 0), (0, 0), []),
  (.iadd, (130, 1), (0, 0, 0), (0, 0), []),
  (.bipush 100, (131, 2), (0, 0, 0), (100, 0), []),
  (.iload_n 2, (133, 1), (2, 0, 0), (0, 0), []),
  (.imul, (134, 1), (0, 0, 0), (0, 0), []),
  (.iadd, (135, 1), (0, 0, 0), (0, 0), []),
  (.aload_n 0, (136, 1), (0, 0, 0), (0, 0), []),
  (.getfield 158, (137, 3), (9, 11, 0), (0, 0), []),
  (.iadd, (140, 1), (0, 0, 0), (0, 0), []),
  (.invokevirtual 192, (141, 3), (164, 2, 1), (0, 0), []),
  (.ifCond .eq 7, (144, 3), (0, 82, 0), (0, 0), []),
  (.iconst 1, (147, 1), (0, 0, 0), (1, 0), []),
  (.goto 4, (148, 3), (0, 83, 0), (0, 0), []),
  (.iconst 0, (151, 1), (0, 0, 0), (0, 0), []),
  (.ireturn, (152, 1), (1, 0, 0), (0, 0), [])]
def mm_r165 : List (List mm_R) := [mm_r165_0, mm_r165_1, mm_r165_2]
/-- 166: GlobeCornerModel.told(I)I -/
def mm_r166_0 : List mm_R := [
  (.aload_n 0, (0, 1), (0, 0, 0), (0, 0), []),
  (.iload_n 1, (1, 1), (1, 0, 0), (0, 0), []),
  (.bipush 10, (2, 2), (0, 0, 0), (10, 0), []),
  (.isub, (4, 1), (0, 0, 0), (0, 0), []),
  (.invokevirtual 118, (5, 3), (130, 2, 1), (0, 0), []),
  (.ifCond .eq 17, (8, 3), (0, 15, 0), (0, 0), []),
  (.aload_n 0, (11, 1), (0, 0, 0), (0, 0), []),
  (.invokevirtual 253, (12, 3), (167, 1, 1), (0, 0), []),
  (.aload_n 0, (15, 1), (0, 0, 0), (0, 0), []),
  (.getfield 94, (16, 3), (9, 42, 2), (0, 0), []),
  (.iload_n 1, (19, 1), (1, 0, 0), (0, 0), []),
  (.bipush 10, (20, 2), (0, 0, 0), (10, 0), []),
  (.isub, (22, 1), (0, 0, 0), (0, 0), []),
  (.iaload, (23, 1), (0, 0, 0), (0, 0), []),
  (.ireturn, (24, 1), (0, 0, 0), (0, 0), []),
  (.iload_n 1, (25, 1), (1, 0, 0), (0, 0), []),
  (.tableswitch 63 0 4 #[34, 39, 44, 49, 54], (26, 34), (0, 34, 0), (0, 0), [(0, 17), (1, 20), (2, 23), (3, 26), (4, 29)]),
  (.aload_n 0, (60, 1), (0, 0, 0), (0, 0), []),
  (.getfield 229, (61, 3), (9, 7, 0), (0, 0), []),
  (.ireturn, (64, 1), (0, 0, 0), (0, 0), []),
  (.aload_n 0, (65, 1), (0, 0, 0), (0, 0), []),
  (.invokevirtual 247, (66, 3), (141, 1, 1), (0, 0), []),
  (.ireturn, (69, 1), (0, 0, 0), (0, 0), []),
  (.aload_n 0, (70, 1), (0, 0, 0), (0, 0), []),
  (.invokevirtual 256, (71, 3), (169, 1, 1), (0, 0), []),
  (.ireturn, (74, 1), (0, 0, 0), (0, 0), []),
  (.aload_n 0, (75, 1), (0, 0, 0), (0, 0), []),
  (.invokevirtual 259, (76, 3), (170, 1, 1), (0, 0), []),
  (.ireturn, (79, 1), (0, 0, 0), (0, 0), []),
  (.aload_n 0, (80, 1), (0, 0, 0), (0, 0), []),
  (.invokevirtual 253, (81, 3), (167, 1, 1), (0, 0), []),
  (.aload_n 0, (84, 1), (0, 0, 0), (0, 0), [])]
def mm_r166_1 : List mm_R := [
  (.getfield 262, (85, 3), (9, 43, 0), (0, 0), []),
  (.ireturn, (88, 1), (0, 0, 0), (0, 0), []),
  (.iconst (-1), (89, 1), (0, 0, 0), ((-1), 0), []),
  (.ireturn, (90, 1), (0, 0, 0), (0, 0), [])]
def mm_r166 : List (List mm_R) := [mm_r166_0, mm_r166_1]
/-- 167: GlobeCornerModel.posts()V -/
def mm_r167_0 : List mm_R := [
  (.iconst 0, (0, 1), (0, 0, 0), (0, 0), []),
  (.istore_n 1, (1, 1), (1, 0, 0), (0, 0), []),
  (.iload_n 1, (2, 1), (1, 0, 0), (0, 0), []),
  (.aload_n 0, (3, 1), (0, 0, 0), (0, 0), []),
  (.getfield 111, (4, 3), (9, 1, 0), (0, 0), []),
  (.if_icmp .ge 50, (7, 3), (0, 32, 0), (0, 0), []),
  (.iconst 0, (10, 1), (0, 0, 0), (0, 0), []),
  (.istore_n 2, (11, 1), (2, 0, 0), (0, 0), []),
  (.iload_n 2, (12, 1), (2, 0, 0), (0, 0), []),
  (.bipush 12, (13, 2), (0, 0, 0), (12, 0), []),
  (.if_icmp .ge 36, (15, 3), (0, 30, 0), (0, 0), []),
  (.aload_n 0, (18, 1), (0, 0, 0), (0, 0), []),
  (.getfield 88, (19, 3), (9, 40, 2), (0, 0), []),
  (.bipush 12, (22, 2), (0, 0, 0), (12, 0), []),
  (.iload_n 1, (24, 1), (1, 0, 0), (0, 0), []),
  (.imul, (25, 1), (0, 0, 0), (0, 0), []),
  (.iload_n 2, (26, 1), (2, 0, 0), (0, 0), []),
  (.iadd, (27, 1), (0, 0, 0), (0, 0), []),
  (.iconst 0, (28, 1), (0, 0, 0), (0, 0), []),
  (.bipush 99, (29, 2), (0, 0, 0), (99, 0), []),
  (.aload_n 0, (31, 1), (0, 0, 0), (0, 0), []),
  (.iload_n 1, (32, 1), (1, 0, 0), (0, 0), []),
  (.iload_n 2, (33, 1), (2, 0, 0), (0, 0), []),
  (.iconst 0, (34, 1), (0, 0, 0), (0, 0), []),
  (.invokevirtual 129, (35, 3), (133, 4, 1), (0, 0), []),
  (.invokestatic 242, (38, 3), (0, 0, 7), (0, 0), []),
  (.invokestatic 250, (41, 3), (0, 0, 6), (0, 0), []),
  (.iastore, (44, 1), (0, 0, 0), (0, 0), []),
  (.iinc 2 1, (45, 3), (2, 0, 0), (1, 0), []),
  (.goto (-36), (48, 3), (0, 8, 0), (0, 0), []),
  (.iinc 1 1, (51, 3), (1, 0, 0), (1, 0), []),
  (.goto (-52), (54, 3), (0, 2, 0), (0, 0), [])]
def mm_r167_1 : List mm_R := [
  (.aload_n 0, (57, 1), (0, 0, 0), (0, 0), []),
  (.iconst (-1), (58, 1), (0, 0, 0), ((-1), 0), []),
  (.putfield 262, (59, 3), (9, 43, 0), (0, 0), []),
  (.aload_n 0, (62, 1), (0, 0, 0), (0, 0), []),
  (.iconst 0, (63, 1), (0, 0, 0), (0, 0), []),
  (.iconst 0, (64, 1), (0, 0, 0), (0, 0), []),
  (.iconst 0, (65, 1), (0, 0, 0), (0, 0), []),
  (.invokevirtual 275, (66, 3), (168, 4, 1), (0, 0), []),
  (.return_, (69, 1), (0, 0, 0), (0, 0), [])]
def mm_r167 : List (List mm_R) := [mm_r167_0, mm_r167_1]
/-- 168: GlobeCornerModel.tries(III)V -/
def mm_r168_0 : List mm_R := [
  (.iload_n 1, (0, 1), (1, 0, 0), (0, 0), []),
  (.aload_n 0, (1, 1), (0, 0, 0), (0, 0), []),
  (.getfield 111, (2, 3), (9, 1, 0), (0, 0), []),
  (.if_icmp .ne 48, (5, 3), (0, 28, 0), (0, 0), []),
  (.iload_n 3, (8, 1), (3, 0, 0), (0, 0), []),
  (.aload_n 0, (9, 1), (0, 0, 0), (0, 0), []),
  (.getfield 262, (10, 3), (9, 43, 0), (0, 0), []),
  (.if_icmp .gt 4, (13, 3), (0, 9, 0), (0, 0), []),
  (.return_, (16, 1), (0, 0, 0), (0, 0), []),
  (.aload_n 0, (17, 1), (0, 0, 0), (0, 0), []),
  (.iload_n 3, (18, 1), (3, 0, 0), (0, 0), []),
  (.putfield 262, (19, 3), (9, 43, 0), (0, 0), []),
  (.iconst 0, (22, 1), (0, 0, 0), (0, 0), []),
  (.istore 4, (23, 2), (4, 0, 0), (0, 0), []),
  (.iload 4, (25, 2), (4, 0, 0), (0, 0), []),
  (.bipush 6, (27, 2), (0, 0, 0), (6, 0), []),
  (.if_icmp .ge 23, (29, 3), (0, 27, 0), (0, 0), []),
  (.aload_n 0, (32, 1), (0, 0, 0), (0, 0), []),
  (.getfield 94, (33, 3), (9, 42, 2), (0, 0), []),
  (.iload 4, (36, 2), (4, 0, 0), (0, 0), []),
  (.aload_n 0, (38, 1), (0, 0, 0), (0, 0), []),
  (.getfield 91, (39, 3), (9, 41, 2), (0, 0), []),
  (.iload 4, (42, 2), (4, 0, 0), (0, 0), []),
  (.iaload, (44, 1), (0, 0, 0), (0, 0), []),
  (.iastore, (45, 1), (0, 0, 0), (0, 0), []),
  (.iinc 4 1, (46, 3), (4, 0, 0), (1, 0), []),
  (.goto (-24), (49, 3), (0, 14, 0), (0, 0), []),
  (.return_, (52, 1), (0, 0, 0), (0, 0), []),
  (.iconst 0, (53, 1), (0, 0, 0), (0, 0), []),
  (.istore 4, (54, 2), (4, 0, 0), (0, 0), []),
  (.iload 4, (56, 2), (4, 0, 0), (0, 0), []),
  (.bipush 12, (58, 2), (0, 0, 0), (12, 0), [])]
def mm_r168_1 : List mm_R := [
  (.if_icmp .ge 57, (60, 3), (0, 68, 0), (0, 0), []),
  (.iload_n 2, (63, 1), (2, 0, 0), (0, 0), []),
  (.iload 4, (64, 2), (4, 0, 0), (0, 0), []),
  (.ishr, (66, 1), (0, 0, 0), (0, 0), []),
  (.iconst 1, (67, 1), (0, 0, 0), (1, 0), []),
  (.iand, (68, 1), (0, 0, 0), (0, 0), []),
  (.iconst 1, (69, 1), (0, 0, 0), (1, 0), []),
  (.if_icmp .ne 6, (70, 3), (0, 41, 0), (0, 0), []),
  (.goto 38, (73, 3), (0, 66, 0), (0, 0), []),
  (.aload_n 0, (76, 1), (0, 0, 0), (0, 0), []),
  (.getfield 91, (77, 3), (9, 41, 2), (0, 0), []),
  (.iload_n 1, (80, 1), (1, 0, 0), (0, 0), []),
  (.iload 4, (81, 2), (4, 0, 0), (0, 0), []),
  (.iastore, (83, 1), (0, 0, 0), (0, 0), []),
  (.aload_n 0, (84, 1), (0, 0, 0), (0, 0), []),
  (.iload_n 1, (85, 1), (1, 0, 0), (0, 0), []),
  (.iconst 1, (86, 1), (0, 0, 0), (1, 0), []),
  (.iadd, (87, 1), (0, 0, 0), (0, 0), []),
  (.iload_n 2, (88, 1), (2, 0, 0), (0, 0), []),
  (.iconst 1, (89, 1), (0, 0, 0), (1, 0), []),
  (.iload 4, (90, 2), (4, 0, 0), (0, 0), []),
  (.ishl, (92, 1), (0, 0, 0), (0, 0), []),
  (.ior, (93, 1), (0, 0, 0), (0, 0), []),
  (.iload_n 3, (94, 1), (3, 0, 0), (0, 0), []),
  (.aload_n 0, (95, 1), (0, 0, 0), (0, 0), []),
  (.getfield 88, (96, 3), (9, 40, 2), (0, 0), []),
  (.bipush 12, (99, 2), (0, 0, 0), (12, 0), []),
  (.iload_n 1, (101, 1), (1, 0, 0), (0, 0), []),
  (.imul, (102, 1), (0, 0, 0), (0, 0), []),
  (.iload 4, (103, 2), (4, 0, 0), (0, 0), []),
  (.iadd, (105, 1), (0, 0, 0), (0, 0), []),
  (.iaload, (106, 1), (0, 0, 0), (0, 0), [])]
def mm_r168_2 : List mm_R := [
  (.iadd, (107, 1), (0, 0, 0), (0, 0), []),
  (.invokevirtual 275, (108, 3), (168, 4, 1), (0, 0), []),
  (.iinc 4 1, (111, 3), (4, 0, 0), (1, 0), []),
  (.goto (-58), (114, 3), (0, 30, 0), (0, 0), []),
  (.return_, (117, 1), (0, 0, 0), (0, 0), [])]
def mm_r168 : List (List mm_R) := [mm_r168_0, mm_r168_1, mm_r168_2]
/-- 169: GlobeCornerModel.allNeed()I -/
def mm_r169_0 : List mm_R := [
  (.iconst 0, (0, 1), (0, 0, 0), (0, 0), []),
  (.istore_n 1, (1, 1), (1, 0, 0), (0, 0), []),
  (.iconst 0, (2, 1), (0, 0, 0), (0, 0), []),
  (.istore_n 2, (3, 1), (2, 0, 0), (0, 0), []),
  (.iload_n 2, (4, 1), (2, 0, 0), (0, 0), []),
  (.bipush 12, (5, 2), (0, 0, 0), (12, 0), []),
  (.if_icmp .ge 18, (7, 3), (0, 16, 0), (0, 0), []),
  (.iload_n 1, (10, 1), (1, 0, 0), (0, 0), []),
  (.aload_n 0, (11, 1), (0, 0, 0), (0, 0), []),
  (.getfield 9, (12, 3), (9, 0, 2), (0, 0), []),
  (.iload_n 2, (15, 1), (2, 0, 0), (0, 0), []),
  (.iaload, (16, 1), (0, 0, 0), (0, 0), []),
  (.iadd, (17, 1), (0, 0, 0), (0, 0), []),
  (.istore_n 1, (18, 1), (1, 0, 0), (0, 0), []),
  (.iinc 2 1, (19, 3), (2, 0, 0), (1, 0), []),
  (.goto (-18), (22, 3), (0, 4, 0), (0, 0), []),
  (.iload_n 1, (25, 1), (1, 0, 0), (0, 0), []),
  (.ireturn, (26, 1), (0, 0, 0), (0, 0), [])]
def mm_r169 : List (List mm_R) := [mm_r169_0]
/-- 170: GlobeCornerModel.allWell()I -/
def mm_r170_0 : List mm_R := [
  (.iconst 0, (0, 1), (0, 0, 0), (0, 0), []),
  (.istore_n 1, (1, 1), (1, 0, 0), (0, 0), []),
  (.iconst 0, (2, 1), (0, 0, 0), (0, 0), []),
  (.istore_n 2, (3, 1), (2, 0, 0), (0, 0), []),
  (.iload_n 2, (4, 1), (2, 0, 0), (0, 0), []),
  (.bipush 12, (5, 2), (0, 0, 0), (12, 0), []),
  (.if_icmp .ge 21, (7, 3), (0, 15, 0), (0, 0), []),
  (.aload_n 0, (10, 1), (0, 0, 0), (0, 0), []),
  (.getfield 9, (11, 3), (9, 0, 2), (0, 0), []),
  (.iload_n 2, (14, 1), (2, 0, 0), (0, 0), []),
  (.iaload, (15, 1), (0, 0, 0), (0, 0), []),
  (.ifCond .ne 6, (16, 3), (0, 13, 0), (0, 0), []),
  (.iinc 1 1, (19, 3), (1, 0, 0), (1, 0), []),
  (.iinc 2 1, (22, 3), (2, 0, 0), (1, 0), []),
  (.goto (-21), (25, 3), (0, 4, 0), (0, 0), []),
  (.iload_n 1, (28, 1), (1, 0, 0), (0, 0), []),
  (.ireturn, (29, 1), (0, 0, 0), (0, 0), [])]
def mm_r170 : List (List mm_R) := [mm_r170_0]
/-- 171: GlobeCornerModel.pass(I)I -/
def mm_r171_0 : List mm_R := [
  (.iload_n 1, (0, 1), (1, 0, 0), (0, 0), []),
  (.iconst 0, (1, 1), (0, 0, 0), (0, 0), []),
  (.bipush 60, (2, 2), (0, 0, 0), (60, 0), []),
  (.invokestatic 114, (4, 3), (128, 3, 0), (0, 0), []),
  (.ifCond .ne 6, (7, 3), (0, 7, 0), (0, 0), []),
  (.bipush (-2), (10, 2), (0, 0, 0), ((-2), 0), []),
  (.ireturn, (12, 1), (0, 0, 0), (0, 0), []),
  (.aload_n 0, (13, 1), (0, 0, 0), (0, 0), []),
  (.getfield 229, (14, 3), (9, 7, 0), (0, 0), []),
  (.iload_n 1, (17, 1), (1, 0, 0), (0, 0), []),
  (.iadd, (18, 1), (0, 0, 0), (0, 0), []),
  (.sipush 9999, (19, 3), (0, 0, 0), (9999, 0), []),
  (.if_icmp .le 6, (22, 3), (0, 15, 0), (0, 0), []),
  (.bipush (-3), (25, 2), (0, 0, 0), ((-3), 0), []),
  (.ireturn, (27, 1), (0, 0, 0), (0, 0), []),
  (.iconst 0, (28, 1), (0, 0, 0), (0, 0), []),
  (.istore_n 2, (29, 1), (2, 0, 0), (0, 0), []),
  (.iload_n 2, (30, 1), (2, 0, 0), (0, 0), []),
  (.iload_n 1, (31, 1), (1, 0, 0), (0, 0), []),
  (.if_icmp .ge 47, (32, 3), (0, 42, 0), (0, 0), []),
  (.aload_n 0, (35, 1), (0, 0, 0), (0, 0), []),
  (.invokevirtual 265, (36, 3), (140, 1, 1), (0, 0), []),
  (.iconst 0, (39, 1), (0, 0, 0), (0, 0), []),
  (.istore_n 3, (40, 1), (3, 0, 0), (0, 0), []),
  (.iload_n 3, (41, 1), (3, 0, 0), (0, 0), []),
  (.aload_n 0, (42, 1), (0, 0, 0), (0, 0), []),
  (.getfield 111, (43, 3), (9, 1, 0), (0, 0), []),
  (.if_icmp .ge 27, (46, 3), (0, 40, 0), (0, 0), []),
  (.aload_n 0, (49, 1), (0, 0, 0), (0, 0), []),
  (.getfield 24, (50, 3), (9, 5, 2), (0, 0), []),
  (.iload_n 3, (53, 1), (3, 0, 0), (0, 0), []),
  (.sipush 9999, (54, 3), (0, 0, 0), (9999, 0), [])]
def mm_r171_1 : List mm_R := [
  (.aload_n 0, (57, 1), (0, 0, 0), (0, 0), []),
  (.getfield 24, (58, 3), (9, 5, 2), (0, 0), []),
  (.iload_n 3, (61, 1), (3, 0, 0), (0, 0), []),
  (.iaload, (62, 1), (0, 0, 0), (0, 0), []),
  (.invokestatic 242, (63, 3), (0, 0, 7), (0, 0), []),
  (.iastore, (66, 1), (0, 0, 0), (0, 0), []),
  (.iinc 3 1, (67, 3), (3, 0, 0), (1, 0), []),
  (.goto (-29), (70, 3), (0, 24, 0), (0, 0), []),
  (.iinc 2 1, (73, 3), (2, 0, 0), (1, 0), []),
  (.goto (-46), (76, 3), (0, 17, 0), (0, 0), []),
  (.aload_n 0, (79, 1), (0, 0, 0), (0, 0), []),
  (.getfield 229, (80, 3), (9, 7, 0), (0, 0), []),
  (.ireturn, (83, 1), (0, 0, 0), (0, 0), [])]
def mm_r171 : List (List mm_R) := [mm_r171_0, mm_r171_1]
/-- 172: GlobeCornerModel.on(II)I -/
def mm_r172_0 : List mm_R := [
  (.iload_n 2, (0, 1), (2, 0, 0), (0, 0), []),
  (.iconst 0, (1, 1), (0, 0, 0), (0, 0), []),
  (.iconst 1, (2, 1), (0, 0, 0), (1, 0), []),
  (.invokestatic 114, (3, 3), (128, 3, 0), (0, 0), []),
  (.ifCond .ne 15, (6, 3), (0, 12, 0), (0, 0), []),
  (.iload_n 2, (9, 1), (2, 0, 0), (0, 0), []),
  (.bipush 10, (10, 2), (0, 0, 0), (10, 0), []),
  (.isub, (12, 1), (0, 0, 0), (0, 0), []),
  (.invokestatic 122, (13, 3), (131, 1, 0), (0, 0), []),
  (.ifCond .ne 5, (16, 3), (0, 12, 0), (0, 0), []),
  (.iconst (-1), (19, 1), (0, 0, 0), ((-1), 0), []),
  (.ireturn, (20, 1), (0, 0, 0), (0, 0), []),
  (.iload_n 1, (21, 1), (1, 0, 0), (0, 0), []),
  (.iconst 0, (22, 1), (0, 0, 0), (0, 0), []),
  (.bipush 60, (23, 2), (0, 0, 0), (60, 0), []),
  (.invokestatic 114, (25, 3), (128, 3, 0), (0, 0), []),
  (.ifCond .ne 6, (28, 3), (0, 19, 0), (0, 0), []),
  (.bipush (-2), (31, 2), (0, 0, 0), ((-2), 0), []),
  (.ireturn, (33, 1), (0, 0, 0), (0, 0), []),
  (.aload_n 0, (34, 1), (0, 0, 0), (0, 0), []),
  (.aload_n 0, (35, 1), (0, 0, 0), (0, 0), []),
  (.getfield 82, (36, 3), (9, 38, 2), (0, 0), []),
  (.invokevirtual 268, (39, 3), (139, 2, 1), (0, 0), []),
  (.iconst 0, (42, 1), (0, 0, 0), (0, 0), []),
  (.istore_n 3, (43, 1), (3, 0, 0), (0, 0), []),
  (.iload_n 3, (44, 1), (3, 0, 0), (0, 0), []),
  (.iload_n 1, (45, 1), (1, 0, 0), (0, 0), []),
  (.if_icmp .ge 13, (46, 3), (0, 32, 0), (0, 0), []),
  (.aload_n 0, (49, 1), (0, 0, 0), (0, 0), []),
  (.invokevirtual 265, (50, 3), (140, 1, 1), (0, 0), []),
  (.iinc 3 1, (53, 3), (3, 0, 0), (1, 0), []),
  (.goto (-12), (56, 3), (0, 25, 0), (0, 0), [])]
def mm_r172_1 : List mm_R := [
  (.iload_n 2, (59, 1), (2, 0, 0), (0, 0), []),
  (.ifCond .ne 10, (60, 3), (0, 37, 0), (0, 0), []),
  (.aload_n 0, (63, 1), (0, 0, 0), (0, 0), []),
  (.invokevirtual 256, (64, 3), (169, 1, 1), (0, 0), []),
  (.goto 24, (67, 3), (0, 49, 0), (0, 0), []),
  (.iload_n 2, (70, 1), (2, 0, 0), (0, 0), []),
  (.iconst 1, (71, 1), (0, 0, 0), (1, 0), []),
  (.if_icmp .ne 10, (72, 3), (0, 43, 0), (0, 0), []),
  (.aload_n 0, (75, 1), (0, 0, 0), (0, 0), []),
  (.invokevirtual 259, (76, 3), (170, 1, 1), (0, 0), []),
  (.goto 12, (79, 3), (0, 49, 0), (0, 0), []),
  (.aload_n 0, (82, 1), (0, 0, 0), (0, 0), []),
  (.getfield 9, (83, 3), (9, 0, 2), (0, 0), []),
  (.iload_n 2, (86, 1), (2, 0, 0), (0, 0), []),
  (.bipush 10, (87, 2), (0, 0, 0), (10, 0), []),
  (.isub, (89, 1), (0, 0, 0), (0, 0), []),
  (.iaload, (90, 1), (0, 0, 0), (0, 0), []),
  (.istore_n 3, (91, 1), (3, 0, 0), (0, 0), []),
  (.aload_n 0, (92, 1), (0, 0, 0), (0, 0), []),
  (.aload_n 0, (93, 1), (0, 0, 0), (0, 0), []),
  (.getfield 82, (94, 3), (9, 38, 2), (0, 0), []),
  (.invokevirtual 272, (97, 3), (142, 2, 1), (0, 0), []),
  (.iload_n 3, (100, 1), (3, 0, 0), (0, 0), []),
  (.ireturn, (101, 1), (0, 0, 0), (0, 0), [])]
def mm_r172 : List (List mm_R) := [mm_r172_0, mm_r172_1]
/-- 173: GlobeCornerModel.crowd(II)I -/
def mm_r173_0 : List mm_R := [
  (.iload_n 1, (0, 1), (1, 0, 0), (0, 0), []),
  (.invokestatic 122, (1, 3), (131, 1, 0), (0, 0), []),
  (.ifCond .ne 5, (4, 3), (0, 5, 0), (0, 0), []),
  (.iconst (-1), (7, 1), (0, 0, 0), ((-1), 0), []),
  (.ireturn, (8, 1), (0, 0, 0), (0, 0), []),
  (.iload_n 2, (9, 1), (2, 0, 0), (0, 0), []),
  (.iconst 1, (10, 1), (0, 0, 0), (1, 0), []),
  (.bipush 12, (11, 2), (0, 0, 0), (12, 0), []),
  (.invokestatic 114, (13, 3), (128, 3, 0), (0, 0), []),
  (.ifCond .ne 6, (16, 3), (0, 12, 0), (0, 0), []),
  (.bipush (-2), (19, 2), (0, 0, 0), ((-2), 0), []),
  (.ireturn, (21, 1), (0, 0, 0), (0, 0), []),
  (.bipush (-5), (22, 2), (0, 0, 0), ((-5), 0), []),
  (.istore_n 3, (24, 1), (3, 0, 0), (0, 0), []),
  (.iconst 0, (25, 1), (0, 0, 0), (0, 0), []),
  (.istore 4, (26, 2), (4, 0, 0), (0, 0), []),
  (.iload 4, (28, 2), (4, 0, 0), (0, 0), []),
  (.iconst 1, (30, 1), (0, 0, 0), (1, 0), []),
  (.aload_n 0, (31, 1), (0, 0, 0), (0, 0), []),
  (.getfield 111, (32, 3), (9, 1, 0), (0, 0), []),
  (.ishl, (35, 1), (0, 0, 0), (0, 0), []),
  (.if_icmp .ge 119, (36, 3), (0, 79, 0), (0, 0), []),
  (.iload_n 3, (39, 1), (3, 0, 0), (0, 0), []),
  (.bipush (-5), (40, 2), (0, 0, 0), ((-5), 0), []),
  (.if_icmp .eq 18, (42, 3), (0, 31, 0), (0, 0), []),
  (.iload 4, (45, 2), (4, 0, 0), (0, 0), []),
  (.invokestatic 279, (47, 3), (5, 1, 0), (0, 0), []),
  (.iload_n 3, (50, 1), (3, 0, 0), (0, 0), []),
  (.invokestatic 279, (51, 3), (5, 1, 0), (0, 0), []),
  (.if_icmp .lt 6, (54, 3), (0, 31, 0), (0, 0), []),
  (.goto 92, (57, 3), (0, 77, 0), (0, 0), []),
  (.aload_n 0, (60, 1), (0, 0, 0), (0, 0), [])]
def mm_r173_1 : List mm_R := [
  (.aload_n 0, (61, 1), (0, 0, 0), (0, 0), []),
  (.getfield 82, (62, 3), (9, 38, 2), (0, 0), []),
  (.invokevirtual 268, (65, 3), (139, 2, 1), (0, 0), []),
  (.iconst 0, (68, 1), (0, 0, 0), (0, 0), []),
  (.istore 5, (69, 2), (5, 0, 0), (0, 0), []),
  (.iload 5, (71, 2), (5, 0, 0), (0, 0), []),
  (.aload_n 0, (73, 1), (0, 0, 0), (0, 0), []),
  (.getfield 111, (74, 3), (9, 1, 0), (0, 0), []),
  (.if_icmp .ge 33, (77, 3), (0, 57, 0), (0, 0), []),
  (.aload_n 0, (80, 1), (0, 0, 0), (0, 0), []),
  (.getfield 21, (81, 3), (9, 4, 2), (0, 0), []),
  (.iload 5, (84, 2), (5, 0, 0), (0, 0), []),
  (.iload 4, (86, 2), (4, 0, 0), (0, 0), []),
  (.iload 5, (88, 2), (5, 0, 0), (0, 0), []),
  (.ishr, (90, 1), (0, 0, 0), (0, 0), []),
  (.iconst 1, (91, 1), (0, 0, 0), (1, 0), []),
  (.iand, (92, 1), (0, 0, 0), (0, 0), []),
  (.iconst 1, (93, 1), (0, 0, 0), (1, 0), []),
  (.if_icmp .ne 7, (94, 3), (0, 53, 0), (0, 0), []),
  (.iload_n 1, (97, 1), (1, 0, 0), (0, 0), []),
  (.goto 5, (98, 3), (0, 54, 0), (0, 0), []),
  (.bipush (-5), (101, 2), (0, 0, 0), ((-5), 0), []),
  (.iastore, (103, 1), (0, 0, 0), (0, 0), []),
  (.iinc 5 1, (104, 3), (5, 0, 0), (1, 0), []),
  (.goto (-36), (107, 3), (0, 37, 0), (0, 0), []),
  (.iconst 0, (110, 1), (0, 0, 0), (0, 0), []),
  (.istore 5, (111, 2), (5, 0, 0), (0, 0), []),
  (.iload 5, (113, 2), (5, 0, 0), (0, 0), []),
  (.iload_n 2, (115, 1), (2, 0, 0), (0, 0), []),
  (.if_icmp .ge 13, (116, 3), (0, 66, 0), (0, 0), []),
  (.aload_n 0, (119, 1), (0, 0, 0), (0, 0), []),
  (.invokevirtual 265, (120, 3), (140, 1, 1), (0, 0), [])]
def mm_r173_2 : List mm_R := [
  (.iinc 5 1, (123, 3), (5, 0, 0), (1, 0), []),
  (.goto (-13), (126, 3), (0, 59, 0), (0, 0), []),
  (.aload_n 0, (129, 1), (0, 0, 0), (0, 0), []),
  (.getfield 9, (130, 3), (9, 0, 2), (0, 0), []),
  (.iload_n 1, (133, 1), (1, 0, 0), (0, 0), []),
  (.iaload, (134, 1), (0, 0, 0), (0, 0), []),
  (.ifCond .ne 6, (135, 3), (0, 73, 0), (0, 0), []),
  (.iload 4, (138, 2), (4, 0, 0), (0, 0), []),
  (.istore_n 3, (140, 1), (3, 0, 0), (0, 0), []),
  (.aload_n 0, (141, 1), (0, 0, 0), (0, 0), []),
  (.aload_n 0, (142, 1), (0, 0, 0), (0, 0), []),
  (.getfield 82, (143, 3), (9, 38, 2), (0, 0), []),
  (.invokevirtual 272, (146, 3), (142, 2, 1), (0, 0), []),
  (.iinc 4 1, (149, 3), (4, 0, 0), (1, 0), []),
  (.goto (-124), (152, 3), (0, 16, 0), (0, 0), []),
  (.iload_n 3, (155, 1), (3, 0, 0), (0, 0), []),
  (.ireturn, (156, 1), (0, 0, 0), (0, 0), [])]
def mm_r173 : List (List mm_R) := [mm_r173_0, mm_r173_1, mm_r173_2]
/-- 174: GlobeCornerModel.turn(I)I -/
def mm_r174_0 : List mm_R := [
  (.iload_n 1, (0, 1), (1, 0, 0), (0, 0), []),
  (.iconst 1, (1, 1), (0, 0, 0), (1, 0), []),
  (.bipush 12, (2, 2), (0, 0, 0), (12, 0), []),
  (.invokestatic 114, (4, 3), (128, 3, 0), (0, 0), []),
  (.ifCond .ne 6, (7, 3), (0, 7, 0), (0, 0), []),
  (.bipush (-2), (10, 2), (0, 0, 0), ((-2), 0), []),
  (.ireturn, (12, 1), (0, 0, 0), (0, 0), []),
  (.iconst 0, (13, 1), (0, 0, 0), (0, 0), []),
  (.istore_n 2, (14, 1), (2, 0, 0), (0, 0), []),
  (.ldc_w 284, (15, 3), (0, 0, 0), (2147483647, 0), []),
  (.istore_n 3, (18, 1), (3, 0, 0), (0, 0), []),
  (.iconst 0, (19, 1), (0, 0, 0), (0, 0), []),
  (.istore 4, (20, 2), (4, 0, 0), (0, 0), []),
  (.iload 4, (22, 2), (4, 0, 0), (0, 0), []),
  (.bipush 12, (24, 2), (0, 0, 0), (12, 0), []),
  (.if_icmp .ge 71, (26, 3), (0, 49, 0), (0, 0), []),
  (.aload_n 0, (29, 1), (0, 0, 0), (0, 0), []),
  (.aload_n 0, (30, 1), (0, 0, 0), (0, 0), []),
  (.getfield 82, (31, 3), (9, 38, 2), (0, 0), []),
  (.invokevirtual 268, (34, 3), (139, 2, 1), (0, 0), []),
  (.aload_n 0, (37, 1), (0, 0, 0), (0, 0), []),
  (.iload 4, (38, 2), (4, 0, 0), (0, 0), []),
  (.invokevirtual 144, (40, 3), (149, 2, 1), (0, 0), []),
  (.iconst 0, (43, 1), (0, 0, 0), (0, 0), []),
  (.istore 5, (44, 2), (5, 0, 0), (0, 0), []),
  (.iload 5, (46, 2), (5, 0, 0), (0, 0), []),
  (.iload_n 1, (48, 1), (1, 0, 0), (0, 0), []),
  (.if_icmp .ge 13, (49, 3), (0, 32, 0), (0, 0), []),
  (.aload_n 0, (52, 1), (0, 0, 0), (0, 0), []),
  (.invokevirtual 265, (53, 3), (140, 1, 1), (0, 0), []),
  (.iinc 5 1, (56, 3), (5, 0, 0), (1, 0), []),
  (.goto (-13), (59, 3), (0, 25, 0), (0, 0), [])]
def mm_r174_1 : List mm_R := [
  (.aload_n 0, (62, 1), (0, 0, 0), (0, 0), []),
  (.invokevirtual 256, (63, 3), (169, 1, 1), (0, 0), []),
  (.istore 5, (66, 2), (5, 0, 0), (0, 0), []),
  (.aload_n 0, (68, 1), (0, 0, 0), (0, 0), []),
  (.aload_n 0, (69, 1), (0, 0, 0), (0, 0), []),
  (.getfield 82, (70, 3), (9, 38, 2), (0, 0), []),
  (.invokevirtual 272, (73, 3), (142, 2, 1), (0, 0), []),
  (.iload 5, (76, 2), (5, 0, 0), (0, 0), []),
  (.iload_n 3, (78, 1), (3, 0, 0), (0, 0), []),
  (.if_icmp .lt 6, (79, 3), (0, 43, 0), (0, 0), []),
  (.goto 9, (82, 3), (0, 47, 0), (0, 0), []),
  (.iload 5, (85, 2), (5, 0, 0), (0, 0), []),
  (.istore_n 3, (87, 1), (3, 0, 0), (0, 0), []),
  (.iload 4, (88, 2), (4, 0, 0), (0, 0), []),
  (.istore_n 2, (90, 1), (2, 0, 0), (0, 0), []),
  (.iinc 4 1, (91, 3), (4, 0, 0), (1, 0), []),
  (.goto (-72), (94, 3), (0, 13, 0), (0, 0), []),
  (.iload_n 2, (97, 1), (2, 0, 0), (0, 0), []),
  (.ireturn, (98, 1), (0, 0, 0), (0, 0), [])]
def mm_r174 : List (List mm_R) := [mm_r174_0, mm_r174_1]
/-- 175: GlobeCornerModel.see(III)I -/
def mm_r175_0 : List mm_R := [
  (.iload_n 1, (0, 1), (1, 0, 0), (0, 0), []),
  (.iconst (-1), (1, 1), (0, 0, 0), ((-1), 0), []),
  (.if_icmp .ne 10, (2, 3), (0, 8, 0), (0, 0), []),
  (.aload_n 0, (5, 1), (0, 0, 0), (0, 0), []),
  (.iconst 0, (6, 1), (0, 0, 0), (0, 0), []),
  (.putfield 285, (7, 3), (9, 24, 0), (0, 0), []),
  (.iconst 0, (10, 1), (0, 0, 0), (0, 0), []),
  (.ireturn, (11, 1), (0, 0, 0), (0, 0), []),
  (.iload_n 1, (12, 1), (1, 0, 0), (0, 0), []),
  (.invokestatic 122, (13, 3), (131, 1, 0), (0, 0), []),
  (.ifCond .ne 5, (16, 3), (0, 13, 0), (0, 0), []),
  (.iconst (-1), (19, 1), (0, 0, 0), ((-1), 0), []),
  (.ireturn, (20, 1), (0, 0, 0), (0, 0), []),
  (.iload_n 2, (21, 1), (2, 0, 0), (0, 0), []),
  (.iconst 0, (22, 1), (0, 0, 0), (0, 0), []),
  (.bipush 12, (23, 2), (0, 0, 0), (12, 0), []),
  (.invokestatic 114, (25, 3), (128, 3, 0), (0, 0), []),
  (.ifCond .eq 10, (28, 3), (0, 21, 0), (0, 0), []),
  (.iload_n 3, (31, 1), (3, 0, 0), (0, 0), []),
  (.invokestatic 141, (32, 3), (147, 1, 0), (0, 0), []),
  (.ifCond .ne 6, (35, 3), (0, 23, 0), (0, 0), []),
  (.bipush (-2), (38, 2), (0, 0, 0), ((-2), 0), []),
  (.ireturn, (40, 1), (0, 0, 0), (0, 0), []),
  (.aload_n 0, (41, 1), (0, 0, 0), (0, 0), []),
  (.getfield 285, (42, 3), (9, 24, 0), (0, 0), []),
  (.iconst 5, (45, 1), (0, 0, 0), (5, 0), []),
  (.if_icmp .ne 6, (46, 3), (0, 29, 0), (0, 0), []),
  (.bipush (-4), (49, 2), (0, 0, 0), ((-4), 0), []),
  (.ireturn, (51, 1), (0, 0, 0), (0, 0), []),
  (.aload_n 0, (52, 1), (0, 0, 0), (0, 0), []),
  (.getfield 55, (53, 3), (9, 25, 2), (0, 0), []),
  (.aload_n 0, (56, 1), (0, 0, 0), (0, 0), [])]
def mm_r175_1 : List mm_R := [
  (.getfield 285, (57, 3), (9, 24, 0), (0, 0), []),
  (.iload_n 1, (60, 1), (1, 0, 0), (0, 0), []),
  (.iastore, (61, 1), (0, 0, 0), (0, 0), []),
  (.aload_n 0, (62, 1), (0, 0, 0), (0, 0), []),
  (.getfield 58, (63, 3), (9, 26, 2), (0, 0), []),
  (.aload_n 0, (66, 1), (0, 0, 0), (0, 0), []),
  (.getfield 285, (67, 3), (9, 24, 0), (0, 0), []),
  (.iload_n 2, (70, 1), (2, 0, 0), (0, 0), []),
  (.iastore, (71, 1), (0, 0, 0), (0, 0), []),
  (.aload_n 0, (72, 1), (0, 0, 0), (0, 0), []),
  (.getfield 61, (73, 3), (9, 27, 2), (0, 0), []),
  (.aload_n 0, (76, 1), (0, 0, 0), (0, 0), []),
  (.dup, (77, 1), (0, 0, 0), (0, 0), []),
  (.getfield 285, (78, 3), (9, 24, 0), (0, 0), []),
  (.dup_x1, (81, 1), (0, 0, 0), (0, 0), []),
  (.iconst 1, (82, 1), (0, 0, 0), (1, 0), []),
  (.iadd, (83, 1), (0, 0, 0), (0, 0), []),
  (.putfield 285, (84, 3), (9, 24, 0), (0, 0), []),
  (.iload_n 3, (87, 1), (3, 0, 0), (0, 0), []),
  (.iastore, (88, 1), (0, 0, 0), (0, 0), []),
  (.aload_n 0, (89, 1), (0, 0, 0), (0, 0), []),
  (.getfield 285, (90, 3), (9, 24, 0), (0, 0), []),
  (.ireturn, (93, 1), (0, 0, 0), (0, 0), [])]
def mm_r175 : List (List mm_R) := [mm_r175_0, mm_r175_1]
/-- 176: GlobeCornerModel.can(II)I -/
def mm_r176_0 : List mm_R := [
  (.aload_n 0, (0, 1), (0, 0, 0), (0, 0), []),
  (.iload_n 1, (1, 1), (1, 0, 0), (0, 0), []),
  (.invokevirtual 118, (2, 3), (130, 2, 1), (0, 0), []),
  (.ifCond .eq 12, (5, 3), (0, 9, 0), (0, 0), []),
  (.iload_n 2, (8, 1), (2, 0, 0), (0, 0), []),
  (.iconst 0, (9, 1), (0, 0, 0), (0, 0), []),
  (.iconst 1, (10, 1), (0, 0, 0), (1, 0), []),
  (.invokestatic 114, (11, 3), (128, 3, 0), (0, 0), []),
  (.ifCond .ne 5, (14, 3), (0, 11, 0), (0, 0), []),
  (.iconst (-1), (17, 1), (0, 0, 0), ((-1), 0), []),
  (.ireturn, (18, 1), (0, 0, 0), (0, 0), []),
  (.aload_n 0, (19, 1), (0, 0, 0), (0, 0), []),
  (.getfield 18, (20, 3), (9, 3, 2), (0, 0), []),
  (.iload_n 1, (23, 1), (1, 0, 0), (0, 0), []),
  (.iaload, (24, 1), (0, 0, 0), (0, 0), []),
  (.istore_n 3, (25, 1), (3, 0, 0), (0, 0), []),
  (.iconst 0, (26, 1), (0, 0, 0), (0, 0), []),
  (.istore 4, (27, 2), (4, 0, 0), (0, 0), []),
  (.bipush (-5), (29, 2), (0, 0, 0), ((-5), 0), []),
  (.istore 5, (31, 2), (5, 0, 0), (0, 0), []),
  (.bipush 9, (33, 2), (0, 0, 0), (9, 0), []),
  (.istore 6, (35, 2), (6, 0, 0), (0, 0), []),
  (.iload 6, (37, 2), (6, 0, 0), (0, 0), []),
  (.ifCond .lt 34, (39, 3), (0, 38, 0), (0, 0), []),
  (.aload_n 0, (42, 1), (0, 0, 0), (0, 0), []),
  (.getfield 18, (43, 3), (9, 3, 2), (0, 0), []),
  (.iload_n 1, (46, 1), (1, 0, 0), (0, 0), []),
  (.iload 6, (47, 2), (6, 0, 0), (0, 0), []),
  (.iastore, (49, 1), (0, 0, 0), (0, 0), []),
  (.aload_n 0, (50, 1), (0, 0, 0), (0, 0), []),
  (.invokevirtual 288, (51, 3), (144, 1, 1), (0, 0), []),
  (.ifCond .ne 6, (54, 3), (0, 33, 0), (0, 0), [])]
def mm_r176_1 : List mm_R := [
  (.goto 10, (57, 3), (0, 36, 0), (0, 0), []),
  (.iinc 4 1, (60, 3), (4, 0, 0), (1, 0), []),
  (.iload 6, (63, 2), (6, 0, 0), (0, 0), []),
  (.istore 5, (65, 2), (5, 0, 0), (0, 0), []),
  (.iinc 6 (-1), (67, 3), (6, 0, 0), ((-1), 0), []),
  (.goto (-33), (70, 3), (0, 22, 0), (0, 0), []),
  (.aload_n 0, (73, 1), (0, 0, 0), (0, 0), []),
  (.getfield 18, (74, 3), (9, 3, 2), (0, 0), []),
  (.iload_n 1, (77, 1), (1, 0, 0), (0, 0), []),
  (.iload_n 3, (78, 1), (3, 0, 0), (0, 0), []),
  (.iastore, (79, 1), (0, 0, 0), (0, 0), []),
  (.iload_n 2, (80, 1), (2, 0, 0), (0, 0), []),
  (.ifCond .ne 8, (81, 3), (0, 47, 0), (0, 0), []),
  (.iload 4, (84, 2), (4, 0, 0), (0, 0), []),
  (.goto 5, (86, 3), (0, 48, 0), (0, 0), []),
  (.iload 5, (89, 2), (5, 0, 0), (0, 0), []),
  (.ireturn, (91, 1), (0, 0, 0), (0, 0), [])]
def mm_r176 : List (List mm_R) := [mm_r176_0, mm_r176_1]
/-- 177: GlobeCornerModel.odds(IIII)J -/
def mm_r177_0 : List mm_R := [
  (.aload_n 0, (0, 1), (0, 0, 0), (0, 0), []),
  (.iload_n 1, (1, 1), (1, 0, 0), (0, 0), []),
  (.invokevirtual 118, (2, 3), (130, 2, 1), (0, 0), []),
  (.ifCond .eq 30, (5, 3), (0, 17, 0), (0, 0), []),
  (.iload_n 2, (8, 1), (2, 0, 0), (0, 0), []),
  (.invokestatic 122, (9, 3), (131, 1, 0), (0, 0), []),
  (.ifCond .eq 23, (12, 3), (0, 17, 0), (0, 0), []),
  (.iload_n 3, (15, 1), (3, 0, 0), (0, 0), []),
  (.iconst 0, (16, 1), (0, 0, 0), (0, 0), []),
  (.bipush 20, (17, 2), (0, 0, 0), (20, 0), []),
  (.invokestatic 114, (19, 3), (128, 3, 0), (0, 0), []),
  (.ifCond .eq 13, (22, 3), (0, 17, 0), (0, 0), []),
  (.iload 4, (25, 2), (4, 0, 0), (0, 0), []),
  (.iconst 0, (27, 1), (0, 0, 0), (0, 0), []),
  (.iconst 1, (28, 1), (0, 0, 0), (1, 0), []),
  (.invokestatic 114, (29, 3), (128, 3, 0), (0, 0), []),
  (.ifCond .ne 7, (32, 3), (0, 19, 0), (0, 0), []),
  (.ldc2_w 295, (35, 3), (0, 0, 0), (0, (-9223372036854775808)), []),
  (.lreturn, (38, 1), (0, 0, 0), (0, 0), []),
  (.iconst 0, (39, 1), (0, 0, 0), (0, 0), []),
  (.istore 5, (40, 2), (5, 0, 0), (0, 0), []),
  (.iconst 0, (42, 1), (0, 0, 0), (0, 0), []),
  (.istore 6, (43, 2), (6, 0, 0), (0, 0), []),
  (.iload 6, (45, 2), (6, 0, 0), (0, 0), []),
  (.bipush 12, (47, 2), (0, 0, 0), (12, 0), []),
  (.if_icmp .ge 64, (49, 3), (0, 56, 0), (0, 0), []),
  (.aload_n 0, (52, 1), (0, 0, 0), (0, 0), []),
  (.aload_n 0, (53, 1), (0, 0, 0), (0, 0), []),
  (.getfield 82, (54, 3), (9, 38, 2), (0, 0), []),
  (.invokevirtual 268, (57, 3), (139, 2, 1), (0, 0), []),
  (.aload_n 0, (60, 1), (0, 0, 0), (0, 0), []),
  (.getfield 21, (61, 3), (9, 4, 2), (0, 0), [])]
def mm_r177_1 : List mm_R := [
  (.iload_n 1, (64, 1), (1, 0, 0), (0, 0), []),
  (.iload 6, (65, 2), (6, 0, 0), (0, 0), []),
  (.iastore, (67, 1), (0, 0, 0), (0, 0), []),
  (.iconst 0, (68, 1), (0, 0, 0), (0, 0), []),
  (.istore 7, (69, 2), (7, 0, 0), (0, 0), []),
  (.iload 7, (71, 2), (7, 0, 0), (0, 0), []),
  (.iload_n 3, (73, 1), (3, 0, 0), (0, 0), []),
  (.if_icmp .ge 13, (74, 3), (0, 44, 0), (0, 0), []),
  (.aload_n 0, (77, 1), (0, 0, 0), (0, 0), []),
  (.invokevirtual 265, (78, 3), (140, 1, 1), (0, 0), []),
  (.iinc 7 1, (81, 3), (7, 0, 0), (1, 0), []),
  (.goto (-13), (84, 3), (0, 37, 0), (0, 0), []),
  (.aload_n 0, (87, 1), (0, 0, 0), (0, 0), []),
  (.getfield 9, (88, 3), (9, 0, 2), (0, 0), []),
  (.iload_n 2, (91, 1), (2, 0, 0), (0, 0), []),
  (.iaload, (92, 1), (0, 0, 0), (0, 0), []),
  (.ifCond .ne 6, (93, 3), (0, 50, 0), (0, 0), []),
  (.iinc 5 1, (96, 3), (5, 0, 0), (1, 0), []),
  (.aload_n 0, (99, 1), (0, 0, 0), (0, 0), []),
  (.aload_n 0, (100, 1), (0, 0, 0), (0, 0), []),
  (.getfield 82, (101, 3), (9, 38, 2), (0, 0), []),
  (.invokevirtual 272, (104, 3), (142, 2, 1), (0, 0), []),
  (.iinc 6 1, (107, 3), (6, 0, 0), (1, 0), []),
  (.goto (-65), (110, 3), (0, 23, 0), (0, 0), []),
  (.iload 5, (113, 2), (5, 0, 0), (0, 0), []),
  (.i2l, (115, 1), (0, 0, 0), (0, 0), []),
  (.ldc2_w 297, (116, 3), (0, 0, 0), (0, 12), []),
  (.iload 4, (119, 2), (4, 0, 0), (0, 0), []),
  (.invokestatic 299, (121, 3), (178, 3, 0), (0, 0), []),
  (.lreturn, (124, 1), (0, 0, 0), (0, 0), [])]
def mm_r177 : List (List mm_R) := [mm_r177_0, mm_r177_1]
/-- 178: GlobeCornerModel.part(JJI)J -/
def mm_r178_0 : List mm_R := [
  (.lload_n 0, (0, 1), (0, 0, 0), (0, 0), []),
  (.invokestatic 291, (1, 3), (0, 0, 8), (0, 0), []),
  (.lstore 5, (4, 2), (5, 0, 0), (0, 0), []),
  (.lload_n 2, (6, 1), (2, 0, 0), (0, 0), []),
  (.lstore 7, (7, 2), (7, 0, 0), (0, 0), []),
  (.lload 7, (9, 2), (7, 0, 0), (0, 0), []),
  (.lconst 0, (11, 1), (0, 0, 0), (0, 0), []),
  (.lcmp, (12, 1), (0, 0, 0), (0, 0), []),
  (.ifCond .eq 21, (13, 3), (0, 18, 0), (0, 0), []),
  (.lload 5, (16, 2), (5, 0, 0), (0, 0), []),
  (.lload 7, (18, 2), (7, 0, 0), (0, 0), []),
  (.lrem, (20, 1), (0, 0, 0), (0, 0), []),
  (.lstore 9, (21, 2), (9, 0, 0), (0, 0), []),
  (.lload 7, (23, 2), (7, 0, 0), (0, 0), []),
  (.lstore 5, (25, 2), (5, 0, 0), (0, 0), []),
  (.lload 9, (27, 2), (9, 0, 0), (0, 0), []),
  (.lstore 7, (29, 2), (7, 0, 0), (0, 0), []),
  (.goto (-22), (31, 3), (0, 5, 0), (0, 0), []),
  (.iload 4, (34, 2), (4, 0, 0), (0, 0), []),
  (.ifCond .ne 7, (36, 3), (0, 22, 0), (0, 0), []),
  (.lload_n 0, (39, 1), (0, 0, 0), (0, 0), []),
  (.goto 4, (40, 3), (0, 23, 0), (0, 0), []),
  (.lload_n 2, (43, 1), (2, 0, 0), (0, 0), []),
  (.lload 5, (44, 2), (5, 0, 0), (0, 0), []),
  (.ldiv, (46, 1), (0, 0, 0), (0, 0), []),
  (.lreturn, (47, 1), (0, 0, 0), (0, 0), [])]
def mm_r178 : List (List mm_R) := [mm_r178_0]
/-- 179: GlobeCornerModel.mean(II)J -/
def mm_r179_0 : List mm_R := [
  (.iload_n 1, (0, 1), (1, 0, 0), (0, 0), []),
  (.iconst 0, (1, 1), (0, 0, 0), (0, 0), []),
  (.bipush 60, (2, 2), (0, 0, 0), (60, 0), []),
  (.invokestatic 114, (4, 3), (128, 3, 0), (0, 0), []),
  (.ifCond .eq 29, (7, 3), (0, 19, 0), (0, 0), []),
  (.iload_n 2, (10, 1), (2, 0, 0), (0, 0), []),
  (.iconst 0, (11, 1), (0, 0, 0), (0, 0), []),
  (.iconst 1, (12, 1), (0, 0, 0), (1, 0), []),
  (.invokestatic 114, (13, 3), (128, 3, 0), (0, 0), []),
  (.ifCond .eq 20, (16, 3), (0, 19, 0), (0, 0), []),
  (.aload_n 0, (19, 1), (0, 0, 0), (0, 0), []),
  (.iload_n 1, (20, 1), (1, 0, 0), (0, 0), []),
  (.iconst 0, (21, 1), (0, 0, 0), (0, 0), []),
  (.invokevirtual 303, (22, 3), (172, 3, 1), (0, 0), []),
  (.i2l, (25, 1), (0, 0, 0), (0, 0), []),
  (.ldc2_w 297, (26, 3), (0, 0, 0), (0, 12), []),
  (.iload_n 2, (29, 1), (2, 0, 0), (0, 0), []),
  (.invokestatic 299, (30, 3), (178, 3, 0), (0, 0), []),
  (.goto 6, (33, 3), (0, 20, 0), (0, 0), []),
  (.ldc2_w 295, (36, 3), (0, 0, 0), (0, (-9223372036854775808)), []),
  (.lreturn, (39, 1), (0, 0, 0), (0, 0), [])]
def mm_r179 : List (List mm_R) := [mm_r179_0]
/-- 180: GlobeCornerModel.plan(II)I -/
def mm_r180_0 : List mm_R := [
  (.iload_n 1, (0, 1), (1, 0, 0), (0, 0), []),
  (.iconst (-1), (1, 1), (0, 0, 0), ((-1), 0), []),
  (.if_icmp .ne 10, (2, 3), (0, 8, 0), (0, 0), []),
  (.aload_n 0, (5, 1), (0, 0, 0), (0, 0), []),
  (.iconst 0, (6, 1), (0, 0, 0), (0, 0), []),
  (.putfield 306, (7, 3), (9, 28, 0), (0, 0), []),
  (.iconst 0, (10, 1), (0, 0, 0), (0, 0), []),
  (.ireturn, (11, 1), (0, 0, 0), (0, 0), []),
  (.iload_n 1, (12, 1), (1, 0, 0), (0, 0), []),
  (.iconst 0, (13, 1), (0, 0, 0), (0, 0), []),
  (.iconst 3, (14, 1), (0, 0, 0), (3, 0), []),
  (.invokestatic 114, (15, 3), (128, 3, 0), (0, 0), []),
  (.ifCond .eq 28, (18, 3), (0, 26, 0), (0, 0), []),
  (.iload_n 1, (21, 1), (1, 0, 0), (0, 0), []),
  (.iconst 1, (22, 1), (0, 0, 0), (1, 0), []),
  (.if_icmp .ne 11, (23, 3), (0, 20, 0), (0, 0), []),
  (.aload_n 0, (26, 1), (0, 0, 0), (0, 0), []),
  (.iload_n 2, (27, 1), (2, 0, 0), (0, 0), []),
  (.invokevirtual 118, (28, 3), (130, 2, 1), (0, 0), []),
  (.ifCond .eq 15, (31, 3), (0, 26, 0), (0, 0), []),
  (.iload_n 1, (34, 1), (1, 0, 0), (0, 0), []),
  (.iconst 3, (35, 1), (0, 0, 0), (3, 0), []),
  (.if_icmp .ne 12, (36, 3), (0, 28, 0), (0, 0), []),
  (.iload_n 2, (39, 1), (2, 0, 0), (0, 0), []),
  (.invokestatic 122, (40, 3), (131, 1, 0), (0, 0), []),
  (.ifCond .ne 5, (43, 3), (0, 28, 0), (0, 0), []),
  (.iconst (-1), (46, 1), (0, 0, 0), ((-1), 0), []),
  (.ireturn, (47, 1), (0, 0, 0), (0, 0), []),
  (.iload_n 1, (48, 1), (1, 0, 0), (0, 0), []),
  (.iconst 2, (49, 1), (0, 0, 0), (2, 0), []),
  (.if_icmp .ne 16, (50, 3), (0, 38, 0), (0, 0), []),
  (.iload_n 2, (53, 1), (2, 0, 0), (0, 0), [])]
def mm_r180_1 : List mm_R := [
  (.iconst 0, (54, 1), (0, 0, 0), (0, 0), []),
  (.bipush 11, (55, 2), (0, 0, 0), (11, 0), []),
  (.invokestatic 114, (57, 3), (128, 3, 0), (0, 0), []),
  (.ifCond .ne 6, (60, 3), (0, 38, 0), (0, 0), []),
  (.bipush (-2), (63, 2), (0, 0, 0), ((-2), 0), []),
  (.ireturn, (65, 1), (0, 0, 0), (0, 0), []),
  (.aload_n 0, (66, 1), (0, 0, 0), (0, 0), []),
  (.getfield 306, (67, 3), (9, 28, 0), (0, 0), []),
  (.bipush 10, (70, 2), (0, 0, 0), (10, 0), []),
  (.if_icmp .ne 6, (72, 3), (0, 44, 0), (0, 0), []),
  (.bipush (-4), (75, 2), (0, 0, 0), ((-4), 0), []),
  (.ireturn, (77, 1), (0, 0, 0), (0, 0), []),
  (.aload_n 0, (78, 1), (0, 0, 0), (0, 0), []),
  (.getfield 64, (79, 3), (9, 29, 2), (0, 0), []),
  (.aload_n 0, (82, 1), (0, 0, 0), (0, 0), []),
  (.getfield 306, (83, 3), (9, 28, 0), (0, 0), []),
  (.iload_n 1, (86, 1), (1, 0, 0), (0, 0), []),
  (.iastore, (87, 1), (0, 0, 0), (0, 0), []),
  (.aload_n 0, (88, 1), (0, 0, 0), (0, 0), []),
  (.getfield 67, (89, 3), (9, 30, 2), (0, 0), []),
  (.aload_n 0, (92, 1), (0, 0, 0), (0, 0), []),
  (.dup, (93, 1), (0, 0, 0), (0, 0), []),
  (.getfield 306, (94, 3), (9, 28, 0), (0, 0), []),
  (.dup_x1, (97, 1), (0, 0, 0), (0, 0), []),
  (.iconst 1, (98, 1), (0, 0, 0), (1, 0), []),
  (.iadd, (99, 1), (0, 0, 0), (0, 0), []),
  (.putfield 306, (100, 3), (9, 28, 0), (0, 0), []),
  (.iload_n 1, (103, 1), (1, 0, 0), (0, 0), []),
  (.ifCond .ne 7, (104, 3), (0, 63, 0), (0, 0), []),
  (.iconst 0, (107, 1), (0, 0, 0), (0, 0), []),
  (.goto 4, (108, 3), (0, 64, 0), (0, 0), []),
  (.iload_n 2, (111, 1), (2, 0, 0), (0, 0), [])]
def mm_r180_2 : List mm_R := [
  (.iastore, (112, 1), (0, 0, 0), (0, 0), []),
  (.aload_n 0, (113, 1), (0, 0, 0), (0, 0), []),
  (.getfield 306, (114, 3), (9, 28, 0), (0, 0), []),
  (.ireturn, (117, 1), (0, 0, 0), (0, 0), [])]
def mm_r180 : List (List mm_R) := [mm_r180_0, mm_r180_1, mm_r180_2]
/-- 181: GlobeCornerModel.ends(I)I -/
def mm_r181_0 : List mm_R := [
  (.iload_n 1, (0, 1), (1, 0, 0), (0, 0), []),
  (.iconst 0, (1, 1), (0, 0, 0), (0, 0), []),
  (.iconst 1, (2, 1), (0, 0, 0), (1, 0), []),
  (.invokestatic 114, (3, 3), (128, 3, 0), (0, 0), []),
  (.ifCond .ne 5, (6, 3), (0, 7, 0), (0, 0), []),
  (.iconst (-1), (9, 1), (0, 0, 0), ((-1), 0), []),
  (.ireturn, (10, 1), (0, 0, 0), (0, 0), []),
  (.aload_n 0, (11, 1), (0, 0, 0), (0, 0), []),
  (.aload_n 0, (12, 1), (0, 0, 0), (0, 0), []),
  (.getfield 82, (13, 3), (9, 38, 2), (0, 0), []),
  (.invokevirtual 268, (16, 3), (139, 2, 1), (0, 0), []),
  (.iconst 0, (19, 1), (0, 0, 0), (0, 0), []),
  (.istore_n 2, (20, 1), (2, 0, 0), (0, 0), []),
  (.iload_n 2, (21, 1), (2, 0, 0), (0, 0), []),
  (.aload_n 0, (22, 1), (0, 0, 0), (0, 0), []),
  (.getfield 306, (23, 3), (9, 28, 0), (0, 0), []),
  (.if_icmp .ge 78, (26, 3), (0, 59, 0), (0, 0), []),
  (.aload_n 0, (29, 1), (0, 0, 0), (0, 0), []),
  (.getfield 67, (30, 3), (9, 30, 2), (0, 0), []),
  (.iload_n 2, (33, 1), (2, 0, 0), (0, 0), []),
  (.iaload, (34, 1), (0, 0, 0), (0, 0), []),
  (.istore_n 3, (35, 1), (3, 0, 0), (0, 0), []),
  (.aload_n 0, (36, 1), (0, 0, 0), (0, 0), []),
  (.getfield 64, (37, 3), (9, 29, 2), (0, 0), []),
  (.iload_n 2, (40, 1), (2, 0, 0), (0, 0), []),
  (.iaload, (41, 1), (0, 0, 0), (0, 0), []),
  (.ifCond .ne 10, (42, 3), (0, 30, 0), (0, 0), []),
  (.aload_n 0, (45, 1), (0, 0, 0), (0, 0), []),
  (.invokevirtual 265, (46, 3), (140, 1, 1), (0, 0), []),
  (.goto 49, (49, 3), (0, 57, 0), (0, 0), []),
  (.aload_n 0, (52, 1), (0, 0, 0), (0, 0), []),
  (.getfield 64, (53, 3), (9, 29, 2), (0, 0), [])]
def mm_r181_1 : List mm_R := [
  (.iload_n 2, (56, 1), (2, 0, 0), (0, 0), []),
  (.iaload, (57, 1), (0, 0, 0), (0, 0), []),
  (.iconst 1, (58, 1), (0, 0, 0), (1, 0), []),
  (.if_icmp .ne 14, (59, 3), (0, 42, 0), (0, 0), []),
  (.aload_n 0, (62, 1), (0, 0, 0), (0, 0), []),
  (.getfield 21, (63, 3), (9, 4, 2), (0, 0), []),
  (.iload_n 3, (66, 1), (3, 0, 0), (0, 0), []),
  (.bipush (-5), (67, 2), (0, 0, 0), ((-5), 0), []),
  (.iastore, (69, 1), (0, 0, 0), (0, 0), []),
  (.goto 28, (70, 3), (0, 57, 0), (0, 0), []),
  (.aload_n 0, (73, 1), (0, 0, 0), (0, 0), []),
  (.getfield 64, (74, 3), (9, 29, 2), (0, 0), []),
  (.iload_n 2, (77, 1), (2, 0, 0), (0, 0), []),
  (.iaload, (78, 1), (0, 0, 0), (0, 0), []),
  (.iconst 2, (79, 1), (0, 0, 0), (2, 0), []),
  (.if_icmp .ne 11, (80, 3), (0, 52, 0), (0, 0), []),
  (.aload_n 0, (83, 1), (0, 0, 0), (0, 0), []),
  (.iload_n 3, (84, 1), (3, 0, 0), (0, 0), []),
  (.invokevirtual 144, (85, 3), (149, 2, 1), (0, 0), []),
  (.goto 10, (88, 3), (0, 57, 0), (0, 0), []),
  (.aload_n 0, (91, 1), (0, 0, 0), (0, 0), []),
  (.getfield 9, (92, 3), (9, 0, 2), (0, 0), []),
  (.iload_n 3, (95, 1), (3, 0, 0), (0, 0), []),
  (.iconst 0, (96, 1), (0, 0, 0), (0, 0), []),
  (.iastore, (97, 1), (0, 0, 0), (0, 0), []),
  (.iinc 2 1, (98, 3), (2, 0, 0), (1, 0), []),
  (.goto (-80), (101, 3), (0, 13, 0), (0, 0), []),
  (.iload_n 1, (104, 1), (1, 0, 0), (0, 0), []),
  (.ifCond .ne 10, (105, 3), (0, 64, 0), (0, 0), []),
  (.aload_n 0, (108, 1), (0, 0, 0), (0, 0), []),
  (.invokevirtual 256, (109, 3), (169, 1, 1), (0, 0), []),
  (.goto 7, (112, 3), (0, 66, 0), (0, 0), [])]
def mm_r181_2 : List mm_R := [
  (.aload_n 0, (115, 1), (0, 0, 0), (0, 0), []),
  (.invokevirtual 309, (116, 3), (182, 1, 1), (0, 0), []),
  (.istore_n 2, (119, 1), (2, 0, 0), (0, 0), []),
  (.aload_n 0, (120, 1), (0, 0, 0), (0, 0), []),
  (.aload_n 0, (121, 1), (0, 0, 0), (0, 0), []),
  (.getfield 82, (122, 3), (9, 38, 2), (0, 0), []),
  (.invokevirtual 272, (125, 3), (142, 2, 1), (0, 0), []),
  (.iload_n 2, (128, 1), (2, 0, 0), (0, 0), []),
  (.ireturn, (129, 1), (0, 0, 0), (0, 0), [])]
def mm_r181 : List (List mm_R) := [mm_r181_0, mm_r181_1, mm_r181_2]
/-- 182: GlobeCornerModel.allStood()I -/
def mm_r182_0 : List mm_R := [
  (.iconst 0, (0, 1), (0, 0, 0), (0, 0), []),
  (.istore_n 1, (1, 1), (1, 0, 0), (0, 0), []),
  (.iconst 0, (2, 1), (0, 0, 0), (0, 0), []),
  (.istore_n 2, (3, 1), (2, 0, 0), (0, 0), []),
  (.iload_n 2, (4, 1), (2, 0, 0), (0, 0), []),
  (.aload_n 0, (5, 1), (0, 0, 0), (0, 0), []),
  (.getfield 111, (6, 3), (9, 1, 0), (0, 0), []),
  (.if_icmp .ge 18, (9, 3), (0, 17, 0), (0, 0), []),
  (.iload_n 1, (12, 1), (1, 0, 0), (0, 0), []),
  (.aload_n 0, (13, 1), (0, 0, 0), (0, 0), []),
  (.getfield 24, (14, 3), (9, 5, 2), (0, 0), []),
  (.iload_n 2, (17, 1), (2, 0, 0), (0, 0), []),
  (.iaload, (18, 1), (0, 0, 0), (0, 0), []),
  (.iadd, (19, 1), (0, 0, 0), (0, 0), []),
  (.istore_n 1, (20, 1), (1, 0, 0), (0, 0), []),
  (.iinc 2 1, (21, 3), (2, 0, 0), (1, 0), []),
  (.goto (-20), (24, 3), (0, 4, 0), (0, 0), []),
  (.iload_n 1, (27, 1), (1, 0, 0), (0, 0), []),
  (.ireturn, (28, 1), (0, 0, 0), (0, 0), [])]
def mm_r182 : List (List mm_R) := [mm_r182_0]
/-- 183: GlobeCornerModel.book(II)I -/
def mm_r183_0 : List mm_R := [
  (.iload_n 1, (0, 1), (1, 0, 0), (0, 0), []),
  (.iconst (-1), (1, 1), (0, 0, 0), ((-1), 0), []),
  (.if_icmp .ne 10, (2, 3), (0, 8, 0), (0, 0), []),
  (.aload_n 0, (5, 1), (0, 0, 0), (0, 0), []),
  (.iconst 0, (6, 1), (0, 0, 0), (0, 0), []),
  (.putfield 312, (7, 3), (9, 31, 0), (0, 0), []),
  (.iconst 0, (10, 1), (0, 0, 0), (0, 0), []),
  (.ireturn, (11, 1), (0, 0, 0), (0, 0), []),
  (.iload_n 1, (12, 1), (1, 0, 0), (0, 0), []),
  (.invokestatic 122, (13, 3), (131, 1, 0), (0, 0), []),
  (.ifCond .ne 5, (16, 3), (0, 13, 0), (0, 0), []),
  (.iconst (-1), (19, 1), (0, 0, 0), ((-1), 0), []),
  (.ireturn, (20, 1), (0, 0, 0), (0, 0), []),
  (.iload_n 2, (21, 1), (2, 0, 0), (0, 0), []),
  (.invokestatic 141, (22, 3), (147, 1, 0), (0, 0), []),
  (.ifCond .ne 6, (25, 3), (0, 18, 0), (0, 0), []),
  (.bipush (-2), (28, 2), (0, 0, 0), ((-2), 0), []),
  (.ireturn, (30, 1), (0, 0, 0), (0, 0), []),
  (.aload_n 0, (31, 1), (0, 0, 0), (0, 0), []),
  (.getfield 312, (32, 3), (9, 31, 0), (0, 0), []),
  (.bipush 8, (35, 2), (0, 0, 0), (8, 0), []),
  (.if_icmp .ne 6, (37, 3), (0, 24, 0), (0, 0), []),
  (.bipush (-4), (40, 2), (0, 0, 0), ((-4), 0), []),
  (.ireturn, (42, 1), (0, 0, 0), (0, 0), []),
  (.aload_n 0, (43, 1), (0, 0, 0), (0, 0), []),
  (.getfield 70, (44, 3), (9, 32, 2), (0, 0), []),
  (.aload_n 0, (47, 1), (0, 0, 0), (0, 0), []),
  (.getfield 312, (48, 3), (9, 31, 0), (0, 0), []),
  (.iload_n 1, (51, 1), (1, 0, 0), (0, 0), []),
  (.iastore, (52, 1), (0, 0, 0), (0, 0), []),
  (.aload_n 0, (53, 1), (0, 0, 0), (0, 0), []),
  (.getfield 73, (54, 3), (9, 33, 2), (0, 0), [])]
def mm_r183_1 : List mm_R := [
  (.aload_n 0, (57, 1), (0, 0, 0), (0, 0), []),
  (.dup, (58, 1), (0, 0, 0), (0, 0), []),
  (.getfield 312, (59, 3), (9, 31, 0), (0, 0), []),
  (.dup_x1, (62, 1), (0, 0, 0), (0, 0), []),
  (.iconst 1, (63, 1), (0, 0, 0), (1, 0), []),
  (.iadd, (64, 1), (0, 0, 0), (0, 0), []),
  (.putfield 312, (65, 3), (9, 31, 0), (0, 0), []),
  (.iload_n 2, (68, 1), (2, 0, 0), (0, 0), []),
  (.iastore, (69, 1), (0, 0, 0), (0, 0), []),
  (.aload_n 0, (70, 1), (0, 0, 0), (0, 0), []),
  (.getfield 312, (71, 3), (9, 31, 0), (0, 0), []),
  (.ireturn, (74, 1), (0, 0, 0), (0, 0), [])]
def mm_r183 : List (List mm_R) := [mm_r183_0, mm_r183_1]
/-- 184: GlobeCornerModel.looked()I -/
def mm_r184_0 : List mm_R := [
  (.iconst 0, (0, 1), (0, 0, 0), (0, 0), []),
  (.istore_n 1, (1, 1), (1, 0, 0), (0, 0), []),
  (.iload_n 1, (2, 1), (1, 0, 0), (0, 0), []),
  (.aload_n 0, (3, 1), (0, 0, 0), (0, 0), []),
  (.getfield 312, (4, 3), (9, 31, 0), (0, 0), []),
  (.if_icmp .ge 31, (7, 3), (0, 22, 0), (0, 0), []),
  (.aload_n 0, (10, 1), (0, 0, 0), (0, 0), []),
  (.getfield 9, (11, 3), (9, 0, 2), (0, 0), []),
  (.aload_n 0, (14, 1), (0, 0, 0), (0, 0), []),
  (.getfield 70, (15, 3), (9, 32, 2), (0, 0), []),
  (.iload_n 1, (18, 1), (1, 0, 0), (0, 0), []),
  (.iaload, (19, 1), (0, 0, 0), (0, 0), []),
  (.iaload, (20, 1), (0, 0, 0), (0, 0), []),
  (.aload_n 0, (21, 1), (0, 0, 0), (0, 0), []),
  (.getfield 73, (22, 3), (9, 33, 2), (0, 0), []),
  (.iload_n 1, (25, 1), (1, 0, 0), (0, 0), []),
  (.iaload, (26, 1), (0, 0, 0), (0, 0), []),
  (.if_icmp .eq 5, (27, 3), (0, 20, 0), (0, 0), []),
  (.iload_n 1, (30, 1), (1, 0, 0), (0, 0), []),
  (.ireturn, (31, 1), (0, 0, 0), (0, 0), []),
  (.iinc 1 1, (32, 3), (1, 0, 0), (1, 0), []),
  (.goto (-33), (35, 3), (0, 2, 0), (0, 0), []),
  (.bipush (-5), (38, 2), (0, 0, 0), ((-5), 0), []),
  (.ireturn, (40, 1), (0, 0, 0), (0, 0), [])]
def mm_r184 : List (List mm_R) := [mm_r184_0]
/-- 185: GlobeCornerModel.judge(II)I -/
def mm_r185_0 : List mm_R := [
  (.iload_n 1, (0, 1), (1, 0, 0), (0, 0), []),
  (.iconst 0, (1, 1), (0, 0, 0), (0, 0), []),
  (.iconst 5, (2, 1), (0, 0, 0), (5, 0), []),
  (.invokestatic 114, (3, 3), (128, 3, 0), (0, 0), []),
  (.ifCond .ne 5, (6, 3), (0, 7, 0), (0, 0), []),
  (.iconst (-1), (9, 1), (0, 0, 0), ((-1), 0), []),
  (.ireturn, (10, 1), (0, 0, 0), (0, 0), []),
  (.aload_n 0, (11, 1), (0, 0, 0), (0, 0), []),
  (.getfield 97, (12, 3), (9, 44, 2), (0, 0), []),
  (.iload_n 1, (15, 1), (1, 0, 0), (0, 0), []),
  (.iaload, (16, 1), (0, 0, 0), (0, 0), []),
  (.iconst (-1), (17, 1), (0, 0, 0), ((-1), 0), []),
  (.if_icmp .eq 15, (18, 3), (0, 20, 0), (0, 0), []),
  (.aload_n 0, (21, 1), (0, 0, 0), (0, 0), []),
  (.getfield 97, (22, 3), (9, 44, 2), (0, 0), []),
  (.iload_n 1, (25, 1), (1, 0, 0), (0, 0), []),
  (.iaload, (26, 1), (0, 0, 0), (0, 0), []),
  (.ifCond .eq 6, (27, 3), (0, 20, 0), (0, 0), []),
  (.bipush (-12), (30, 2), (0, 0, 0), ((-12), 0), []),
  (.ireturn, (32, 1), (0, 0, 0), (0, 0), []),
  (.iconst 0, (33, 1), (0, 0, 0), (0, 0), []),
  (.istore_n 3, (34, 1), (3, 0, 0), (0, 0), []),
  (.iload_n 3, (35, 1), (3, 0, 0), (0, 0), []),
  (.bipush 12, (36, 2), (0, 0, 0), (12, 0), []),
  (.if_icmp .ge 70, (38, 3), (0, 70, 0), (0, 0), []),
  (.aload_n 0, (41, 1), (0, 0, 0), (0, 0), []),
  (.getfield 97, (42, 3), (9, 44, 2), (0, 0), []),
  (.iload_n 1, (45, 1), (1, 0, 0), (0, 0), []),
  (.iaload, (46, 1), (0, 0, 0), (0, 0), []),
  (.iconst (-1), (47, 1), (0, 0, 0), ((-1), 0), []),
  (.if_icmp .eq 23, (48, 3), (0, 45, 0), (0, 0), []),
  (.iload_n 2, (51, 1), (2, 0, 0), (0, 0), [])]
def mm_r185_1 : List mm_R := [
  (.ifCond .lt 19, (52, 3), (0, 45, 0), (0, 0), []),
  (.iload_n 2, (55, 1), (2, 0, 0), (0, 0), []),
  (.i2l, (56, 1), (0, 0, 0), (0, 0), []),
  (.iload_n 3, (57, 1), (3, 0, 0), (0, 0), []),
  (.i2l, (58, 1), (0, 0, 0), (0, 0), []),
  (.ladd, (59, 1), (0, 0, 0), (0, 0), []),
  (.aload_n 0, (60, 1), (0, 0, 0), (0, 0), []),
  (.getfield 100, (61, 3), (9, 45, 2), (0, 0), []),
  (.iload_n 1, (64, 1), (1, 0, 0), (0, 0), []),
  (.iaload, (65, 1), (0, 0, 0), (0, 0), []),
  (.i2l, (66, 1), (0, 0, 0), (0, 0), []),
  (.lcmp, (67, 1), (0, 0, 0), (0, 0), []),
  (.ifCond .lt 8, (68, 3), (0, 49, 0), (0, 0), []),
  (.bipush 100, (71, 2), (0, 0, 0), (100, 0), []),
  (.iload_n 3, (73, 1), (3, 0, 0), (0, 0), []),
  (.iadd, (74, 1), (0, 0, 0), (0, 0), []),
  (.ireturn, (75, 1), (0, 0, 0), (0, 0), []),
  (.aload_n 0, (76, 1), (0, 0, 0), (0, 0), []),
  (.getfield 103, (77, 3), (9, 46, 2), (0, 0), []),
  (.bipush 60, (80, 2), (0, 0, 0), (60, 0), []),
  (.iload_n 1, (82, 1), (1, 0, 0), (0, 0), []),
  (.imul, (83, 1), (0, 0, 0), (0, 0), []),
  (.iload_n 2, (84, 1), (2, 0, 0), (0, 0), []),
  (.iadd, (85, 1), (0, 0, 0), (0, 0), []),
  (.iload_n 3, (86, 1), (3, 0, 0), (0, 0), []),
  (.iadd, (87, 1), (0, 0, 0), (0, 0), []),
  (.laload, (88, 1), (0, 0, 0), (0, 0), []),
  (.aload_n 0, (89, 1), (0, 0, 0), (0, 0), []),
  (.getfield 9, (90, 3), (9, 0, 2), (0, 0), []),
  (.iload_n 3, (93, 1), (3, 0, 0), (0, 0), []),
  (.iaload, (94, 1), (0, 0, 0), (0, 0), []),
  (.i2l, (95, 1), (0, 0, 0), (0, 0), [])]
def mm_r185_2 : List mm_R := [
  (.lcmp, (96, 1), (0, 0, 0), (0, 0), []),
  (.ifCond .eq 5, (97, 3), (0, 68, 0), (0, 0), []),
  (.iload_n 3, (100, 1), (3, 0, 0), (0, 0), []),
  (.ireturn, (101, 1), (0, 0, 0), (0, 0), []),
  (.iinc 3 1, (102, 3), (3, 0, 0), (1, 0), []),
  (.goto (-70), (105, 3), (0, 22, 0), (0, 0), []),
  (.bipush (-5), (108, 2), (0, 0, 0), ((-5), 0), []),
  (.ireturn, (110, 1), (0, 0, 0), (0, 0), [])]
def mm_r185 : List (List mm_R) := [mm_r185_0, mm_r185_1, mm_r185_2]
/-- 186: GlobeCornerModel.image()I -/
def mm_r186_0 : List mm_R := [
  (.aload_n 0, (0, 1), (0, 0, 0), (0, 0), []),
  (.iconst 1, (1, 1), (0, 0, 0), (1, 0), []),
  (.putfield 315, (2, 3), (9, 36, 5), (0, 0), []),
  (.aload_n 0, (5, 1), (0, 0, 0), (0, 0), []),
  (.aload_n 0, (6, 1), (0, 0, 0), (0, 0), []),
  (.getfield 79, (7, 3), (9, 37, 2), (0, 0), []),
  (.invokevirtual 268, (10, 3), (139, 2, 1), (0, 0), []),
  (.aload_n 0, (13, 1), (0, 0, 0), (0, 0), []),
  (.getfield 111, (14, 3), (9, 1, 0), (0, 0), []),
  (.ireturn, (17, 1), (0, 0, 0), (0, 0), [])]
def mm_r186 : List (List mm_R) := [mm_r186_0]
/-- 187: GlobeCornerModel.undo()I -/
def mm_r187_0 : List mm_R := [
  (.aload_n 0, (0, 1), (0, 0, 0), (0, 0), []),
  (.getfield 315, (1, 3), (9, 36, 0), (0, 0), []),
  (.ifCond .ne 6, (4, 3), (0, 5, 0), (0, 0), []),
  (.bipush (-3), (7, 2), (0, 0, 0), ((-3), 0), []),
  (.ireturn, (9, 1), (0, 0, 0), (0, 0), []),
  (.aload_n 0, (10, 1), (0, 0, 0), (0, 0), []),
  (.aload_n 0, (11, 1), (0, 0, 0), (0, 0), []),
  (.getfield 79, (12, 3), (9, 37, 2), (0, 0), []),
  (.invokevirtual 272, (15, 3), (142, 2, 1), (0, 0), []),
  (.aload_n 0, (18, 1), (0, 0, 0), (0, 0), []),
  (.getfield 111, (19, 3), (9, 1, 0), (0, 0), []),
  (.ireturn, (22, 1), (0, 0, 0), (0, 0), [])]
def mm_r187 : List (List mm_R) := [mm_r187_0]
/-- 188: GlobeCornerModel.act(III)I -/
def mm_r188_0 : List mm_R := [
  (.aload_n 0, (0, 1), (0, 0, 0), (0, 0), []),
  (.iconst 0, (1, 1), (0, 0, 0), (0, 0), []),
  (.putfield 319, (2, 3), (9, 34, 0), (0, 0), []),
  (.aload_n 0, (5, 1), (0, 0, 0), (0, 0), []),
  (.iload_n 1, (6, 1), (1, 0, 0), (0, 0), []),
  (.invokevirtual 118, (7, 3), (130, 2, 1), (0, 0), []),
  (.ifCond .eq 12, (10, 3), (0, 12, 0), (0, 0), []),
  (.iload_n 2, (13, 1), (2, 0, 0), (0, 0), []),
  (.iconst 0, (14, 1), (0, 0, 0), (0, 0), []),
  (.iconst 2, (15, 1), (0, 0, 0), (2, 0), []),
  (.invokestatic 114, (16, 3), (128, 3, 0), (0, 0), []),
  (.ifCond .ne 5, (19, 3), (0, 14, 0), (0, 0), []),
  (.iconst 0, (22, 1), (0, 0, 0), (0, 0), []),
  (.ireturn, (23, 1), (0, 0, 0), (0, 0), []),
  (.aload_n 0, (24, 1), (0, 0, 0), (0, 0), []),
  (.getfield 15, (25, 3), (9, 2, 2), (0, 0), []),
  (.iload_n 1, (28, 1), (1, 0, 0), (0, 0), []),
  (.iaload, (29, 1), (0, 0, 0), (0, 0), []),
  (.istore 4, (30, 2), (4, 0, 0), (0, 0), []),
  (.iload_n 2, (32, 1), (2, 0, 0), (0, 0), []),
  (.ifCond .ne 14, (33, 3), (0, 27, 0), (0, 0), []),
  (.aload_n 0, (36, 1), (0, 0, 0), (0, 0), []),
  (.iload_n 1, (37, 1), (1, 0, 0), (0, 0), []),
  (.iload 4, (38, 2), (4, 0, 0), (0, 0), []),
  (.iload_n 3, (40, 1), (3, 0, 0), (0, 0), []),
  (.invokevirtual 325, (41, 3), (189, 4, 1), (0, 0), []),
  (.goto 27, (44, 3), (0, 41, 0), (0, 0), []),
  (.iload_n 2, (47, 1), (2, 0, 0), (0, 0), []),
  (.iconst 1, (48, 1), (0, 0, 0), (1, 0), []),
  (.if_icmp .ne 14, (49, 3), (0, 36, 0), (0, 0), []),
  (.aload_n 0, (52, 1), (0, 0, 0), (0, 0), []),
  (.iload_n 1, (53, 1), (1, 0, 0), (0, 0), [])]
def mm_r188_1 : List mm_R := [
  (.iload 4, (54, 2), (4, 0, 0), (0, 0), []),
  (.iload_n 3, (56, 1), (3, 0, 0), (0, 0), []),
  (.invokevirtual 331, (57, 3), (192, 4, 1), (0, 0), []),
  (.goto 11, (60, 3), (0, 41, 0), (0, 0), []),
  (.aload_n 0, (63, 1), (0, 0, 0), (0, 0), []),
  (.iload_n 1, (64, 1), (1, 0, 0), (0, 0), []),
  (.iload 4, (65, 2), (4, 0, 0), (0, 0), []),
  (.iload_n 3, (67, 1), (3, 0, 0), (0, 0), []),
  (.invokevirtual 334, (68, 3), (193, 4, 1), (0, 0), []),
  (.ireturn, (71, 1), (0, 0, 0), (0, 0), [])]
def mm_r188 : List (List mm_R) := [mm_r188_0, mm_r188_1]
/-- 189: GlobeCornerModel.points(III)I -/
def mm_r189_0 : List mm_R := [
  (.iload_n 2, (0, 1), (2, 0, 0), (0, 0), []),
  (.tableswitch 105 0 6 #[95, 105, 43, 105, 59, 105, 74], (1, 43), (0, 44, 0), (0, 0), [(0, 37), (1, 44), (2, 2), (3, 44), (4, 13), (5, 44), (6, 23)]),
  (.aload_n 0, (44, 1), (0, 0, 0), (0, 0), []),
  (.bipush 30, (45, 2), (0, 0, 0), (30, 0), []),
  (.invokevirtual 322, (47, 3), (190, 2, 1), (0, 0), []),
  (.aload_n 0, (50, 1), (0, 0, 0), (0, 0), []),
  (.iload_n 1, (51, 1), (1, 0, 0), (0, 0), []),
  (.iconst 0, (52, 1), (0, 0, 0), (0, 0), []),
  (.iload_n 3, (53, 1), (3, 0, 0), (0, 0), []),
  (.iconst 3, (54, 1), (0, 0, 0), (3, 0), []),
  (.imul, (55, 1), (0, 0, 0), (0, 0), []),
  (.invokevirtual 325, (56, 3), (189, 4, 1), (0, 0), []),
  (.ireturn, (59, 1), (0, 0, 0), (0, 0), []),
  (.aload_n 0, (60, 1), (0, 0, 0), (0, 0), []),
  (.bipush 50, (61, 2), (0, 0, 0), (50, 0), []),
  (.invokevirtual 322, (63, 3), (190, 2, 1), (0, 0), []),
  (.aload_n 0, (66, 1), (0, 0, 0), (0, 0), []),
  (.iload_n 1, (67, 1), (1, 0, 0), (0, 0), []),
  (.iconst 1, (68, 1), (0, 0, 0), (1, 0), []),
  (.iload_n 3, (69, 1), (3, 0, 0), (0, 0), []),
  (.invokevirtual 325, (70, 3), (189, 4, 1), (0, 0), []),
  (.ineg, (73, 1), (0, 0, 0), (0, 0), []),
  (.ireturn, (74, 1), (0, 0, 0), (0, 0), []),
  (.aload_n 0, (75, 1), (0, 0, 0), (0, 0), []),
  (.bipush 71, (76, 2), (0, 0, 0), (71, 0), []),
  (.invokevirtual 322, (78, 3), (190, 2, 1), (0, 0), []),
  (.aload_n 0, (81, 1), (0, 0, 0), (0, 0), []),
  (.iload_n 1, (82, 1), (1, 0, 0), (0, 0), []),
  (.iconst 3, (83, 1), (0, 0, 0), (3, 0), []),
  (.iload_n 3, (84, 1), (3, 0, 0), (0, 0), []),
  (.invokevirtual 325, (85, 3), (189, 4, 1), (0, 0), []),
  (.aload_n 0, (88, 1), (0, 0, 0), (0, 0), [])]
def mm_r189_1 : List mm_R := [
  (.getfield 18, (89, 3), (9, 3, 2), (0, 0), []),
  (.iload_n 1, (92, 1), (1, 0, 0), (0, 0), []),
  (.iaload, (93, 1), (0, 0, 0), (0, 0), []),
  (.ixor, (94, 1), (0, 0, 0), (0, 0), []),
  (.ireturn, (95, 1), (0, 0, 0), (0, 0), []),
  (.aload_n 0, (96, 1), (0, 0, 0), (0, 0), []),
  (.bipush 10, (97, 2), (0, 0, 0), (10, 0), []),
  (.invokevirtual 322, (99, 3), (190, 2, 1), (0, 0), []),
  (.iload_n 3, (102, 1), (3, 0, 0), (0, 0), []),
  (.iload_n 1, (103, 1), (1, 0, 0), (0, 0), []),
  (.iadd, (104, 1), (0, 0, 0), (0, 0), []),
  (.ireturn, (105, 1), (0, 0, 0), (0, 0), []),
  (.aload_n 0, (106, 1), (0, 0, 0), (0, 0), []),
  (.iload_n 1, (107, 1), (1, 0, 0), (0, 0), []),
  (.iload_n 2, (108, 1), (2, 0, 0), (0, 0), []),
  (.invokestatic 328, (109, 3), (191, 1, 0), (0, 0), []),
  (.iload_n 3, (112, 1), (3, 0, 0), (0, 0), []),
  (.invokevirtual 325, (113, 3), (189, 4, 1), (0, 0), []),
  (.ireturn, (116, 1), (0, 0, 0), (0, 0), [])]
def mm_r189 : List (List mm_R) := [mm_r189_0, mm_r189_1]
/-- 190: GlobeCornerModel.ran(I)V -/
def mm_r190_0 : List mm_R := [
  (.aload_n 0, (0, 1), (0, 0, 0), (0, 0), []),
  (.getfield 319, (1, 3), (9, 34, 0), (0, 0), []),
  (.bipush 20, (4, 2), (0, 0, 0), (20, 0), []),
  (.if_icmp .ge 13, (6, 3), (0, 10, 0), (0, 0), []),
  (.aload_n 0, (9, 1), (0, 0, 0), (0, 0), []),
  (.getfield 76, (10, 3), (9, 35, 2), (0, 0), []),
  (.aload_n 0, (13, 1), (0, 0, 0), (0, 0), []),
  (.getfield 319, (14, 3), (9, 34, 0), (0, 0), []),
  (.iload_n 1, (17, 1), (1, 0, 0), (0, 0), []),
  (.iastore, (18, 1), (0, 0, 0), (0, 0), []),
  (.aload_n 0, (19, 1), (0, 0, 0), (0, 0), []),
  (.dup, (20, 1), (0, 0, 0), (0, 0), []),
  (.getfield 319, (21, 3), (9, 34, 0), (0, 0), []),
  (.iconst 1, (24, 1), (0, 0, 0), (1, 0), []),
  (.iadd, (25, 1), (0, 0, 0), (0, 0), []),
  (.putfield 319, (26, 3), (9, 34, 0), (0, 0), []),
  (.return_, (29, 1), (0, 0, 0), (0, 0), [])]
def mm_r190 : List (List mm_R) := [mm_r190_0]
/-- 191: GlobeCornerModel.above(I)I -/
def mm_r191_0 : List mm_R := [
  (.iload_n 0, (0, 1), (0, 0, 0), (0, 0), []),
  (.iconst 4, (1, 1), (0, 0, 0), (4, 0), []),
  (.if_icmp .ne 7, (2, 3), (0, 5, 0), (0, 0), []),
  (.iconst 1, (5, 1), (0, 0, 0), (1, 0), []),
  (.goto 23, (6, 3), (0, 16, 0), (0, 0), []),
  (.iload_n 0, (9, 1), (0, 0, 0), (0, 0), []),
  (.iconst 5, (10, 1), (0, 0, 0), (5, 0), []),
  (.if_icmp .ne 7, (11, 3), (0, 10, 0), (0, 0), []),
  (.iconst 2, (14, 1), (0, 0, 0), (2, 0), []),
  (.goto 14, (15, 3), (0, 16, 0), (0, 0), []),
  (.iload_n 0, (18, 1), (0, 0, 0), (0, 0), []),
  (.bipush 6, (19, 2), (0, 0, 0), (6, 0), []),
  (.if_icmp .ne 7, (21, 3), (0, 15, 0), (0, 0), []),
  (.iconst 3, (24, 1), (0, 0, 0), (3, 0), []),
  (.goto 4, (25, 3), (0, 16, 0), (0, 0), []),
  (.iconst 0, (28, 1), (0, 0, 0), (0, 0), []),
  (.ireturn, (29, 1), (0, 0, 0), (0, 0), [])]
def mm_r191 : List (List mm_R) := [mm_r191_0]
/-- 192: GlobeCornerModel.sees(III)I -/
def mm_r192_0 : List mm_R := [
  (.iload_n 2, (0, 1), (2, 0, 0), (0, 0), []),
  (.tableswitch 128 0 6 #[102, 43, 128, 128, 60, 128, 76], (1, 43), (0, 58, 0), (0, 0), [(0, 41), (1, 2), (2, 58), (3, 58), (4, 13), (5, 58), (6, 24)]),
  (.aload_n 0, (44, 1), (0, 0, 0), (0, 0), []),
  (.bipush 20, (45, 2), (0, 0, 0), (20, 0), []),
  (.invokevirtual 322, (47, 3), (190, 2, 1), (0, 0), []),
  (.aload_n 0, (50, 1), (0, 0, 0), (0, 0), []),
  (.iload_n 1, (51, 1), (1, 0, 0), (0, 0), []),
  (.iconst 0, (52, 1), (0, 0, 0), (0, 0), []),
  (.iload_n 3, (53, 1), (3, 0, 0), (0, 0), []),
  (.invokevirtual 331, (54, 3), (192, 4, 1), (0, 0), []),
  (.bipush 6, (57, 2), (0, 0, 0), (6, 0), []),
  (.ixor, (59, 1), (0, 0, 0), (0, 0), []),
  (.ireturn, (60, 1), (0, 0, 0), (0, 0), []),
  (.aload_n 0, (61, 1), (0, 0, 0), (0, 0), []),
  (.bipush 51, (62, 2), (0, 0, 0), (51, 0), []),
  (.invokevirtual 322, (64, 3), (190, 2, 1), (0, 0), []),
  (.aload_n 0, (67, 1), (0, 0, 0), (0, 0), []),
  (.iload_n 1, (68, 1), (1, 0, 0), (0, 0), []),
  (.iconst 1, (69, 1), (0, 0, 0), (1, 0), []),
  (.iload_n 3, (70, 1), (3, 0, 0), (0, 0), []),
  (.iconst 1, (71, 1), (0, 0, 0), (1, 0), []),
  (.iadd, (72, 1), (0, 0, 0), (0, 0), []),
  (.invokevirtual 331, (73, 3), (192, 4, 1), (0, 0), []),
  (.ireturn, (76, 1), (0, 0, 0), (0, 0), []),
  (.aload_n 0, (77, 1), (0, 0, 0), (0, 0), []),
  (.bipush 70, (78, 2), (0, 0, 0), (70, 0), []),
  (.invokevirtual 322, (80, 3), (190, 2, 1), (0, 0), []),
  (.aload_n 0, (83, 1), (0, 0, 0), (0, 0), []),
  (.iload_n 1, (84, 1), (1, 0, 0), (0, 0), []),
  (.iconst 3, (85, 1), (0, 0, 0), (3, 0), []),
  (.iload_n 3, (86, 1), (3, 0, 0), (0, 0), []),
  (.invokevirtual 331, (87, 3), (192, 4, 1), (0, 0), [])]
def mm_r192_1 : List mm_R := [
  (.istore 4, (90, 2), (4, 0, 0), (0, 0), []),
  (.iload 4, (92, 2), (4, 0, 0), (0, 0), []),
  (.aload_n 0, (94, 1), (0, 0, 0), (0, 0), []),
  (.iload_n 1, (95, 1), (1, 0, 0), (0, 0), []),
  (.iconst 3, (96, 1), (0, 0, 0), (3, 0), []),
  (.iconst 2, (97, 1), (0, 0, 0), (2, 0), []),
  (.invokevirtual 325, (98, 3), (189, 4, 1), (0, 0), []),
  (.iadd, (101, 1), (0, 0, 0), (0, 0), []),
  (.ireturn, (102, 1), (0, 0, 0), (0, 0), []),
  (.aload_n 0, (103, 1), (0, 0, 0), (0, 0), []),
  (.bipush 11, (104, 2), (0, 0, 0), (11, 0), []),
  (.invokevirtual 322, (106, 3), (190, 2, 1), (0, 0), []),
  (.aload_n 0, (109, 1), (0, 0, 0), (0, 0), []),
  (.iload_n 1, (110, 1), (1, 0, 0), (0, 0), []),
  (.aload_n 0, (111, 1), (0, 0, 0), (0, 0), []),
  (.getfield 15, (112, 3), (9, 2, 2), (0, 0), []),
  (.iload_n 1, (115, 1), (1, 0, 0), (0, 0), []),
  (.iaload, (116, 1), (0, 0, 0), (0, 0), []),
  (.iload_n 3, (117, 1), (3, 0, 0), (0, 0), []),
  (.invokevirtual 325, (118, 3), (189, 4, 1), (0, 0), []),
  (.aload_n 0, (121, 1), (0, 0, 0), (0, 0), []),
  (.getfield 18, (122, 3), (9, 3, 2), (0, 0), []),
  (.iload_n 1, (125, 1), (1, 0, 0), (0, 0), []),
  (.iaload, (126, 1), (0, 0, 0), (0, 0), []),
  (.isub, (127, 1), (0, 0, 0), (0, 0), []),
  (.ireturn, (128, 1), (0, 0, 0), (0, 0), []),
  (.aload_n 0, (129, 1), (0, 0, 0), (0, 0), []),
  (.iload_n 1, (130, 1), (1, 0, 0), (0, 0), []),
  (.iload_n 2, (131, 1), (2, 0, 0), (0, 0), []),
  (.invokestatic 328, (132, 3), (191, 1, 0), (0, 0), []),
  (.iload_n 3, (135, 1), (3, 0, 0), (0, 0), []),
  (.invokevirtual 331, (136, 3), (192, 4, 1), (0, 0), [])]
def mm_r192_2 : List mm_R := [
  (.ireturn, (139, 1), (0, 0, 0), (0, 0), [])]
def mm_r192 : List (List mm_R) := [mm_r192_0, mm_r192_1, mm_r192_2]
/-- 193: GlobeCornerModel.tells(III)I -/
def mm_r193_0 : List mm_R := [
  (.iload_n 2, (0, 1), (2, 0, 0), (0, 0), []),
  (.lookupswitch 103 #[(0, 82), (3, 35), (5, 66)], (1, 35), (0, 47, 0), (0, 0), [(0, 33), (3, 2), (5, 22)]),
  (.aload_n 0, (36, 1), (0, 0, 0), (0, 0), []),
  (.bipush 40, (37, 2), (0, 0, 0), (40, 0), []),
  (.invokevirtual 322, (39, 3), (190, 2, 1), (0, 0), []),
  (.aload_n 0, (42, 1), (0, 0, 0), (0, 0), []),
  (.iload_n 1, (43, 1), (1, 0, 0), (0, 0), []),
  (.iconst 0, (44, 1), (0, 0, 0), (0, 0), []),
  (.iload_n 3, (45, 1), (3, 0, 0), (0, 0), []),
  (.invokevirtual 334, (46, 3), (193, 4, 1), (0, 0), []),
  (.istore 4, (49, 2), (4, 0, 0), (0, 0), []),
  (.iload 4, (51, 2), (4, 0, 0), (0, 0), []),
  (.aload_n 0, (53, 1), (0, 0, 0), (0, 0), []),
  (.iload_n 1, (54, 1), (1, 0, 0), (0, 0), []),
  (.aload_n 0, (55, 1), (0, 0, 0), (0, 0), []),
  (.getfield 15, (56, 3), (9, 2, 2), (0, 0), []),
  (.iload_n 1, (59, 1), (1, 0, 0), (0, 0), []),
  (.iaload, (60, 1), (0, 0, 0), (0, 0), []),
  (.iconst 1, (61, 1), (0, 0, 0), (1, 0), []),
  (.invokevirtual 331, (62, 3), (192, 4, 1), (0, 0), []),
  (.iadd, (65, 1), (0, 0, 0), (0, 0), []),
  (.ireturn, (66, 1), (0, 0, 0), (0, 0), []),
  (.aload_n 0, (67, 1), (0, 0, 0), (0, 0), []),
  (.bipush 60, (68, 2), (0, 0, 0), (60, 0), []),
  (.invokevirtual 322, (70, 3), (190, 2, 1), (0, 0), []),
  (.aload_n 0, (73, 1), (0, 0, 0), (0, 0), []),
  (.iload_n 1, (74, 1), (1, 0, 0), (0, 0), []),
  (.iconst 2, (75, 1), (0, 0, 0), (2, 0), []),
  (.iload_n 3, (76, 1), (3, 0, 0), (0, 0), []),
  (.iload_n 1, (77, 1), (1, 0, 0), (0, 0), []),
  (.isub, (78, 1), (0, 0, 0), (0, 0), []),
  (.invokevirtual 334, (79, 3), (193, 4, 1), (0, 0), [])]
def mm_r193_1 : List mm_R := [
  (.ireturn, (82, 1), (0, 0, 0), (0, 0), []),
  (.aload_n 0, (83, 1), (0, 0, 0), (0, 0), []),
  (.bipush 12, (84, 2), (0, 0, 0), (12, 0), []),
  (.invokevirtual 322, (86, 3), (190, 2, 1), (0, 0), []),
  (.aload_n 0, (89, 1), (0, 0, 0), (0, 0), []),
  (.iload_n 1, (90, 1), (1, 0, 0), (0, 0), []),
  (.aload_n 0, (91, 1), (0, 0, 0), (0, 0), []),
  (.getfield 15, (92, 3), (9, 2, 2), (0, 0), []),
  (.iload_n 1, (95, 1), (1, 0, 0), (0, 0), []),
  (.iaload, (96, 1), (0, 0, 0), (0, 0), []),
  (.iload_n 3, (97, 1), (3, 0, 0), (0, 0), []),
  (.invokevirtual 331, (98, 3), (192, 4, 1), (0, 0), []),
  (.iconst 2, (101, 1), (0, 0, 0), (2, 0), []),
  (.imul, (102, 1), (0, 0, 0), (0, 0), []),
  (.ireturn, (103, 1), (0, 0, 0), (0, 0), []),
  (.aload_n 0, (104, 1), (0, 0, 0), (0, 0), []),
  (.iload_n 1, (105, 1), (1, 0, 0), (0, 0), []),
  (.iload_n 2, (106, 1), (2, 0, 0), (0, 0), []),
  (.invokestatic 328, (107, 3), (191, 1, 0), (0, 0), []),
  (.iload_n 3, (110, 1), (3, 0, 0), (0, 0), []),
  (.invokevirtual 334, (111, 3), (193, 4, 1), (0, 0), []),
  (.ireturn, (114, 1), (0, 0, 0), (0, 0), [])]
def mm_r193 : List (List mm_R) := [mm_r193_0, mm_r193_1]
/-- 194: GlobeCornerModel.trace(I)I -/
def mm_r194_0 : List mm_R := [
  (.iload_n 1, (0, 1), (1, 0, 0), (0, 0), []),
  (.iconst 0, (1, 1), (0, 0, 0), (0, 0), []),
  (.bipush 20, (2, 2), (0, 0, 0), (20, 0), []),
  (.aload_n 0, (4, 1), (0, 0, 0), (0, 0), []),
  (.getfield 319, (5, 3), (9, 34, 0), (0, 0), []),
  (.invokestatic 242, (8, 3), (0, 0, 7), (0, 0), []),
  (.iconst 1, (11, 1), (0, 0, 0), (1, 0), []),
  (.isub, (12, 1), (0, 0, 0), (0, 0), []),
  (.invokestatic 114, (13, 3), (128, 3, 0), (0, 0), []),
  (.ifCond .eq 12, (16, 3), (0, 15, 0), (0, 0), []),
  (.aload_n 0, (19, 1), (0, 0, 0), (0, 0), []),
  (.getfield 76, (20, 3), (9, 35, 2), (0, 0), []),
  (.iload_n 1, (23, 1), (1, 0, 0), (0, 0), []),
  (.iaload, (24, 1), (0, 0, 0), (0, 0), []),
  (.goto 4, (25, 3), (0, 16, 0), (0, 0), []),
  (.iconst (-1), (28, 1), (0, 0, 0), ((-1), 0), []),
  (.ireturn, (29, 1), (0, 0, 0), (0, 0), [])]
def mm_r194 : List (List mm_R) := [mm_r194_0]
/-- 195: GlobeCornerModel.taken(II)I -/
def mm_r195_0 : List mm_R := [
  (.iload_n 2, (0, 1), (2, 0, 0), (0, 0), []),
  (.iconst 0, (1, 1), (0, 0, 0), (0, 0), []),
  (.bipush 6, (2, 2), (0, 0, 0), (6, 0), []),
  (.invokestatic 114, (4, 3), (128, 3, 0), (0, 0), []),
  (.ifCond .ne 6, (7, 3), (0, 7, 0), (0, 0), []),
  (.bipush (-2), (10, 2), (0, 0, 0), ((-2), 0), []),
  (.ireturn, (12, 1), (0, 0, 0), (0, 0), []),
  (.aload_n 0, (13, 1), (0, 0, 0), (0, 0), []),
  (.iload_n 1, (14, 1), (1, 0, 0), (0, 0), []),
  (.invokevirtual 118, (15, 3), (130, 2, 1), (0, 0), []),
  (.ifCond .ne 6, (18, 3), (0, 13, 0), (0, 0), []),
  (.bipush (-11), (21, 2), (0, 0, 0), ((-11), 0), []),
  (.ireturn, (23, 1), (0, 0, 0), (0, 0), []),
  (.aload_n 0, (24, 1), (0, 0, 0), (0, 0), []),
  (.getfield 15, (25, 3), (9, 2, 2), (0, 0), []),
  (.iload_n 1, (28, 1), (1, 0, 0), (0, 0), []),
  (.iaload, (29, 1), (0, 0, 0), (0, 0), []),
  (.istore_n 3, (30, 1), (3, 0, 0), (0, 0), []),
  (.iload_n 3, (31, 1), (3, 0, 0), (0, 0), []),
  (.iload_n 2, (32, 1), (2, 0, 0), (0, 0), []),
  (.if_icmp .eq 15, (33, 3), (0, 27, 0), (0, 0), []),
  (.iload_n 3, (36, 1), (3, 0, 0), (0, 0), []),
  (.ifCond .le 11, (37, 3), (0, 27, 0), (0, 0), []),
  (.iload_n 3, (40, 1), (3, 0, 0), (0, 0), []),
  (.invokestatic 328, (41, 3), (191, 1, 0), (0, 0), []),
  (.istore_n 3, (44, 1), (3, 0, 0), (0, 0), []),
  (.goto (-14), (45, 3), (0, 18, 0), (0, 0), []),
  (.iload_n 3, (48, 1), (3, 0, 0), (0, 0), []),
  (.iload_n 2, (49, 1), (2, 0, 0), (0, 0), []),
  (.if_icmp .ne 12, (50, 3), (0, 35, 0), (0, 0), []),
  (.aload_n 0, (53, 1), (0, 0, 0), (0, 0), []),
  (.getfield 15, (54, 3), (9, 2, 2), (0, 0), [])]
def mm_r195_1 : List mm_R := [
  (.iload_n 1, (57, 1), (1, 0, 0), (0, 0), []),
  (.iaload, (58, 1), (0, 0, 0), (0, 0), []),
  (.goto 5, (59, 3), (0, 36, 0), (0, 0), []),
  (.bipush (-12), (62, 2), (0, 0, 0), ((-12), 0), []),
  (.ireturn, (64, 1), (0, 0, 0), (0, 0), [])]
def mm_r195 : List (List mm_R) := [mm_r195_0, mm_r195_1]
/-- 196: GlobeCornerModel.count(I)I -/
def mm_r196_0 : List mm_R := [
  (.iload_n 1, (0, 1), (1, 0, 0), (0, 0), []),
  (.tableswitch 78 0 6 #[43, 48, 53, 58, 63, 68, 73], (1, 43), (0, 23, 0), (0, 0), [(0, 2), (1, 5), (2, 8), (3, 11), (4, 14), (5, 17), (6, 20)]),
  (.aload_n 0, (44, 1), (0, 0, 0), (0, 0), []),
  (.getfield 111, (45, 3), (9, 1, 0), (0, 0), []),
  (.ireturn, (48, 1), (0, 0, 0), (0, 0), []),
  (.aload_n 0, (49, 1), (0, 0, 0), (0, 0), []),
  (.getfield 223, (50, 3), (9, 14, 0), (0, 0), []),
  (.ireturn, (53, 1), (0, 0, 0), (0, 0), []),
  (.aload_n 0, (54, 1), (0, 0, 0), (0, 0), []),
  (.getfield 285, (55, 3), (9, 24, 0), (0, 0), []),
  (.ireturn, (58, 1), (0, 0, 0), (0, 0), []),
  (.aload_n 0, (59, 1), (0, 0, 0), (0, 0), []),
  (.getfield 306, (60, 3), (9, 28, 0), (0, 0), []),
  (.ireturn, (63, 1), (0, 0, 0), (0, 0), []),
  (.aload_n 0, (64, 1), (0, 0, 0), (0, 0), []),
  (.getfield 312, (65, 3), (9, 31, 0), (0, 0), []),
  (.ireturn, (68, 1), (0, 0, 0), (0, 0), []),
  (.aload_n 0, (69, 1), (0, 0, 0), (0, 0), []),
  (.getfield 152, (70, 3), (9, 8, 0), (0, 0), []),
  (.ireturn, (73, 1), (0, 0, 0), (0, 0), []),
  (.aload_n 0, (74, 1), (0, 0, 0), (0, 0), []),
  (.getfield 319, (75, 3), (9, 34, 0), (0, 0), []),
  (.ireturn, (78, 1), (0, 0, 0), (0, 0), []),
  (.bipush (-2), (79, 2), (0, 0, 0), ((-2), 0), []),
  (.ireturn, (81, 1), (0, 0, 0), (0, 0), [])]
def mm_r196 : List (List mm_R) := [mm_r196_0]
/-- 197: GlobeCornerModel.tape(III)I -/
def mm_r197_0 : List mm_R := [
  (.iload_n 1, (0, 1), (1, 0, 0), (0, 0), []),
  (.invokestatic 337, (1, 3), (198, 1, 0), (0, 0), []),
  (.ifCond .ne 5, (4, 3), (0, 5, 0), (0, 0), []),
  (.iconst (-1), (7, 1), (0, 0, 0), ((-1), 0), []),
  (.ireturn, (8, 1), (0, 0, 0), (0, 0), []),
  (.iload_n 2, (9, 1), (2, 0, 0), (0, 0), []),
  (.iconst (-1), (10, 1), (0, 0, 0), ((-1), 0), []),
  (.iconst 4, (11, 1), (0, 0, 0), (4, 0), []),
  (.invokestatic 114, (12, 3), (128, 3, 0), (0, 0), []),
  (.ifCond .eq 13, (15, 3), (0, 15, 0), (0, 0), []),
  (.iload_n 2, (18, 1), (2, 0, 0), (0, 0), []),
  (.ifCond .lt 12, (19, 3), (0, 17, 0), (0, 0), []),
  (.iload_n 3, (22, 1), (3, 0, 0), (0, 0), []),
  (.bipush 60, (23, 2), (0, 0, 0), (60, 0), []),
  (.if_icmp .le 6, (25, 3), (0, 17, 0), (0, 0), []),
  (.bipush (-2), (28, 2), (0, 0, 0), ((-2), 0), []),
  (.ireturn, (30, 1), (0, 0, 0), (0, 0), []),
  (.iload_n 2, (31, 1), (2, 0, 0), (0, 0), []),
  (.ifCond .lt 10, (32, 3), (0, 23, 0), (0, 0), []),
  (.iload_n 3, (35, 1), (3, 0, 0), (0, 0), []),
  (.ifCond .ge 6, (36, 3), (0, 23, 0), (0, 0), []),
  (.bipush (-14), (39, 2), (0, 0, 0), ((-14), 0), []),
  (.ireturn, (41, 1), (0, 0, 0), (0, 0), []),
  (.aload_n 0, (42, 1), (0, 0, 0), (0, 0), []),
  (.getfield 97, (43, 3), (9, 44, 2), (0, 0), []),
  (.iload_n 1, (46, 1), (1, 0, 0), (0, 0), []),
  (.iload_n 2, (47, 1), (2, 0, 0), (0, 0), []),
  (.iastore, (48, 1), (0, 0, 0), (0, 0), []),
  (.aload_n 0, (49, 1), (0, 0, 0), (0, 0), []),
  (.getfield 100, (50, 3), (9, 45, 2), (0, 0), []),
  (.iload_n 1, (53, 1), (1, 0, 0), (0, 0), []),
  (.iload_n 2, (54, 1), (2, 0, 0), (0, 0), [])]
def mm_r197_1 : List mm_R := [
  (.ifCond .ge 7, (55, 3), (0, 35, 0), (0, 0), []),
  (.iconst 0, (58, 1), (0, 0, 0), (0, 0), []),
  (.goto 4, (59, 3), (0, 36, 0), (0, 0), []),
  (.iload_n 3, (62, 1), (3, 0, 0), (0, 0), []),
  (.iastore, (63, 1), (0, 0, 0), (0, 0), []),
  (.iconst 0, (64, 1), (0, 0, 0), (0, 0), []),
  (.istore 4, (65, 2), (4, 0, 0), (0, 0), []),
  (.iload 4, (67, 2), (4, 0, 0), (0, 0), []),
  (.bipush 60, (69, 2), (0, 0, 0), (60, 0), []),
  (.if_icmp .ge 22, (71, 3), (0, 53, 0), (0, 0), []),
  (.aload_n 0, (74, 1), (0, 0, 0), (0, 0), []),
  (.getfield 103, (75, 3), (9, 46, 2), (0, 0), []),
  (.bipush 60, (78, 2), (0, 0, 0), (60, 0), []),
  (.iload_n 1, (80, 1), (1, 0, 0), (0, 0), []),
  (.imul, (81, 1), (0, 0, 0), (0, 0), []),
  (.iload 4, (82, 2), (4, 0, 0), (0, 0), []),
  (.iadd, (84, 1), (0, 0, 0), (0, 0), []),
  (.lconst 0, (85, 1), (0, 0, 0), (0, 0), []),
  (.lastore, (86, 1), (0, 0, 0), (0, 0), []),
  (.iinc 4 1, (87, 3), (4, 0, 0), (1, 0), []),
  (.goto (-23), (90, 3), (0, 39, 0), (0, 0), []),
  (.iconst 1, (93, 1), (0, 0, 0), (1, 0), []),
  (.ireturn, (94, 1), (0, 0, 0), (0, 0), [])]
def mm_r197 : List (List mm_R) := [mm_r197_0, mm_r197_1]
/-- 198: GlobeCornerModel.isTape(I)Z -/
def mm_r198_0 : List mm_R := [
  (.iload_n 0, (0, 1), (0, 0, 0), (0, 0), []),
  (.iconst 0, (1, 1), (0, 0, 0), (0, 0), []),
  (.iconst 5, (2, 1), (0, 0, 0), (5, 0), []),
  (.invokestatic 114, (3, 3), (128, 3, 0), (0, 0), []),
  (.ireturn, (6, 1), (1, 0, 0), (0, 0), [])]
def mm_r198 : List (List mm_R) := [mm_r198_0]
/-- 199: GlobeCornerModel.item(IIJ)I -/
def mm_r199_0 : List mm_R := [
  (.iload_n 1, (0, 1), (1, 0, 0), (0, 0), []),
  (.invokestatic 337, (1, 3), (198, 1, 0), (0, 0), []),
  (.ifCond .ne 5, (4, 3), (0, 5, 0), (0, 0), []),
  (.iconst (-1), (7, 1), (0, 0, 0), ((-1), 0), []),
  (.ireturn, (8, 1), (0, 0, 0), (0, 0), []),
  (.aload_n 0, (9, 1), (0, 0, 0), (0, 0), []),
  (.getfield 97, (10, 3), (9, 44, 2), (0, 0), []),
  (.iload_n 1, (13, 1), (1, 0, 0), (0, 0), []),
  (.iaload, (14, 1), (0, 0, 0), (0, 0), []),
  (.ifCond .ge 6, (15, 3), (0, 12, 0), (0, 0), []),
  (.bipush (-11), (18, 2), (0, 0, 0), ((-11), 0), []),
  (.ireturn, (20, 1), (0, 0, 0), (0, 0), []),
  (.iload_n 2, (21, 1), (2, 0, 0), (0, 0), []),
  (.iconst 0, (22, 1), (0, 0, 0), (0, 0), []),
  (.aload_n 0, (23, 1), (0, 0, 0), (0, 0), []),
  (.getfield 100, (24, 3), (9, 45, 2), (0, 0), []),
  (.iload_n 1, (27, 1), (1, 0, 0), (0, 0), []),
  (.iaload, (28, 1), (0, 0, 0), (0, 0), []),
  (.iconst 1, (29, 1), (0, 0, 0), (1, 0), []),
  (.isub, (30, 1), (0, 0, 0), (0, 0), []),
  (.invokestatic 114, (31, 3), (128, 3, 0), (0, 0), []),
  (.ifCond .ne 6, (34, 3), (0, 24, 0), (0, 0), []),
  (.bipush (-13), (37, 2), (0, 0, 0), ((-13), 0), []),
  (.ireturn, (39, 1), (0, 0, 0), (0, 0), []),
  (.aload_n 0, (40, 1), (0, 0, 0), (0, 0), []),
  (.getfield 103, (41, 3), (9, 46, 2), (0, 0), []),
  (.bipush 60, (44, 2), (0, 0, 0), (60, 0), []),
  (.iload_n 1, (46, 1), (1, 0, 0), (0, 0), []),
  (.imul, (47, 1), (0, 0, 0), (0, 0), []),
  (.iload_n 2, (48, 1), (2, 0, 0), (0, 0), []),
  (.iadd, (49, 1), (0, 0, 0), (0, 0), []),
  (.aload_n 0, (50, 1), (0, 0, 0), (0, 0), [])]
def mm_r199_1 : List mm_R := [
  (.getfield 97, (51, 3), (9, 44, 2), (0, 0), []),
  (.iload_n 1, (54, 1), (1, 0, 0), (0, 0), []),
  (.iaload, (55, 1), (0, 0, 0), (0, 0), []),
  (.lload_n 3, (56, 1), (3, 0, 0), (0, 0), []),
  (.invokestatic 340, (57, 3), (200, 2, 0), (0, 0), []),
  (.lastore, (60, 1), (0, 0, 0), (0, 0), []),
  (.iconst 1, (61, 1), (0, 0, 0), (1, 0), []),
  (.ireturn, (62, 1), (0, 0, 0), (0, 0), [])]
def mm_r199 : List (List mm_R) := [mm_r199_0, mm_r199_1]
/-- 200: GlobeCornerModel.kept(IJ)J -/
def mm_r200_0 : List mm_R := [
  (.iload_n 0, (0, 1), (0, 0, 0), (0, 0), []),
  (.tableswitch 47 0 3 #[31, 36, 41, 45], (1, 31), (0, 18, 0), (0, 0), [(0, 2), (1, 7), (2, 12), (3, 16)]),
  (.lload_n 1, (32, 1), (1, 0, 0), (0, 0), []),
  (.l2i, (33, 1), (0, 0, 0), (0, 0), []),
  (.i2b, (34, 1), (0, 0, 0), (0, 0), []),
  (.i2l, (35, 1), (0, 0, 0), (0, 0), []),
  (.lreturn, (36, 1), (0, 0, 0), (0, 0), []),
  (.lload_n 1, (37, 1), (1, 0, 0), (0, 0), []),
  (.l2i, (38, 1), (0, 0, 0), (0, 0), []),
  (.i2s, (39, 1), (0, 0, 0), (0, 0), []),
  (.i2l, (40, 1), (0, 0, 0), (0, 0), []),
  (.lreturn, (41, 1), (0, 0, 0), (0, 0), []),
  (.lload_n 1, (42, 1), (1, 0, 0), (0, 0), []),
  (.l2i, (43, 1), (0, 0, 0), (0, 0), []),
  (.i2l, (44, 1), (0, 0, 0), (0, 0), []),
  (.lreturn, (45, 1), (0, 0, 0), (0, 0), []),
  (.lload_n 1, (46, 1), (1, 0, 0), (0, 0), []),
  (.lreturn, (47, 1), (0, 0, 0), (0, 0), []),
  (.lload_n 1, (48, 1), (1, 0, 0), (0, 0), []),
  (.lconst 0, (49, 1), (0, 0, 0), (0, 0), []),
  (.lcmp, (50, 1), (0, 0, 0), (0, 0), []),
  (.ifCond .eq 7, (51, 3), (0, 24, 0), (0, 0), []),
  (.lconst 1, (54, 1), (0, 0, 0), (0, 1), []),
  (.goto 4, (55, 3), (0, 25, 0), (0, 0), []),
  (.lconst 0, (58, 1), (0, 0, 0), (0, 0), []),
  (.lreturn, (59, 1), (0, 0, 0), (0, 0), [])]
def mm_r200 : List (List mm_R) := [mm_r200_0]
/-- 201: GlobeCornerModel.read(II)J -/
def mm_r201_0 : List mm_R := [
  (.iload_n 1, (0, 1), (1, 0, 0), (0, 0), []),
  (.invokestatic 337, (1, 3), (198, 1, 0), (0, 0), []),
  (.ifCond .eq 42, (4, 3), (0, 27, 0), (0, 0), []),
  (.aload_n 0, (7, 1), (0, 0, 0), (0, 0), []),
  (.getfield 97, (8, 3), (9, 44, 2), (0, 0), []),
  (.iload_n 1, (11, 1), (1, 0, 0), (0, 0), []),
  (.iaload, (12, 1), (0, 0, 0), (0, 0), []),
  (.ifCond .lt 33, (13, 3), (0, 27, 0), (0, 0), []),
  (.iload_n 2, (16, 1), (2, 0, 0), (0, 0), []),
  (.iconst 0, (17, 1), (0, 0, 0), (0, 0), []),
  (.aload_n 0, (18, 1), (0, 0, 0), (0, 0), []),
  (.getfield 100, (19, 3), (9, 45, 2), (0, 0), []),
  (.iload_n 1, (22, 1), (1, 0, 0), (0, 0), []),
  (.iaload, (23, 1), (0, 0, 0), (0, 0), []),
  (.iconst 1, (24, 1), (0, 0, 0), (1, 0), []),
  (.isub, (25, 1), (0, 0, 0), (0, 0), []),
  (.invokestatic 114, (26, 3), (128, 3, 0), (0, 0), []),
  (.ifCond .eq 17, (29, 3), (0, 27, 0), (0, 0), []),
  (.aload_n 0, (32, 1), (0, 0, 0), (0, 0), []),
  (.getfield 103, (33, 3), (9, 46, 2), (0, 0), []),
  (.bipush 60, (36, 2), (0, 0, 0), (60, 0), []),
  (.iload_n 1, (38, 1), (1, 0, 0), (0, 0), []),
  (.imul, (39, 1), (0, 0, 0), (0, 0), []),
  (.iload_n 2, (40, 1), (2, 0, 0), (0, 0), []),
  (.iadd, (41, 1), (0, 0, 0), (0, 0), []),
  (.laload, (42, 1), (0, 0, 0), (0, 0), []),
  (.goto 6, (43, 3), (0, 28, 0), (0, 0), []),
  (.ldc2_w 295, (46, 3), (0, 0, 0), (0, (-9223372036854775808)), []),
  (.lreturn, (49, 1), (0, 0, 0), (0, 0), [])]
def mm_r201 : List (List mm_R) := [mm_r201_0]
/-- 202: GlobeCornerModel.shift(IIIII)I -/
def mm_r202_0 : List mm_R := [
  (.iload_n 1, (0, 1), (1, 0, 0), (0, 0), []),
  (.invokestatic 337, (1, 3), (198, 1, 0), (0, 0), []),
  (.ifCond .eq 10, (4, 3), (0, 6, 0), (0, 0), []),
  (.iload_n 3, (7, 1), (3, 0, 0), (0, 0), []),
  (.invokestatic 337, (8, 3), (198, 1, 0), (0, 0), []),
  (.ifCond .ne 5, (11, 3), (0, 8, 0), (0, 0), []),
  (.iconst (-1), (14, 1), (0, 0, 0), ((-1), 0), []),
  (.ireturn, (15, 1), (0, 0, 0), (0, 0), []),
  (.aload_n 0, (16, 1), (0, 0, 0), (0, 0), []),
  (.getfield 97, (17, 3), (9, 44, 2), (0, 0), []),
  (.iload_n 1, (20, 1), (1, 0, 0), (0, 0), []),
  (.iaload, (21, 1), (0, 0, 0), (0, 0), []),
  (.ifCond .lt 12, (22, 3), (0, 18, 0), (0, 0), []),
  (.aload_n 0, (25, 1), (0, 0, 0), (0, 0), []),
  (.getfield 97, (26, 3), (9, 44, 2), (0, 0), []),
  (.iload_n 3, (29, 1), (3, 0, 0), (0, 0), []),
  (.iaload, (30, 1), (0, 0, 0), (0, 0), []),
  (.ifCond .ge 6, (31, 3), (0, 20, 0), (0, 0), []),
  (.bipush (-11), (34, 2), (0, 0, 0), ((-11), 0), []),
  (.ireturn, (36, 1), (0, 0, 0), (0, 0), []),
  (.aload_n 0, (37, 1), (0, 0, 0), (0, 0), []),
  (.getfield 97, (38, 3), (9, 44, 2), (0, 0), []),
  (.iload_n 1, (41, 1), (1, 0, 0), (0, 0), []),
  (.iaload, (42, 1), (0, 0, 0), (0, 0), []),
  (.aload_n 0, (43, 1), (0, 0, 0), (0, 0), []),
  (.getfield 97, (44, 3), (9, 44, 2), (0, 0), []),
  (.iload_n 3, (47, 1), (3, 0, 0), (0, 0), []),
  (.iaload, (48, 1), (0, 0, 0), (0, 0), []),
  (.if_icmp .eq 6, (49, 3), (0, 31, 0), (0, 0), []),
  (.bipush (-12), (52, 2), (0, 0, 0), ((-12), 0), []),
  (.ireturn, (54, 1), (0, 0, 0), (0, 0), []),
  (.iload 5, (55, 2), (5, 0, 0), (0, 0), [])]
def mm_r202_1 : List mm_R := [
  (.ifCond .lt 47, (57, 3), (0, 61, 0), (0, 0), []),
  (.iload_n 2, (60, 1), (2, 0, 0), (0, 0), []),
  (.ifCond .lt 43, (61, 3), (0, 61, 0), (0, 0), []),
  (.iload 4, (64, 2), (4, 0, 0), (0, 0), []),
  (.ifCond .lt 38, (66, 3), (0, 61, 0), (0, 0), []),
  (.iload_n 2, (69, 1), (2, 0, 0), (0, 0), []),
  (.i2l, (70, 1), (0, 0, 0), (0, 0), []),
  (.iload 5, (71, 2), (5, 0, 0), (0, 0), []),
  (.i2l, (73, 1), (0, 0, 0), (0, 0), []),
  (.ladd, (74, 1), (0, 0, 0), (0, 0), []),
  (.aload_n 0, (75, 1), (0, 0, 0), (0, 0), []),
  (.getfield 100, (76, 3), (9, 45, 2), (0, 0), []),
  (.iload_n 1, (79, 1), (1, 0, 0), (0, 0), []),
  (.iaload, (80, 1), (0, 0, 0), (0, 0), []),
  (.i2l, (81, 1), (0, 0, 0), (0, 0), []),
  (.lcmp, (82, 1), (0, 0, 0), (0, 0), []),
  (.ifCond .gt 21, (83, 3), (0, 61, 0), (0, 0), []),
  (.iload 4, (86, 2), (4, 0, 0), (0, 0), []),
  (.i2l, (88, 1), (0, 0, 0), (0, 0), []),
  (.iload 5, (89, 2), (5, 0, 0), (0, 0), []),
  (.i2l, (91, 1), (0, 0, 0), (0, 0), []),
  (.ladd, (92, 1), (0, 0, 0), (0, 0), []),
  (.aload_n 0, (93, 1), (0, 0, 0), (0, 0), []),
  (.getfield 100, (94, 3), (9, 45, 2), (0, 0), []),
  (.iload_n 3, (97, 1), (3, 0, 0), (0, 0), []),
  (.iaload, (98, 1), (0, 0, 0), (0, 0), []),
  (.i2l, (99, 1), (0, 0, 0), (0, 0), []),
  (.lcmp, (100, 1), (0, 0, 0), (0, 0), []),
  (.ifCond .le 6, (101, 3), (0, 63, 0), (0, 0), []),
  (.bipush (-13), (104, 2), (0, 0, 0), ((-13), 0), []),
  (.ireturn, (106, 1), (0, 0, 0), (0, 0), []),
  (.iload_n 1, (107, 1), (1, 0, 0), (0, 0), [])]
def mm_r202_2 : List mm_R := [
  (.iload_n 3, (108, 1), (3, 0, 0), (0, 0), []),
  (.if_icmp .ne 58, (109, 3), (0, 98, 0), (0, 0), []),
  (.iload_n 2, (112, 1), (2, 0, 0), (0, 0), []),
  (.iload 4, (113, 2), (4, 0, 0), (0, 0), []),
  (.if_icmp .ge 52, (115, 3), (0, 98, 0), (0, 0), []),
  (.iload 5, (118, 2), (5, 0, 0), (0, 0), []),
  (.iconst 1, (120, 1), (0, 0, 0), (1, 0), []),
  (.isub, (121, 1), (0, 0, 0), (0, 0), []),
  (.istore 6, (122, 2), (6, 0, 0), (0, 0), []),
  (.iload 6, (124, 2), (6, 0, 0), (0, 0), []),
  (.ifCond .lt 38, (126, 3), (0, 97, 0), (0, 0), []),
  (.aload_n 0, (129, 1), (0, 0, 0), (0, 0), []),
  (.getfield 103, (130, 3), (9, 46, 2), (0, 0), []),
  (.bipush 60, (133, 2), (0, 0, 0), (60, 0), []),
  (.iload_n 3, (135, 1), (3, 0, 0), (0, 0), []),
  (.imul, (136, 1), (0, 0, 0), (0, 0), []),
  (.iload 4, (137, 2), (4, 0, 0), (0, 0), []),
  (.iadd, (139, 1), (0, 0, 0), (0, 0), []),
  (.iload 6, (140, 2), (6, 0, 0), (0, 0), []),
  (.iadd, (142, 1), (0, 0, 0), (0, 0), []),
  (.aload_n 0, (143, 1), (0, 0, 0), (0, 0), []),
  (.getfield 103, (144, 3), (9, 46, 2), (0, 0), []),
  (.bipush 60, (147, 2), (0, 0, 0), (60, 0), []),
  (.iload_n 1, (149, 1), (1, 0, 0), (0, 0), []),
  (.imul, (150, 1), (0, 0, 0), (0, 0), []),
  (.iload_n 2, (151, 1), (2, 0, 0), (0, 0), []),
  (.iadd, (152, 1), (0, 0, 0), (0, 0), []),
  (.iload 6, (153, 2), (6, 0, 0), (0, 0), []),
  (.iadd, (155, 1), (0, 0, 0), (0, 0), []),
  (.laload, (156, 1), (0, 0, 0), (0, 0), []),
  (.lastore, (157, 1), (0, 0, 0), (0, 0), []),
  (.iinc 6 (-1), (158, 3), (6, 0, 0), ((-1), 0), [])]
def mm_r202_3 : List mm_R := [
  (.goto (-37), (161, 3), (0, 73, 0), (0, 0), []),
  (.goto 48, (164, 3), (0, 125, 0), (0, 0), []),
  (.iconst 0, (167, 1), (0, 0, 0), (0, 0), []),
  (.istore 6, (168, 2), (6, 0, 0), (0, 0), []),
  (.iload 6, (170, 2), (6, 0, 0), (0, 0), []),
  (.iload 5, (172, 2), (5, 0, 0), (0, 0), []),
  (.if_icmp .ge 38, (174, 3), (0, 125, 0), (0, 0), []),
  (.aload_n 0, (177, 1), (0, 0, 0), (0, 0), []),
  (.getfield 103, (178, 3), (9, 46, 2), (0, 0), []),
  (.bipush 60, (181, 2), (0, 0, 0), (60, 0), []),
  (.iload_n 3, (183, 1), (3, 0, 0), (0, 0), []),
  (.imul, (184, 1), (0, 0, 0), (0, 0), []),
  (.iload 4, (185, 2), (4, 0, 0), (0, 0), []),
  (.iadd, (187, 1), (0, 0, 0), (0, 0), []),
  (.iload 6, (188, 2), (6, 0, 0), (0, 0), []),
  (.iadd, (190, 1), (0, 0, 0), (0, 0), []),
  (.aload_n 0, (191, 1), (0, 0, 0), (0, 0), []),
  (.getfield 103, (192, 3), (9, 46, 2), (0, 0), []),
  (.bipush 60, (195, 2), (0, 0, 0), (60, 0), []),
  (.iload_n 1, (197, 1), (1, 0, 0), (0, 0), []),
  (.imul, (198, 1), (0, 0, 0), (0, 0), []),
  (.iload_n 2, (199, 1), (2, 0, 0), (0, 0), []),
  (.iadd, (200, 1), (0, 0, 0), (0, 0), []),
  (.iload 6, (201, 2), (6, 0, 0), (0, 0), []),
  (.iadd, (203, 1), (0, 0, 0), (0, 0), []),
  (.laload, (204, 1), (0, 0, 0), (0, 0), []),
  (.lastore, (205, 1), (0, 0, 0), (0, 0), []),
  (.iinc 6 1, (206, 3), (6, 0, 0), (1, 0), []),
  (.goto (-39), (209, 3), (0, 100, 0), (0, 0), []),
  (.iload 5, (212, 2), (5, 0, 0), (0, 0), []),
  (.ireturn, (214, 1), (0, 0, 0), (0, 0), [])]
def mm_r202 : List (List mm_R) := [mm_r202_0, mm_r202_1, mm_r202_2, mm_r202_3]
end
section
/-- 203: GlobeCornerLaw.law([I)Z -/
def mm_r203_0 : List mm_R := [
  (.new 7, (0, 3), (8, 0, 0), (0, 0), []),
  (.dup, (3, 1), (0, 0, 0), (0, 0), []),
  (.invokespecial 9, (4, 3), (84, 1, 2), (0, 0), []),
  (.astore_n 1, (7, 1), (1, 0, 0), (0, 0), []),
  (.new 10, (8, 3), (9, 0, 0), (0, 0), []),
  (.dup, (11, 1), (0, 0, 0), (0, 0), []),
  (.invokespecial 12, (12, 3), (126, 1, 2), (0, 0), []),
  (.astore_n 2, (15, 1), (2, 0, 0), (0, 0), []),
  (.iconst 0, (16, 1), (0, 0, 0), (0, 0), []),
  (.istore_n 3, (17, 1), (3, 0, 0), (0, 0), []),
  (.iload_n 3, (18, 1), (3, 0, 0), (0, 0), []),
  (.aload_n 0, (19, 1), (0, 0, 0), (0, 0), []),
  (.arraylength, (20, 1), (0, 0, 0), (0, 0), []),
  (.bipush 6, (21, 2), (0, 0, 0), (6, 0), []),
  (.isub, (23, 1), (0, 0, 0), (0, 0), []),
  (.if_icmp .gt 1241, (24, 3), (0, 889, 0), (0, 0), []),
  (.aload_n 0, (27, 1), (0, 0, 0), (0, 0), []),
  (.iload_n 3, (28, 1), (3, 0, 0), (0, 0), []),
  (.iaload, (29, 1), (0, 0, 0), (0, 0), []),
  (.bipush 63, (30, 2), (0, 0, 0), (63, 0), []),
  (.iand, (32, 1), (0, 0, 0), (0, 0), []),
  (.tableswitch 1226 0 33 #[151, 184, 217, 250, 283, 316, 339, 352, 395, 418, 431, 454, 477, 510, 543, 566, 609, 642, 696, 730, 763, 786, 819, 832, 865, 878, 891, 934, 957, 990, 1013, 1056, 1129, 1163], (33, 151), (0, 887, 0), (0, 0), [(0, 22), (1, 49), (2, 76), (3, 103), (4, 130), (5, 157), (6, 174), (7, 181), (8, 218), (9, 235), (10, 242), (11, 259), (12, 276), (13, 303), (14, 330), (15, 347), (16, 384), (17, 411), (18, 459), (19, 487), (20, 514), (21, 531), (22, 558), (23, 565), (24, 592), (25, 599), (26, 606), (27, 643), (28, 660), (29, 687), (30, 704), (31, 741), (32, 802), (33, 830)]),
  (.aload_n 1, (184, 1), (1, 0, 0), (0, 0), []),
  (.aload_n 0, (185, 1), (0, 0, 0), (0, 0), []),
  (.iload_n 3, (186, 1), (3, 0, 0), (0, 0), []),
  (.iconst 1, (187, 1), (0, 0, 0), (1, 0), []),
  (.iadd, (188, 1), (0, 0, 0), (0, 0), []),
  (.iaload, (189, 1), (0, 0, 0), (0, 0), []),
  (.aload_n 0, (190, 1), (0, 0, 0), (0, 0), []),
  (.iload_n 3, (191, 1), (3, 0, 0), (0, 0), []),
  (.iconst 2, (192, 1), (0, 0, 0), (2, 0), []),
  (.iadd, (193, 1), (0, 0, 0), (0, 0), [])]
def mm_r203_1 : List mm_R := [
  (.iaload, (194, 1), (0, 0, 0), (0, 0), []),
  (.invokevirtual 13, (195, 3), (85, 3, 1), (0, 0), []),
  (.aload_n 2, (198, 1), (2, 0, 0), (0, 0), []),
  (.aload_n 0, (199, 1), (0, 0, 0), (0, 0), []),
  (.iload_n 3, (200, 1), (3, 0, 0), (0, 0), []),
  (.iconst 1, (201, 1), (0, 0, 0), (1, 0), []),
  (.iadd, (202, 1), (0, 0, 0), (0, 0), []),
  (.iaload, (203, 1), (0, 0, 0), (0, 0), []),
  (.aload_n 0, (204, 1), (0, 0, 0), (0, 0), []),
  (.iload_n 3, (205, 1), (3, 0, 0), (0, 0), []),
  (.iconst 2, (206, 1), (0, 0, 0), (2, 0), []),
  (.iadd, (207, 1), (0, 0, 0), (0, 0), []),
  (.iaload, (208, 1), (0, 0, 0), (0, 0), []),
  (.invokevirtual 17, (209, 3), (127, 3, 1), (0, 0), []),
  (.if_icmp .eq 1047, (212, 3), (0, 887, 0), (0, 0), []),
  (.iconst 0, (215, 1), (0, 0, 0), (0, 0), []),
  (.ireturn, (216, 1), (1, 0, 0), (0, 0), []),
  (.aload_n 1, (217, 1), (1, 0, 0), (0, 0), []),
  (.aload_n 0, (218, 1), (0, 0, 0), (0, 0), []),
  (.iload_n 3, (219, 1), (3, 0, 0), (0, 0), []),
  (.iconst 1, (220, 1), (0, 0, 0), (1, 0), []),
  (.iadd, (221, 1), (0, 0, 0), (0, 0), []),
  (.iaload, (222, 1), (0, 0, 0), (0, 0), []),
  (.aload_n 0, (223, 1), (0, 0, 0), (0, 0), []),
  (.iload_n 3, (224, 1), (3, 0, 0), (0, 0), []),
  (.iconst 2, (225, 1), (0, 0, 0), (2, 0), []),
  (.iadd, (226, 1), (0, 0, 0), (0, 0), []),
  (.iaload, (227, 1), (0, 0, 0), (0, 0), []),
  (.invokevirtual 18, (228, 3), (87, 3, 1), (0, 0), []),
  (.aload_n 2, (231, 1), (2, 0, 0), (0, 0), []),
  (.aload_n 0, (232, 1), (0, 0, 0), (0, 0), []),
  (.iload_n 3, (233, 1), (3, 0, 0), (0, 0), [])]
def mm_r203_2 : List mm_R := [
  (.iconst 1, (234, 1), (0, 0, 0), (1, 0), []),
  (.iadd, (235, 1), (0, 0, 0), (0, 0), []),
  (.iaload, (236, 1), (0, 0, 0), (0, 0), []),
  (.aload_n 0, (237, 1), (0, 0, 0), (0, 0), []),
  (.iload_n 3, (238, 1), (3, 0, 0), (0, 0), []),
  (.iconst 2, (239, 1), (0, 0, 0), (2, 0), []),
  (.iadd, (240, 1), (0, 0, 0), (0, 0), []),
  (.iaload, (241, 1), (0, 0, 0), (0, 0), []),
  (.invokevirtual 21, (242, 3), (129, 3, 1), (0, 0), []),
  (.if_icmp .eq 1014, (245, 3), (0, 887, 0), (0, 0), []),
  (.iconst 0, (248, 1), (0, 0, 0), (0, 0), []),
  (.ireturn, (249, 1), (1, 0, 0), (0, 0), []),
  (.aload_n 1, (250, 1), (1, 0, 0), (0, 0), []),
  (.aload_n 0, (251, 1), (0, 0, 0), (0, 0), []),
  (.iload_n 3, (252, 1), (3, 0, 0), (0, 0), []),
  (.iconst 1, (253, 1), (0, 0, 0), (1, 0), []),
  (.iadd, (254, 1), (0, 0, 0), (0, 0), []),
  (.iaload, (255, 1), (0, 0, 0), (0, 0), []),
  (.aload_n 0, (256, 1), (0, 0, 0), (0, 0), []),
  (.iload_n 3, (257, 1), (3, 0, 0), (0, 0), []),
  (.iconst 2, (258, 1), (0, 0, 0), (2, 0), []),
  (.iadd, (259, 1), (0, 0, 0), (0, 0), []),
  (.iaload, (260, 1), (0, 0, 0), (0, 0), []),
  (.invokevirtual 22, (261, 3), (90, 3, 1), (0, 0), []),
  (.aload_n 2, (264, 1), (2, 0, 0), (0, 0), []),
  (.aload_n 0, (265, 1), (0, 0, 0), (0, 0), []),
  (.iload_n 3, (266, 1), (3, 0, 0), (0, 0), []),
  (.iconst 1, (267, 1), (0, 0, 0), (1, 0), []),
  (.iadd, (268, 1), (0, 0, 0), (0, 0), []),
  (.iaload, (269, 1), (0, 0, 0), (0, 0), []),
  (.aload_n 0, (270, 1), (0, 0, 0), (0, 0), []),
  (.iload_n 3, (271, 1), (3, 0, 0), (0, 0), [])]
def mm_r203_3 : List mm_R := [
  (.iconst 2, (272, 1), (0, 0, 0), (2, 0), []),
  (.iadd, (273, 1), (0, 0, 0), (0, 0), []),
  (.iaload, (274, 1), (0, 0, 0), (0, 0), []),
  (.invokevirtual 25, (275, 3), (137, 3, 1), (0, 0), []),
  (.if_icmp .eq 981, (278, 3), (0, 887, 0), (0, 0), []),
  (.iconst 0, (281, 1), (0, 0, 0), (0, 0), []),
  (.ireturn, (282, 1), (1, 0, 0), (0, 0), []),
  (.aload_n 1, (283, 1), (1, 0, 0), (0, 0), []),
  (.aload_n 0, (284, 1), (0, 0, 0), (0, 0), []),
  (.iload_n 3, (285, 1), (3, 0, 0), (0, 0), []),
  (.iconst 1, (286, 1), (0, 0, 0), (1, 0), []),
  (.iadd, (287, 1), (0, 0, 0), (0, 0), []),
  (.iaload, (288, 1), (0, 0, 0), (0, 0), []),
  (.aload_n 0, (289, 1), (0, 0, 0), (0, 0), []),
  (.iload_n 3, (290, 1), (3, 0, 0), (0, 0), []),
  (.iconst 2, (291, 1), (0, 0, 0), (2, 0), []),
  (.iadd, (292, 1), (0, 0, 0), (0, 0), []),
  (.iaload, (293, 1), (0, 0, 0), (0, 0), []),
  (.invokevirtual 26, (294, 3), (93, 3, 1), (0, 0), []),
  (.aload_n 2, (297, 1), (2, 0, 0), (0, 0), []),
  (.aload_n 0, (298, 1), (0, 0, 0), (0, 0), []),
  (.iload_n 3, (299, 1), (3, 0, 0), (0, 0), []),
  (.iconst 1, (300, 1), (0, 0, 0), (1, 0), []),
  (.iadd, (301, 1), (0, 0, 0), (0, 0), []),
  (.iaload, (302, 1), (0, 0, 0), (0, 0), []),
  (.aload_n 0, (303, 1), (0, 0, 0), (0, 0), []),
  (.iload_n 3, (304, 1), (3, 0, 0), (0, 0), []),
  (.iconst 2, (305, 1), (0, 0, 0), (2, 0), []),
  (.iadd, (306, 1), (0, 0, 0), (0, 0), []),
  (.iaload, (307, 1), (0, 0, 0), (0, 0), []),
  (.invokevirtual 29, (308, 3), (145, 3, 1), (0, 0), []),
  (.if_icmp .eq 948, (311, 3), (0, 887, 0), (0, 0), [])]
def mm_r203_4 : List mm_R := [
  (.iconst 0, (314, 1), (0, 0, 0), (0, 0), []),
  (.ireturn, (315, 1), (1, 0, 0), (0, 0), []),
  (.aload_n 1, (316, 1), (1, 0, 0), (0, 0), []),
  (.aload_n 0, (317, 1), (0, 0, 0), (0, 0), []),
  (.iload_n 3, (318, 1), (3, 0, 0), (0, 0), []),
  (.iconst 1, (319, 1), (0, 0, 0), (1, 0), []),
  (.iadd, (320, 1), (0, 0, 0), (0, 0), []),
  (.iaload, (321, 1), (0, 0, 0), (0, 0), []),
  (.aload_n 0, (322, 1), (0, 0, 0), (0, 0), []),
  (.iload_n 3, (323, 1), (3, 0, 0), (0, 0), []),
  (.iconst 2, (324, 1), (0, 0, 0), (2, 0), []),
  (.iadd, (325, 1), (0, 0, 0), (0, 0), []),
  (.iaload, (326, 1), (0, 0, 0), (0, 0), []),
  (.invokevirtual 30, (327, 3), (94, 3, 1), (0, 0), []),
  (.aload_n 2, (330, 1), (2, 0, 0), (0, 0), []),
  (.aload_n 0, (331, 1), (0, 0, 0), (0, 0), []),
  (.iload_n 3, (332, 1), (3, 0, 0), (0, 0), []),
  (.iconst 1, (333, 1), (0, 0, 0), (1, 0), []),
  (.iadd, (334, 1), (0, 0, 0), (0, 0), []),
  (.iaload, (335, 1), (0, 0, 0), (0, 0), []),
  (.aload_n 0, (336, 1), (0, 0, 0), (0, 0), []),
  (.iload_n 3, (337, 1), (3, 0, 0), (0, 0), []),
  (.iconst 2, (338, 1), (0, 0, 0), (2, 0), []),
  (.iadd, (339, 1), (0, 0, 0), (0, 0), []),
  (.iaload, (340, 1), (0, 0, 0), (0, 0), []),
  (.invokevirtual 33, (341, 3), (146, 3, 1), (0, 0), []),
  (.if_icmp .eq 915, (344, 3), (0, 887, 0), (0, 0), []),
  (.iconst 0, (347, 1), (0, 0, 0), (0, 0), []),
  (.ireturn, (348, 1), (1, 0, 0), (0, 0), []),
  (.aload_n 1, (349, 1), (1, 0, 0), (0, 0), []),
  (.aload_n 0, (350, 1), (0, 0, 0), (0, 0), []),
  (.iload_n 3, (351, 1), (3, 0, 0), (0, 0), [])]
def mm_r203_5 : List mm_R := [
  (.iconst 1, (352, 1), (0, 0, 0), (1, 0), []),
  (.iadd, (353, 1), (0, 0, 0), (0, 0), []),
  (.iaload, (354, 1), (0, 0, 0), (0, 0), []),
  (.invokevirtual 34, (355, 3), (95, 2, 1), (0, 0), []),
  (.aload_n 2, (358, 1), (2, 0, 0), (0, 0), []),
  (.aload_n 0, (359, 1), (0, 0, 0), (0, 0), []),
  (.iload_n 3, (360, 1), (3, 0, 0), (0, 0), []),
  (.iconst 1, (361, 1), (0, 0, 0), (1, 0), []),
  (.iadd, (362, 1), (0, 0, 0), (0, 0), []),
  (.iaload, (363, 1), (0, 0, 0), (0, 0), []),
  (.invokevirtual 38, (364, 3), (148, 2, 1), (0, 0), []),
  (.if_icmp .eq 892, (367, 3), (0, 887, 0), (0, 0), []),
  (.iconst 0, (370, 1), (0, 0, 0), (0, 0), []),
  (.ireturn, (371, 1), (1, 0, 0), (0, 0), []),
  (.aload_n 1, (372, 1), (1, 0, 0), (0, 0), []),
  (.invokevirtual 39, (373, 3), (96, 1, 1), (0, 0), []),
  (.aload_n 2, (376, 1), (2, 0, 0), (0, 0), []),
  (.invokevirtual 43, (377, 3), (151, 1, 1), (0, 0), []),
  (.if_icmp .eq 879, (380, 3), (0, 887, 0), (0, 0), []),
  (.iconst 0, (383, 1), (0, 0, 0), (0, 0), []),
  (.ireturn, (384, 1), (1, 0, 0), (0, 0), []),
  (.aload_n 1, (385, 1), (1, 0, 0), (0, 0), []),
  (.aload_n 0, (386, 1), (0, 0, 0), (0, 0), []),
  (.iload_n 3, (387, 1), (3, 0, 0), (0, 0), []),
  (.iconst 1, (388, 1), (0, 0, 0), (1, 0), []),
  (.iadd, (389, 1), (0, 0, 0), (0, 0), []),
  (.iaload, (390, 1), (0, 0, 0), (0, 0), []),
  (.aload_n 0, (391, 1), (0, 0, 0), (0, 0), []),
  (.iload_n 3, (392, 1), (3, 0, 0), (0, 0), []),
  (.iconst 2, (393, 1), (0, 0, 0), (2, 0), []),
  (.iadd, (394, 1), (0, 0, 0), (0, 0), []),
  (.iaload, (395, 1), (0, 0, 0), (0, 0), [])]
def mm_r203_6 : List mm_R := [
  (.aload_n 0, (396, 1), (0, 0, 0), (0, 0), []),
  (.iload_n 3, (397, 1), (3, 0, 0), (0, 0), []),
  (.iconst 3, (398, 1), (0, 0, 0), (3, 0), []),
  (.iadd, (399, 1), (0, 0, 0), (0, 0), []),
  (.iaload, (400, 1), (0, 0, 0), (0, 0), []),
  (.invokevirtual 44, (401, 3), (97, 4, 1), (0, 0), []),
  (.aload_n 2, (404, 1), (2, 0, 0), (0, 0), []),
  (.aload_n 0, (405, 1), (0, 0, 0), (0, 0), []),
  (.iload_n 3, (406, 1), (3, 0, 0), (0, 0), []),
  (.iconst 1, (407, 1), (0, 0, 0), (1, 0), []),
  (.iadd, (408, 1), (0, 0, 0), (0, 0), []),
  (.iaload, (409, 1), (0, 0, 0), (0, 0), []),
  (.aload_n 0, (410, 1), (0, 0, 0), (0, 0), []),
  (.iload_n 3, (411, 1), (3, 0, 0), (0, 0), []),
  (.iconst 2, (412, 1), (0, 0, 0), (2, 0), []),
  (.iadd, (413, 1), (0, 0, 0), (0, 0), []),
  (.iaload, (414, 1), (0, 0, 0), (0, 0), []),
  (.aload_n 0, (415, 1), (0, 0, 0), (0, 0), []),
  (.iload_n 3, (416, 1), (3, 0, 0), (0, 0), []),
  (.iconst 3, (417, 1), (0, 0, 0), (3, 0), []),
  (.iadd, (418, 1), (0, 0, 0), (0, 0), []),
  (.iaload, (419, 1), (0, 0, 0), (0, 0), []),
  (.invokevirtual 48, (420, 3), (152, 4, 1), (0, 0), []),
  (.if_icmp .eq 836, (423, 3), (0, 887, 0), (0, 0), []),
  (.iconst 0, (426, 1), (0, 0, 0), (0, 0), []),
  (.ireturn, (427, 1), (1, 0, 0), (0, 0), []),
  (.aload_n 1, (428, 1), (1, 0, 0), (0, 0), []),
  (.aload_n 0, (429, 1), (0, 0, 0), (0, 0), []),
  (.iload_n 3, (430, 1), (3, 0, 0), (0, 0), []),
  (.iconst 1, (431, 1), (0, 0, 0), (1, 0), []),
  (.iadd, (432, 1), (0, 0, 0), (0, 0), []),
  (.iaload, (433, 1), (0, 0, 0), (0, 0), [])]
def mm_r203_7 : List mm_R := [
  (.invokevirtual 49, (434, 3), (98, 2, 1), (0, 0), []),
  (.aload_n 2, (437, 1), (2, 0, 0), (0, 0), []),
  (.aload_n 0, (438, 1), (0, 0, 0), (0, 0), []),
  (.iload_n 3, (439, 1), (3, 0, 0), (0, 0), []),
  (.iconst 1, (440, 1), (0, 0, 0), (1, 0), []),
  (.iadd, (441, 1), (0, 0, 0), (0, 0), []),
  (.iaload, (442, 1), (0, 0, 0), (0, 0), []),
  (.invokevirtual 52, (443, 3), (153, 2, 1), (0, 0), []),
  (.if_icmp .eq 813, (446, 3), (0, 887, 0), (0, 0), []),
  (.iconst 0, (449, 1), (0, 0, 0), (0, 0), []),
  (.ireturn, (450, 1), (1, 0, 0), (0, 0), []),
  (.aload_n 1, (451, 1), (1, 0, 0), (0, 0), []),
  (.invokevirtual 53, (452, 3), (99, 1, 1), (0, 0), []),
  (.aload_n 2, (455, 1), (2, 0, 0), (0, 0), []),
  (.invokevirtual 56, (456, 3), (154, 1, 1), (0, 0), []),
  (.if_icmp .eq 800, (459, 3), (0, 887, 0), (0, 0), []),
  (.iconst 0, (462, 1), (0, 0, 0), (0, 0), []),
  (.ireturn, (463, 1), (1, 0, 0), (0, 0), []),
  (.aload_n 1, (464, 1), (1, 0, 0), (0, 0), []),
  (.aload_n 0, (465, 1), (0, 0, 0), (0, 0), []),
  (.iload_n 3, (466, 1), (3, 0, 0), (0, 0), []),
  (.iconst 1, (467, 1), (0, 0, 0), (1, 0), []),
  (.iadd, (468, 1), (0, 0, 0), (0, 0), []),
  (.iaload, (469, 1), (0, 0, 0), (0, 0), []),
  (.invokevirtual 57, (470, 3), (100, 2, 1), (0, 0), []),
  (.aload_n 2, (473, 1), (2, 0, 0), (0, 0), []),
  (.aload_n 0, (474, 1), (0, 0, 0), (0, 0), []),
  (.iload_n 3, (475, 1), (3, 0, 0), (0, 0), []),
  (.iconst 1, (476, 1), (0, 0, 0), (1, 0), []),
  (.iadd, (477, 1), (0, 0, 0), (0, 0), []),
  (.iaload, (478, 1), (0, 0, 0), (0, 0), []),
  (.invokevirtual 60, (479, 3), (166, 2, 1), (0, 0), [])]
def mm_r203_8 : List mm_R := [
  (.if_icmp .eq 777, (482, 3), (0, 887, 0), (0, 0), []),
  (.iconst 0, (485, 1), (0, 0, 0), (0, 0), []),
  (.ireturn, (486, 1), (1, 0, 0), (0, 0), []),
  (.aload_n 1, (487, 1), (1, 0, 0), (0, 0), []),
  (.aload_n 0, (488, 1), (0, 0, 0), (0, 0), []),
  (.iload_n 3, (489, 1), (3, 0, 0), (0, 0), []),
  (.iconst 1, (490, 1), (0, 0, 0), (1, 0), []),
  (.iadd, (491, 1), (0, 0, 0), (0, 0), []),
  (.iaload, (492, 1), (0, 0, 0), (0, 0), []),
  (.invokevirtual 61, (493, 3), (101, 2, 1), (0, 0), []),
  (.aload_n 2, (496, 1), (2, 0, 0), (0, 0), []),
  (.aload_n 0, (497, 1), (0, 0, 0), (0, 0), []),
  (.iload_n 3, (498, 1), (3, 0, 0), (0, 0), []),
  (.iconst 1, (499, 1), (0, 0, 0), (1, 0), []),
  (.iadd, (500, 1), (0, 0, 0), (0, 0), []),
  (.iaload, (501, 1), (0, 0, 0), (0, 0), []),
  (.invokevirtual 64, (502, 3), (171, 2, 1), (0, 0), []),
  (.if_icmp .eq 754, (505, 3), (0, 887, 0), (0, 0), []),
  (.iconst 0, (508, 1), (0, 0, 0), (0, 0), []),
  (.ireturn, (509, 1), (1, 0, 0), (0, 0), []),
  (.aload_n 1, (510, 1), (1, 0, 0), (0, 0), []),
  (.aload_n 0, (511, 1), (0, 0, 0), (0, 0), []),
  (.iload_n 3, (512, 1), (3, 0, 0), (0, 0), []),
  (.iconst 1, (513, 1), (0, 0, 0), (1, 0), []),
  (.iadd, (514, 1), (0, 0, 0), (0, 0), []),
  (.iaload, (515, 1), (0, 0, 0), (0, 0), []),
  (.aload_n 0, (516, 1), (0, 0, 0), (0, 0), []),
  (.iload_n 3, (517, 1), (3, 0, 0), (0, 0), []),
  (.iconst 2, (518, 1), (0, 0, 0), (2, 0), []),
  (.iadd, (519, 1), (0, 0, 0), (0, 0), []),
  (.iaload, (520, 1), (0, 0, 0), (0, 0), []),
  (.invokevirtual 65, (521, 3), (102, 3, 1), (0, 0), [])]
def mm_r203_9 : List mm_R := [
  (.aload_n 2, (524, 1), (2, 0, 0), (0, 0), []),
  (.aload_n 0, (525, 1), (0, 0, 0), (0, 0), []),
  (.iload_n 3, (526, 1), (3, 0, 0), (0, 0), []),
  (.iconst 1, (527, 1), (0, 0, 0), (1, 0), []),
  (.iadd, (528, 1), (0, 0, 0), (0, 0), []),
  (.iaload, (529, 1), (0, 0, 0), (0, 0), []),
  (.aload_n 0, (530, 1), (0, 0, 0), (0, 0), []),
  (.iload_n 3, (531, 1), (3, 0, 0), (0, 0), []),
  (.iconst 2, (532, 1), (0, 0, 0), (2, 0), []),
  (.iadd, (533, 1), (0, 0, 0), (0, 0), []),
  (.iaload, (534, 1), (0, 0, 0), (0, 0), []),
  (.invokevirtual 68, (535, 3), (172, 3, 1), (0, 0), []),
  (.if_icmp .eq 721, (538, 3), (0, 887, 0), (0, 0), []),
  (.iconst 0, (541, 1), (0, 0, 0), (0, 0), []),
  (.ireturn, (542, 1), (1, 0, 0), (0, 0), []),
  (.aload_n 1, (543, 1), (1, 0, 0), (0, 0), []),
  (.aload_n 0, (544, 1), (0, 0, 0), (0, 0), []),
  (.iload_n 3, (545, 1), (3, 0, 0), (0, 0), []),
  (.iconst 1, (546, 1), (0, 0, 0), (1, 0), []),
  (.iadd, (547, 1), (0, 0, 0), (0, 0), []),
  (.iaload, (548, 1), (0, 0, 0), (0, 0), []),
  (.aload_n 0, (549, 1), (0, 0, 0), (0, 0), []),
  (.iload_n 3, (550, 1), (3, 0, 0), (0, 0), []),
  (.iconst 2, (551, 1), (0, 0, 0), (2, 0), []),
  (.iadd, (552, 1), (0, 0, 0), (0, 0), []),
  (.iaload, (553, 1), (0, 0, 0), (0, 0), []),
  (.invokevirtual 69, (554, 3), (103, 3, 1), (0, 0), []),
  (.aload_n 2, (557, 1), (2, 0, 0), (0, 0), []),
  (.aload_n 0, (558, 1), (0, 0, 0), (0, 0), []),
  (.iload_n 3, (559, 1), (3, 0, 0), (0, 0), []),
  (.iconst 1, (560, 1), (0, 0, 0), (1, 0), []),
  (.iadd, (561, 1), (0, 0, 0), (0, 0), [])]
def mm_r203_10 : List mm_R := [
  (.iaload, (562, 1), (0, 0, 0), (0, 0), []),
  (.aload_n 0, (563, 1), (0, 0, 0), (0, 0), []),
  (.iload_n 3, (564, 1), (3, 0, 0), (0, 0), []),
  (.iconst 2, (565, 1), (0, 0, 0), (2, 0), []),
  (.iadd, (566, 1), (0, 0, 0), (0, 0), []),
  (.iaload, (567, 1), (0, 0, 0), (0, 0), []),
  (.invokevirtual 72, (568, 3), (173, 3, 1), (0, 0), []),
  (.if_icmp .eq 688, (571, 3), (0, 887, 0), (0, 0), []),
  (.iconst 0, (574, 1), (0, 0, 0), (0, 0), []),
  (.ireturn, (575, 1), (1, 0, 0), (0, 0), []),
  (.aload_n 1, (576, 1), (1, 0, 0), (0, 0), []),
  (.aload_n 0, (577, 1), (0, 0, 0), (0, 0), []),
  (.iload_n 3, (578, 1), (3, 0, 0), (0, 0), []),
  (.iconst 1, (579, 1), (0, 0, 0), (1, 0), []),
  (.iadd, (580, 1), (0, 0, 0), (0, 0), []),
  (.iaload, (581, 1), (0, 0, 0), (0, 0), []),
  (.invokevirtual 73, (582, 3), (104, 2, 1), (0, 0), []),
  (.aload_n 2, (585, 1), (2, 0, 0), (0, 0), []),
  (.aload_n 0, (586, 1), (0, 0, 0), (0, 0), []),
  (.iload_n 3, (587, 1), (3, 0, 0), (0, 0), []),
  (.iconst 1, (588, 1), (0, 0, 0), (1, 0), []),
  (.iadd, (589, 1), (0, 0, 0), (0, 0), []),
  (.iaload, (590, 1), (0, 0, 0), (0, 0), []),
  (.invokevirtual 76, (591, 3), (174, 2, 1), (0, 0), []),
  (.if_icmp .eq 665, (594, 3), (0, 887, 0), (0, 0), []),
  (.iconst 0, (597, 1), (0, 0, 0), (0, 0), []),
  (.ireturn, (598, 1), (1, 0, 0), (0, 0), []),
  (.aload_n 1, (599, 1), (1, 0, 0), (0, 0), []),
  (.aload_n 0, (600, 1), (0, 0, 0), (0, 0), []),
  (.iload_n 3, (601, 1), (3, 0, 0), (0, 0), []),
  (.iconst 1, (602, 1), (0, 0, 0), (1, 0), []),
  (.iadd, (603, 1), (0, 0, 0), (0, 0), [])]
def mm_r203_11 : List mm_R := [
  (.iaload, (604, 1), (0, 0, 0), (0, 0), []),
  (.aload_n 0, (605, 1), (0, 0, 0), (0, 0), []),
  (.iload_n 3, (606, 1), (3, 0, 0), (0, 0), []),
  (.iconst 2, (607, 1), (0, 0, 0), (2, 0), []),
  (.iadd, (608, 1), (0, 0, 0), (0, 0), []),
  (.iaload, (609, 1), (0, 0, 0), (0, 0), []),
  (.aload_n 0, (610, 1), (0, 0, 0), (0, 0), []),
  (.iload_n 3, (611, 1), (3, 0, 0), (0, 0), []),
  (.iconst 3, (612, 1), (0, 0, 0), (3, 0), []),
  (.iadd, (613, 1), (0, 0, 0), (0, 0), []),
  (.iaload, (614, 1), (0, 0, 0), (0, 0), []),
  (.invokevirtual 77, (615, 3), (105, 4, 1), (0, 0), []),
  (.aload_n 2, (618, 1), (2, 0, 0), (0, 0), []),
  (.aload_n 0, (619, 1), (0, 0, 0), (0, 0), []),
  (.iload_n 3, (620, 1), (3, 0, 0), (0, 0), []),
  (.iconst 1, (621, 1), (0, 0, 0), (1, 0), []),
  (.iadd, (622, 1), (0, 0, 0), (0, 0), []),
  (.iaload, (623, 1), (0, 0, 0), (0, 0), []),
  (.aload_n 0, (624, 1), (0, 0, 0), (0, 0), []),
  (.iload_n 3, (625, 1), (3, 0, 0), (0, 0), []),
  (.iconst 2, (626, 1), (0, 0, 0), (2, 0), []),
  (.iadd, (627, 1), (0, 0, 0), (0, 0), []),
  (.iaload, (628, 1), (0, 0, 0), (0, 0), []),
  (.aload_n 0, (629, 1), (0, 0, 0), (0, 0), []),
  (.iload_n 3, (630, 1), (3, 0, 0), (0, 0), []),
  (.iconst 3, (631, 1), (0, 0, 0), (3, 0), []),
  (.iadd, (632, 1), (0, 0, 0), (0, 0), []),
  (.iaload, (633, 1), (0, 0, 0), (0, 0), []),
  (.invokevirtual 80, (634, 3), (175, 4, 1), (0, 0), []),
  (.if_icmp .eq 622, (637, 3), (0, 887, 0), (0, 0), []),
  (.iconst 0, (640, 1), (0, 0, 0), (0, 0), []),
  (.ireturn, (641, 1), (1, 0, 0), (0, 0), [])]
def mm_r203_12 : List mm_R := [
  (.aload_n 1, (642, 1), (1, 0, 0), (0, 0), []),
  (.aload_n 0, (643, 1), (0, 0, 0), (0, 0), []),
  (.iload_n 3, (644, 1), (3, 0, 0), (0, 0), []),
  (.iconst 1, (645, 1), (0, 0, 0), (1, 0), []),
  (.iadd, (646, 1), (0, 0, 0), (0, 0), []),
  (.iaload, (647, 1), (0, 0, 0), (0, 0), []),
  (.aload_n 0, (648, 1), (0, 0, 0), (0, 0), []),
  (.iload_n 3, (649, 1), (3, 0, 0), (0, 0), []),
  (.iconst 2, (650, 1), (0, 0, 0), (2, 0), []),
  (.iadd, (651, 1), (0, 0, 0), (0, 0), []),
  (.iaload, (652, 1), (0, 0, 0), (0, 0), []),
  (.invokevirtual 81, (653, 3), (106, 3, 1), (0, 0), []),
  (.aload_n 2, (656, 1), (2, 0, 0), (0, 0), []),
  (.aload_n 0, (657, 1), (0, 0, 0), (0, 0), []),
  (.iload_n 3, (658, 1), (3, 0, 0), (0, 0), []),
  (.iconst 1, (659, 1), (0, 0, 0), (1, 0), []),
  (.iadd, (660, 1), (0, 0, 0), (0, 0), []),
  (.iaload, (661, 1), (0, 0, 0), (0, 0), []),
  (.aload_n 0, (662, 1), (0, 0, 0), (0, 0), []),
  (.iload_n 3, (663, 1), (3, 0, 0), (0, 0), []),
  (.iconst 2, (664, 1), (0, 0, 0), (2, 0), []),
  (.iadd, (665, 1), (0, 0, 0), (0, 0), []),
  (.iaload, (666, 1), (0, 0, 0), (0, 0), []),
  (.invokevirtual 84, (667, 3), (176, 3, 1), (0, 0), []),
  (.if_icmp .eq 589, (670, 3), (0, 887, 0), (0, 0), []),
  (.iconst 0, (673, 1), (0, 0, 0), (0, 0), []),
  (.ireturn, (674, 1), (1, 0, 0), (0, 0), []),
  (.aload_n 1, (675, 1), (1, 0, 0), (0, 0), []),
  (.aload_n 0, (676, 1), (0, 0, 0), (0, 0), []),
  (.iload_n 3, (677, 1), (3, 0, 0), (0, 0), []),
  (.iconst 1, (678, 1), (0, 0, 0), (1, 0), []),
  (.iadd, (679, 1), (0, 0, 0), (0, 0), [])]
def mm_r203_13 : List mm_R := [
  (.iaload, (680, 1), (0, 0, 0), (0, 0), []),
  (.aload_n 0, (681, 1), (0, 0, 0), (0, 0), []),
  (.iload_n 3, (682, 1), (3, 0, 0), (0, 0), []),
  (.iconst 2, (683, 1), (0, 0, 0), (2, 0), []),
  (.iadd, (684, 1), (0, 0, 0), (0, 0), []),
  (.iaload, (685, 1), (0, 0, 0), (0, 0), []),
  (.aload_n 0, (686, 1), (0, 0, 0), (0, 0), []),
  (.iload_n 3, (687, 1), (3, 0, 0), (0, 0), []),
  (.iconst 3, (688, 1), (0, 0, 0), (3, 0), []),
  (.iadd, (689, 1), (0, 0, 0), (0, 0), []),
  (.iaload, (690, 1), (0, 0, 0), (0, 0), []),
  (.aload_n 0, (691, 1), (0, 0, 0), (0, 0), []),
  (.iload_n 3, (692, 1), (3, 0, 0), (0, 0), []),
  (.iconst 4, (693, 1), (0, 0, 0), (4, 0), []),
  (.iadd, (694, 1), (0, 0, 0), (0, 0), []),
  (.iaload, (695, 1), (0, 0, 0), (0, 0), []),
  (.invokevirtual 85, (696, 3), (107, 5, 1), (0, 0), []),
  (.aload_n 2, (699, 1), (2, 0, 0), (0, 0), []),
  (.aload_n 0, (700, 1), (0, 0, 0), (0, 0), []),
  (.iload_n 3, (701, 1), (3, 0, 0), (0, 0), []),
  (.iconst 1, (702, 1), (0, 0, 0), (1, 0), []),
  (.iadd, (703, 1), (0, 0, 0), (0, 0), []),
  (.iaload, (704, 1), (0, 0, 0), (0, 0), []),
  (.aload_n 0, (705, 1), (0, 0, 0), (0, 0), []),
  (.iload_n 3, (706, 1), (3, 0, 0), (0, 0), []),
  (.iconst 2, (707, 1), (0, 0, 0), (2, 0), []),
  (.iadd, (708, 1), (0, 0, 0), (0, 0), []),
  (.iaload, (709, 1), (0, 0, 0), (0, 0), []),
  (.aload_n 0, (710, 1), (0, 0, 0), (0, 0), []),
  (.iload_n 3, (711, 1), (3, 0, 0), (0, 0), []),
  (.iconst 3, (712, 1), (0, 0, 0), (3, 0), []),
  (.iadd, (713, 1), (0, 0, 0), (0, 0), [])]
def mm_r203_14 : List mm_R := [
  (.iaload, (714, 1), (0, 0, 0), (0, 0), []),
  (.aload_n 0, (715, 1), (0, 0, 0), (0, 0), []),
  (.iload_n 3, (716, 1), (3, 0, 0), (0, 0), []),
  (.iconst 4, (717, 1), (0, 0, 0), (4, 0), []),
  (.iadd, (718, 1), (0, 0, 0), (0, 0), []),
  (.iaload, (719, 1), (0, 0, 0), (0, 0), []),
  (.invokevirtual 89, (720, 3), (177, 5, 1), (0, 0), []),
  (.lcmp, (723, 1), (0, 0, 0), (0, 0), []),
  (.ifCond .eq 535, (724, 3), (0, 887, 0), (0, 0), []),
  (.iconst 0, (727, 1), (0, 0, 0), (0, 0), []),
  (.ireturn, (728, 1), (1, 0, 0), (0, 0), []),
  (.aload_n 1, (729, 1), (1, 0, 0), (0, 0), []),
  (.aload_n 0, (730, 1), (0, 0, 0), (0, 0), []),
  (.iload_n 3, (731, 1), (3, 0, 0), (0, 0), []),
  (.iconst 1, (732, 1), (0, 0, 0), (1, 0), []),
  (.iadd, (733, 1), (0, 0, 0), (0, 0), []),
  (.iaload, (734, 1), (0, 0, 0), (0, 0), []),
  (.aload_n 0, (735, 1), (0, 0, 0), (0, 0), []),
  (.iload_n 3, (736, 1), (3, 0, 0), (0, 0), []),
  (.iconst 2, (737, 1), (0, 0, 0), (2, 0), []),
  (.iadd, (738, 1), (0, 0, 0), (0, 0), []),
  (.iaload, (739, 1), (0, 0, 0), (0, 0), []),
  (.invokevirtual 90, (740, 3), (109, 3, 1), (0, 0), []),
  (.aload_n 2, (743, 1), (2, 0, 0), (0, 0), []),
  (.aload_n 0, (744, 1), (0, 0, 0), (0, 0), []),
  (.iload_n 3, (745, 1), (3, 0, 0), (0, 0), []),
  (.iconst 1, (746, 1), (0, 0, 0), (1, 0), []),
  (.iadd, (747, 1), (0, 0, 0), (0, 0), []),
  (.iaload, (748, 1), (0, 0, 0), (0, 0), []),
  (.aload_n 0, (749, 1), (0, 0, 0), (0, 0), []),
  (.iload_n 3, (750, 1), (3, 0, 0), (0, 0), []),
  (.iconst 2, (751, 1), (0, 0, 0), (2, 0), [])]
def mm_r203_15 : List mm_R := [
  (.iadd, (752, 1), (0, 0, 0), (0, 0), []),
  (.iaload, (753, 1), (0, 0, 0), (0, 0), []),
  (.invokevirtual 94, (754, 3), (179, 3, 1), (0, 0), []),
  (.lcmp, (757, 1), (0, 0, 0), (0, 0), []),
  (.ifCond .eq 501, (758, 3), (0, 887, 0), (0, 0), []),
  (.iconst 0, (761, 1), (0, 0, 0), (0, 0), []),
  (.ireturn, (762, 1), (1, 0, 0), (0, 0), []),
  (.aload_n 1, (763, 1), (1, 0, 0), (0, 0), []),
  (.aload_n 0, (764, 1), (0, 0, 0), (0, 0), []),
  (.iload_n 3, (765, 1), (3, 0, 0), (0, 0), []),
  (.iconst 1, (766, 1), (0, 0, 0), (1, 0), []),
  (.iadd, (767, 1), (0, 0, 0), (0, 0), []),
  (.iaload, (768, 1), (0, 0, 0), (0, 0), []),
  (.aload_n 0, (769, 1), (0, 0, 0), (0, 0), []),
  (.iload_n 3, (770, 1), (3, 0, 0), (0, 0), []),
  (.iconst 2, (771, 1), (0, 0, 0), (2, 0), []),
  (.iadd, (772, 1), (0, 0, 0), (0, 0), []),
  (.iaload, (773, 1), (0, 0, 0), (0, 0), []),
  (.invokevirtual 95, (774, 3), (110, 3, 1), (0, 0), []),
  (.aload_n 2, (777, 1), (2, 0, 0), (0, 0), []),
  (.aload_n 0, (778, 1), (0, 0, 0), (0, 0), []),
  (.iload_n 3, (779, 1), (3, 0, 0), (0, 0), []),
  (.iconst 1, (780, 1), (0, 0, 0), (1, 0), []),
  (.iadd, (781, 1), (0, 0, 0), (0, 0), []),
  (.iaload, (782, 1), (0, 0, 0), (0, 0), []),
  (.aload_n 0, (783, 1), (0, 0, 0), (0, 0), []),
  (.iload_n 3, (784, 1), (3, 0, 0), (0, 0), []),
  (.iconst 2, (785, 1), (0, 0, 0), (2, 0), []),
  (.iadd, (786, 1), (0, 0, 0), (0, 0), []),
  (.iaload, (787, 1), (0, 0, 0), (0, 0), []),
  (.invokevirtual 98, (788, 3), (180, 3, 1), (0, 0), []),
  (.if_icmp .eq 468, (791, 3), (0, 887, 0), (0, 0), [])]
def mm_r203_16 : List mm_R := [
  (.iconst 0, (794, 1), (0, 0, 0), (0, 0), []),
  (.ireturn, (795, 1), (1, 0, 0), (0, 0), []),
  (.aload_n 1, (796, 1), (1, 0, 0), (0, 0), []),
  (.aload_n 0, (797, 1), (0, 0, 0), (0, 0), []),
  (.iload_n 3, (798, 1), (3, 0, 0), (0, 0), []),
  (.iconst 1, (799, 1), (0, 0, 0), (1, 0), []),
  (.iadd, (800, 1), (0, 0, 0), (0, 0), []),
  (.iaload, (801, 1), (0, 0, 0), (0, 0), []),
  (.invokevirtual 99, (802, 3), (111, 2, 1), (0, 0), []),
  (.aload_n 2, (805, 1), (2, 0, 0), (0, 0), []),
  (.aload_n 0, (806, 1), (0, 0, 0), (0, 0), []),
  (.iload_n 3, (807, 1), (3, 0, 0), (0, 0), []),
  (.iconst 1, (808, 1), (0, 0, 0), (1, 0), []),
  (.iadd, (809, 1), (0, 0, 0), (0, 0), []),
  (.iaload, (810, 1), (0, 0, 0), (0, 0), []),
  (.invokevirtual 102, (811, 3), (181, 2, 1), (0, 0), []),
  (.if_icmp .eq 445, (814, 3), (0, 887, 0), (0, 0), []),
  (.iconst 0, (817, 1), (0, 0, 0), (0, 0), []),
  (.ireturn, (818, 1), (1, 0, 0), (0, 0), []),
  (.aload_n 1, (819, 1), (1, 0, 0), (0, 0), []),
  (.aload_n 0, (820, 1), (0, 0, 0), (0, 0), []),
  (.iload_n 3, (821, 1), (3, 0, 0), (0, 0), []),
  (.iconst 1, (822, 1), (0, 0, 0), (1, 0), []),
  (.iadd, (823, 1), (0, 0, 0), (0, 0), []),
  (.iaload, (824, 1), (0, 0, 0), (0, 0), []),
  (.aload_n 0, (825, 1), (0, 0, 0), (0, 0), []),
  (.iload_n 3, (826, 1), (3, 0, 0), (0, 0), []),
  (.iconst 2, (827, 1), (0, 0, 0), (2, 0), []),
  (.iadd, (828, 1), (0, 0, 0), (0, 0), []),
  (.iaload, (829, 1), (0, 0, 0), (0, 0), []),
  (.invokevirtual 103, (830, 3), (112, 3, 1), (0, 0), []),
  (.aload_n 2, (833, 1), (2, 0, 0), (0, 0), [])]
def mm_r203_17 : List mm_R := [
  (.aload_n 0, (834, 1), (0, 0, 0), (0, 0), []),
  (.iload_n 3, (835, 1), (3, 0, 0), (0, 0), []),
  (.iconst 1, (836, 1), (0, 0, 0), (1, 0), []),
  (.iadd, (837, 1), (0, 0, 0), (0, 0), []),
  (.iaload, (838, 1), (0, 0, 0), (0, 0), []),
  (.aload_n 0, (839, 1), (0, 0, 0), (0, 0), []),
  (.iload_n 3, (840, 1), (3, 0, 0), (0, 0), []),
  (.iconst 2, (841, 1), (0, 0, 0), (2, 0), []),
  (.iadd, (842, 1), (0, 0, 0), (0, 0), []),
  (.iaload, (843, 1), (0, 0, 0), (0, 0), []),
  (.invokevirtual 106, (844, 3), (183, 3, 1), (0, 0), []),
  (.if_icmp .eq 412, (847, 3), (0, 887, 0), (0, 0), []),
  (.iconst 0, (850, 1), (0, 0, 0), (0, 0), []),
  (.ireturn, (851, 1), (1, 0, 0), (0, 0), []),
  (.aload_n 1, (852, 1), (1, 0, 0), (0, 0), []),
  (.invokevirtual 107, (853, 3), (113, 1, 1), (0, 0), []),
  (.aload_n 2, (856, 1), (2, 0, 0), (0, 0), []),
  (.invokevirtual 110, (857, 3), (184, 1, 1), (0, 0), []),
  (.if_icmp .eq 399, (860, 3), (0, 887, 0), (0, 0), []),
  (.iconst 0, (863, 1), (0, 0, 0), (0, 0), []),
  (.ireturn, (864, 1), (1, 0, 0), (0, 0), []),
  (.aload_n 1, (865, 1), (1, 0, 0), (0, 0), []),
  (.aload_n 0, (866, 1), (0, 0, 0), (0, 0), []),
  (.iload_n 3, (867, 1), (3, 0, 0), (0, 0), []),
  (.iconst 1, (868, 1), (0, 0, 0), (1, 0), []),
  (.iadd, (869, 1), (0, 0, 0), (0, 0), []),
  (.iaload, (870, 1), (0, 0, 0), (0, 0), []),
  (.aload_n 0, (871, 1), (0, 0, 0), (0, 0), []),
  (.iload_n 3, (872, 1), (3, 0, 0), (0, 0), []),
  (.iconst 2, (873, 1), (0, 0, 0), (2, 0), []),
  (.iadd, (874, 1), (0, 0, 0), (0, 0), []),
  (.iaload, (875, 1), (0, 0, 0), (0, 0), [])]
def mm_r203_18 : List mm_R := [
  (.invokevirtual 111, (876, 3), (114, 3, 1), (0, 0), []),
  (.aload_n 2, (879, 1), (2, 0, 0), (0, 0), []),
  (.aload_n 0, (880, 1), (0, 0, 0), (0, 0), []),
  (.iload_n 3, (881, 1), (3, 0, 0), (0, 0), []),
  (.iconst 1, (882, 1), (0, 0, 0), (1, 0), []),
  (.iadd, (883, 1), (0, 0, 0), (0, 0), []),
  (.iaload, (884, 1), (0, 0, 0), (0, 0), []),
  (.aload_n 0, (885, 1), (0, 0, 0), (0, 0), []),
  (.iload_n 3, (886, 1), (3, 0, 0), (0, 0), []),
  (.iconst 2, (887, 1), (0, 0, 0), (2, 0), []),
  (.iadd, (888, 1), (0, 0, 0), (0, 0), []),
  (.iaload, (889, 1), (0, 0, 0), (0, 0), []),
  (.invokevirtual 114, (890, 3), (185, 3, 1), (0, 0), []),
  (.if_icmp .eq 366, (893, 3), (0, 887, 0), (0, 0), []),
  (.iconst 0, (896, 1), (0, 0, 0), (0, 0), []),
  (.ireturn, (897, 1), (1, 0, 0), (0, 0), []),
  (.aload_n 1, (898, 1), (1, 0, 0), (0, 0), []),
  (.invokevirtual 115, (899, 3), (116, 1, 1), (0, 0), []),
  (.aload_n 2, (902, 1), (2, 0, 0), (0, 0), []),
  (.invokevirtual 118, (903, 3), (186, 1, 1), (0, 0), []),
  (.if_icmp .eq 353, (906, 3), (0, 887, 0), (0, 0), []),
  (.iconst 0, (909, 1), (0, 0, 0), (0, 0), []),
  (.ireturn, (910, 1), (1, 0, 0), (0, 0), []),
  (.aload_n 1, (911, 1), (1, 0, 0), (0, 0), []),
  (.invokevirtual 119, (912, 3), (117, 1, 1), (0, 0), []),
  (.aload_n 2, (915, 1), (2, 0, 0), (0, 0), []),
  (.invokevirtual 122, (916, 3), (187, 1, 1), (0, 0), []),
  (.if_icmp .eq 340, (919, 3), (0, 887, 0), (0, 0), []),
  (.iconst 0, (922, 1), (0, 0, 0), (0, 0), []),
  (.ireturn, (923, 1), (1, 0, 0), (0, 0), []),
  (.aload_n 1, (924, 1), (1, 0, 0), (0, 0), []),
  (.aload_n 0, (925, 1), (0, 0, 0), (0, 0), [])]
def mm_r203_19 : List mm_R := [
  (.iload_n 3, (926, 1), (3, 0, 0), (0, 0), []),
  (.iconst 1, (927, 1), (0, 0, 0), (1, 0), []),
  (.iadd, (928, 1), (0, 0, 0), (0, 0), []),
  (.iaload, (929, 1), (0, 0, 0), (0, 0), []),
  (.aload_n 0, (930, 1), (0, 0, 0), (0, 0), []),
  (.iload_n 3, (931, 1), (3, 0, 0), (0, 0), []),
  (.iconst 2, (932, 1), (0, 0, 0), (2, 0), []),
  (.iadd, (933, 1), (0, 0, 0), (0, 0), []),
  (.iaload, (934, 1), (0, 0, 0), (0, 0), []),
  (.aload_n 0, (935, 1), (0, 0, 0), (0, 0), []),
  (.iload_n 3, (936, 1), (3, 0, 0), (0, 0), []),
  (.iconst 3, (937, 1), (0, 0, 0), (3, 0), []),
  (.iadd, (938, 1), (0, 0, 0), (0, 0), []),
  (.iaload, (939, 1), (0, 0, 0), (0, 0), []),
  (.invokevirtual 123, (940, 3), (118, 4, 1), (0, 0), []),
  (.aload_n 2, (943, 1), (2, 0, 0), (0, 0), []),
  (.aload_n 0, (944, 1), (0, 0, 0), (0, 0), []),
  (.iload_n 3, (945, 1), (3, 0, 0), (0, 0), []),
  (.iconst 1, (946, 1), (0, 0, 0), (1, 0), []),
  (.iadd, (947, 1), (0, 0, 0), (0, 0), []),
  (.iaload, (948, 1), (0, 0, 0), (0, 0), []),
  (.aload_n 0, (949, 1), (0, 0, 0), (0, 0), []),
  (.iload_n 3, (950, 1), (3, 0, 0), (0, 0), []),
  (.iconst 2, (951, 1), (0, 0, 0), (2, 0), []),
  (.iadd, (952, 1), (0, 0, 0), (0, 0), []),
  (.iaload, (953, 1), (0, 0, 0), (0, 0), []),
  (.aload_n 0, (954, 1), (0, 0, 0), (0, 0), []),
  (.iload_n 3, (955, 1), (3, 0, 0), (0, 0), []),
  (.iconst 3, (956, 1), (0, 0, 0), (3, 0), []),
  (.iadd, (957, 1), (0, 0, 0), (0, 0), []),
  (.iaload, (958, 1), (0, 0, 0), (0, 0), []),
  (.invokevirtual 126, (959, 3), (188, 4, 1), (0, 0), [])]
def mm_r203_20 : List mm_R := [
  (.if_icmp .eq 297, (962, 3), (0, 887, 0), (0, 0), []),
  (.iconst 0, (965, 1), (0, 0, 0), (0, 0), []),
  (.ireturn, (966, 1), (1, 0, 0), (0, 0), []),
  (.aload_n 1, (967, 1), (1, 0, 0), (0, 0), []),
  (.aload_n 0, (968, 1), (0, 0, 0), (0, 0), []),
  (.iload_n 3, (969, 1), (3, 0, 0), (0, 0), []),
  (.iconst 1, (970, 1), (0, 0, 0), (1, 0), []),
  (.iadd, (971, 1), (0, 0, 0), (0, 0), []),
  (.iaload, (972, 1), (0, 0, 0), (0, 0), []),
  (.invokevirtual 127, (973, 3), (119, 2, 1), (0, 0), []),
  (.aload_n 2, (976, 1), (2, 0, 0), (0, 0), []),
  (.aload_n 0, (977, 1), (0, 0, 0), (0, 0), []),
  (.iload_n 3, (978, 1), (3, 0, 0), (0, 0), []),
  (.iconst 1, (979, 1), (0, 0, 0), (1, 0), []),
  (.iadd, (980, 1), (0, 0, 0), (0, 0), []),
  (.iaload, (981, 1), (0, 0, 0), (0, 0), []),
  (.invokevirtual 130, (982, 3), (194, 2, 1), (0, 0), []),
  (.if_icmp .eq 274, (985, 3), (0, 887, 0), (0, 0), []),
  (.iconst 0, (988, 1), (0, 0, 0), (0, 0), []),
  (.ireturn, (989, 1), (1, 0, 0), (0, 0), []),
  (.aload_n 1, (990, 1), (1, 0, 0), (0, 0), []),
  (.aload_n 0, (991, 1), (0, 0, 0), (0, 0), []),
  (.iload_n 3, (992, 1), (3, 0, 0), (0, 0), []),
  (.iconst 1, (993, 1), (0, 0, 0), (1, 0), []),
  (.iadd, (994, 1), (0, 0, 0), (0, 0), []),
  (.iaload, (995, 1), (0, 0, 0), (0, 0), []),
  (.aload_n 0, (996, 1), (0, 0, 0), (0, 0), []),
  (.iload_n 3, (997, 1), (3, 0, 0), (0, 0), []),
  (.iconst 2, (998, 1), (0, 0, 0), (2, 0), []),
  (.iadd, (999, 1), (0, 0, 0), (0, 0), []),
  (.iaload, (1000, 1), (0, 0, 0), (0, 0), []),
  (.invokevirtual 131, (1001, 3), (120, 3, 1), (0, 0), [])]
def mm_r203_21 : List mm_R := [
  (.aload_n 2, (1004, 1), (2, 0, 0), (0, 0), []),
  (.aload_n 0, (1005, 1), (0, 0, 0), (0, 0), []),
  (.iload_n 3, (1006, 1), (3, 0, 0), (0, 0), []),
  (.iconst 1, (1007, 1), (0, 0, 0), (1, 0), []),
  (.iadd, (1008, 1), (0, 0, 0), (0, 0), []),
  (.iaload, (1009, 1), (0, 0, 0), (0, 0), []),
  (.aload_n 0, (1010, 1), (0, 0, 0), (0, 0), []),
  (.iload_n 3, (1011, 1), (3, 0, 0), (0, 0), []),
  (.iconst 2, (1012, 1), (0, 0, 0), (2, 0), []),
  (.iadd, (1013, 1), (0, 0, 0), (0, 0), []),
  (.iaload, (1014, 1), (0, 0, 0), (0, 0), []),
  (.invokevirtual 134, (1015, 3), (195, 3, 1), (0, 0), []),
  (.if_icmp .eq 241, (1018, 3), (0, 887, 0), (0, 0), []),
  (.iconst 0, (1021, 1), (0, 0, 0), (0, 0), []),
  (.ireturn, (1022, 1), (1, 0, 0), (0, 0), []),
  (.aload_n 1, (1023, 1), (1, 0, 0), (0, 0), []),
  (.aload_n 0, (1024, 1), (0, 0, 0), (0, 0), []),
  (.iload_n 3, (1025, 1), (3, 0, 0), (0, 0), []),
  (.iconst 1, (1026, 1), (0, 0, 0), (1, 0), []),
  (.iadd, (1027, 1), (0, 0, 0), (0, 0), []),
  (.iaload, (1028, 1), (0, 0, 0), (0, 0), []),
  (.invokevirtual 135, (1029, 3), (121, 2, 1), (0, 0), []),
  (.aload_n 2, (1032, 1), (2, 0, 0), (0, 0), []),
  (.aload_n 0, (1033, 1), (0, 0, 0), (0, 0), []),
  (.iload_n 3, (1034, 1), (3, 0, 0), (0, 0), []),
  (.iconst 1, (1035, 1), (0, 0, 0), (1, 0), []),
  (.iadd, (1036, 1), (0, 0, 0), (0, 0), []),
  (.iaload, (1037, 1), (0, 0, 0), (0, 0), []),
  (.invokevirtual 138, (1038, 3), (196, 2, 1), (0, 0), []),
  (.if_icmp .eq 218, (1041, 3), (0, 887, 0), (0, 0), []),
  (.iconst 0, (1044, 1), (0, 0, 0), (0, 0), []),
  (.ireturn, (1045, 1), (1, 0, 0), (0, 0), [])]
def mm_r203_22 : List mm_R := [
  (.aload_n 1, (1046, 1), (1, 0, 0), (0, 0), []),
  (.aload_n 0, (1047, 1), (0, 0, 0), (0, 0), []),
  (.iload_n 3, (1048, 1), (3, 0, 0), (0, 0), []),
  (.iconst 1, (1049, 1), (0, 0, 0), (1, 0), []),
  (.iadd, (1050, 1), (0, 0, 0), (0, 0), []),
  (.iaload, (1051, 1), (0, 0, 0), (0, 0), []),
  (.aload_n 0, (1052, 1), (0, 0, 0), (0, 0), []),
  (.iload_n 3, (1053, 1), (3, 0, 0), (0, 0), []),
  (.iconst 2, (1054, 1), (0, 0, 0), (2, 0), []),
  (.iadd, (1055, 1), (0, 0, 0), (0, 0), []),
  (.iaload, (1056, 1), (0, 0, 0), (0, 0), []),
  (.aload_n 0, (1057, 1), (0, 0, 0), (0, 0), []),
  (.iload_n 3, (1058, 1), (3, 0, 0), (0, 0), []),
  (.iconst 3, (1059, 1), (0, 0, 0), (3, 0), []),
  (.iadd, (1060, 1), (0, 0, 0), (0, 0), []),
  (.iaload, (1061, 1), (0, 0, 0), (0, 0), []),
  (.invokevirtual 139, (1062, 3), (122, 4, 1), (0, 0), []),
  (.aload_n 2, (1065, 1), (2, 0, 0), (0, 0), []),
  (.aload_n 0, (1066, 1), (0, 0, 0), (0, 0), []),
  (.iload_n 3, (1067, 1), (3, 0, 0), (0, 0), []),
  (.iconst 1, (1068, 1), (0, 0, 0), (1, 0), []),
  (.iadd, (1069, 1), (0, 0, 0), (0, 0), []),
  (.iaload, (1070, 1), (0, 0, 0), (0, 0), []),
  (.aload_n 0, (1071, 1), (0, 0, 0), (0, 0), []),
  (.iload_n 3, (1072, 1), (3, 0, 0), (0, 0), []),
  (.iconst 2, (1073, 1), (0, 0, 0), (2, 0), []),
  (.iadd, (1074, 1), (0, 0, 0), (0, 0), []),
  (.iaload, (1075, 1), (0, 0, 0), (0, 0), []),
  (.aload_n 0, (1076, 1), (0, 0, 0), (0, 0), []),
  (.iload_n 3, (1077, 1), (3, 0, 0), (0, 0), []),
  (.iconst 3, (1078, 1), (0, 0, 0), (3, 0), []),
  (.iadd, (1079, 1), (0, 0, 0), (0, 0), [])]
def mm_r203_23 : List mm_R := [
  (.iaload, (1080, 1), (0, 0, 0), (0, 0), []),
  (.invokevirtual 142, (1081, 3), (197, 4, 1), (0, 0), []),
  (.if_icmp .eq 175, (1084, 3), (0, 887, 0), (0, 0), []),
  (.iconst 0, (1087, 1), (0, 0, 0), (0, 0), []),
  (.ireturn, (1088, 1), (1, 0, 0), (0, 0), []),
  (.aload_n 1, (1089, 1), (1, 0, 0), (0, 0), []),
  (.aload_n 0, (1090, 1), (0, 0, 0), (0, 0), []),
  (.iload_n 3, (1091, 1), (3, 0, 0), (0, 0), []),
  (.iconst 1, (1092, 1), (0, 0, 0), (1, 0), []),
  (.iadd, (1093, 1), (0, 0, 0), (0, 0), []),
  (.iaload, (1094, 1), (0, 0, 0), (0, 0), []),
  (.aload_n 0, (1095, 1), (0, 0, 0), (0, 0), []),
  (.iload_n 3, (1096, 1), (3, 0, 0), (0, 0), []),
  (.iconst 2, (1097, 1), (0, 0, 0), (2, 0), []),
  (.iadd, (1098, 1), (0, 0, 0), (0, 0), []),
  (.iaload, (1099, 1), (0, 0, 0), (0, 0), []),
  (.aload_n 0, (1100, 1), (0, 0, 0), (0, 0), []),
  (.iload_n 3, (1101, 1), (3, 0, 0), (0, 0), []),
  (.iconst 3, (1102, 1), (0, 0, 0), (3, 0), []),
  (.iadd, (1103, 1), (0, 0, 0), (0, 0), []),
  (.iaload, (1104, 1), (0, 0, 0), (0, 0), []),
  (.i2l, (1105, 1), (0, 0, 0), (0, 0), []),
  (.bipush 32, (1106, 2), (0, 0, 0), (32, 0), []),
  (.lshl, (1108, 1), (0, 0, 0), (0, 0), []),
  (.aload_n 0, (1109, 1), (0, 0, 0), (0, 0), []),
  (.iload_n 3, (1110, 1), (3, 0, 0), (0, 0), []),
  (.iconst 4, (1111, 1), (0, 0, 0), (4, 0), []),
  (.iadd, (1112, 1), (0, 0, 0), (0, 0), []),
  (.iaload, (1113, 1), (0, 0, 0), (0, 0), []),
  (.i2l, (1114, 1), (0, 0, 0), (0, 0), []),
  (.ldc2_w 143, (1115, 3), (0, 0, 0), (0, 4294967295), []),
  (.land, (1118, 1), (0, 0, 0), (0, 0), [])]
def mm_r203_24 : List mm_R := [
  (.lor, (1119, 1), (0, 0, 0), (0, 0), []),
  (.invokevirtual 145, (1120, 3), (123, 4, 1), (0, 0), []),
  (.aload_n 2, (1123, 1), (2, 0, 0), (0, 0), []),
  (.aload_n 0, (1124, 1), (0, 0, 0), (0, 0), []),
  (.iload_n 3, (1125, 1), (3, 0, 0), (0, 0), []),
  (.iconst 1, (1126, 1), (0, 0, 0), (1, 0), []),
  (.iadd, (1127, 1), (0, 0, 0), (0, 0), []),
  (.iaload, (1128, 1), (0, 0, 0), (0, 0), []),
  (.aload_n 0, (1129, 1), (0, 0, 0), (0, 0), []),
  (.iload_n 3, (1130, 1), (3, 0, 0), (0, 0), []),
  (.iconst 2, (1131, 1), (0, 0, 0), (2, 0), []),
  (.iadd, (1132, 1), (0, 0, 0), (0, 0), []),
  (.iaload, (1133, 1), (0, 0, 0), (0, 0), []),
  (.aload_n 0, (1134, 1), (0, 0, 0), (0, 0), []),
  (.iload_n 3, (1135, 1), (3, 0, 0), (0, 0), []),
  (.iconst 3, (1136, 1), (0, 0, 0), (3, 0), []),
  (.iadd, (1137, 1), (0, 0, 0), (0, 0), []),
  (.iaload, (1138, 1), (0, 0, 0), (0, 0), []),
  (.i2l, (1139, 1), (0, 0, 0), (0, 0), []),
  (.bipush 32, (1140, 2), (0, 0, 0), (32, 0), []),
  (.lshl, (1142, 1), (0, 0, 0), (0, 0), []),
  (.aload_n 0, (1143, 1), (0, 0, 0), (0, 0), []),
  (.iload_n 3, (1144, 1), (3, 0, 0), (0, 0), []),
  (.iconst 4, (1145, 1), (0, 0, 0), (4, 0), []),
  (.iadd, (1146, 1), (0, 0, 0), (0, 0), []),
  (.iaload, (1147, 1), (0, 0, 0), (0, 0), []),
  (.i2l, (1148, 1), (0, 0, 0), (0, 0), []),
  (.ldc2_w 143, (1149, 3), (0, 0, 0), (0, 4294967295), []),
  (.land, (1152, 1), (0, 0, 0), (0, 0), []),
  (.lor, (1153, 1), (0, 0, 0), (0, 0), []),
  (.invokevirtual 149, (1154, 3), (199, 4, 1), (0, 0), []),
  (.if_icmp .eq 102, (1157, 3), (0, 887, 0), (0, 0), [])]
def mm_r203_25 : List mm_R := [
  (.iconst 0, (1160, 1), (0, 0, 0), (0, 0), []),
  (.ireturn, (1161, 1), (1, 0, 0), (0, 0), []),
  (.aload_n 1, (1162, 1), (1, 0, 0), (0, 0), []),
  (.aload_n 0, (1163, 1), (0, 0, 0), (0, 0), []),
  (.iload_n 3, (1164, 1), (3, 0, 0), (0, 0), []),
  (.iconst 1, (1165, 1), (0, 0, 0), (1, 0), []),
  (.iadd, (1166, 1), (0, 0, 0), (0, 0), []),
  (.iaload, (1167, 1), (0, 0, 0), (0, 0), []),
  (.aload_n 0, (1168, 1), (0, 0, 0), (0, 0), []),
  (.iload_n 3, (1169, 1), (3, 0, 0), (0, 0), []),
  (.iconst 2, (1170, 1), (0, 0, 0), (2, 0), []),
  (.iadd, (1171, 1), (0, 0, 0), (0, 0), []),
  (.iaload, (1172, 1), (0, 0, 0), (0, 0), []),
  (.invokevirtual 150, (1173, 3), (124, 3, 1), (0, 0), []),
  (.aload_n 2, (1176, 1), (2, 0, 0), (0, 0), []),
  (.aload_n 0, (1177, 1), (0, 0, 0), (0, 0), []),
  (.iload_n 3, (1178, 1), (3, 0, 0), (0, 0), []),
  (.iconst 1, (1179, 1), (0, 0, 0), (1, 0), []),
  (.iadd, (1180, 1), (0, 0, 0), (0, 0), []),
  (.iaload, (1181, 1), (0, 0, 0), (0, 0), []),
  (.aload_n 0, (1182, 1), (0, 0, 0), (0, 0), []),
  (.iload_n 3, (1183, 1), (3, 0, 0), (0, 0), []),
  (.iconst 2, (1184, 1), (0, 0, 0), (2, 0), []),
  (.iadd, (1185, 1), (0, 0, 0), (0, 0), []),
  (.iaload, (1186, 1), (0, 0, 0), (0, 0), []),
  (.invokevirtual 153, (1187, 3), (201, 3, 1), (0, 0), []),
  (.lcmp, (1190, 1), (0, 0, 0), (0, 0), []),
  (.ifCond .eq 68, (1191, 3), (0, 887, 0), (0, 0), []),
  (.iconst 0, (1194, 1), (0, 0, 0), (0, 0), []),
  (.ireturn, (1195, 1), (1, 0, 0), (0, 0), []),
  (.aload_n 1, (1196, 1), (1, 0, 0), (0, 0), []),
  (.aload_n 0, (1197, 1), (0, 0, 0), (0, 0), [])]
def mm_r203_26 : List mm_R := [
  (.iload_n 3, (1198, 1), (3, 0, 0), (0, 0), []),
  (.iconst 1, (1199, 1), (0, 0, 0), (1, 0), []),
  (.iadd, (1200, 1), (0, 0, 0), (0, 0), []),
  (.iaload, (1201, 1), (0, 0, 0), (0, 0), []),
  (.aload_n 0, (1202, 1), (0, 0, 0), (0, 0), []),
  (.iload_n 3, (1203, 1), (3, 0, 0), (0, 0), []),
  (.iconst 2, (1204, 1), (0, 0, 0), (2, 0), []),
  (.iadd, (1205, 1), (0, 0, 0), (0, 0), []),
  (.iaload, (1206, 1), (0, 0, 0), (0, 0), []),
  (.aload_n 0, (1207, 1), (0, 0, 0), (0, 0), []),
  (.iload_n 3, (1208, 1), (3, 0, 0), (0, 0), []),
  (.iconst 3, (1209, 1), (0, 0, 0), (3, 0), []),
  (.iadd, (1210, 1), (0, 0, 0), (0, 0), []),
  (.iaload, (1211, 1), (0, 0, 0), (0, 0), []),
  (.aload_n 0, (1212, 1), (0, 0, 0), (0, 0), []),
  (.iload_n 3, (1213, 1), (3, 0, 0), (0, 0), []),
  (.iconst 4, (1214, 1), (0, 0, 0), (4, 0), []),
  (.iadd, (1215, 1), (0, 0, 0), (0, 0), []),
  (.iaload, (1216, 1), (0, 0, 0), (0, 0), []),
  (.aload_n 0, (1217, 1), (0, 0, 0), (0, 0), []),
  (.iload_n 3, (1218, 1), (3, 0, 0), (0, 0), []),
  (.iconst 5, (1219, 1), (0, 0, 0), (5, 0), []),
  (.iadd, (1220, 1), (0, 0, 0), (0, 0), []),
  (.iaload, (1221, 1), (0, 0, 0), (0, 0), []),
  (.invokevirtual 154, (1222, 3), (125, 6, 1), (0, 0), []),
  (.aload_n 2, (1225, 1), (2, 0, 0), (0, 0), []),
  (.aload_n 0, (1226, 1), (0, 0, 0), (0, 0), []),
  (.iload_n 3, (1227, 1), (3, 0, 0), (0, 0), []),
  (.iconst 1, (1228, 1), (0, 0, 0), (1, 0), []),
  (.iadd, (1229, 1), (0, 0, 0), (0, 0), []),
  (.iaload, (1230, 1), (0, 0, 0), (0, 0), []),
  (.aload_n 0, (1231, 1), (0, 0, 0), (0, 0), [])]
def mm_r203_27 : List mm_R := [
  (.iload_n 3, (1232, 1), (3, 0, 0), (0, 0), []),
  (.iconst 2, (1233, 1), (0, 0, 0), (2, 0), []),
  (.iadd, (1234, 1), (0, 0, 0), (0, 0), []),
  (.iaload, (1235, 1), (0, 0, 0), (0, 0), []),
  (.aload_n 0, (1236, 1), (0, 0, 0), (0, 0), []),
  (.iload_n 3, (1237, 1), (3, 0, 0), (0, 0), []),
  (.iconst 3, (1238, 1), (0, 0, 0), (3, 0), []),
  (.iadd, (1239, 1), (0, 0, 0), (0, 0), []),
  (.iaload, (1240, 1), (0, 0, 0), (0, 0), []),
  (.aload_n 0, (1241, 1), (0, 0, 0), (0, 0), []),
  (.iload_n 3, (1242, 1), (3, 0, 0), (0, 0), []),
  (.iconst 4, (1243, 1), (0, 0, 0), (4, 0), []),
  (.iadd, (1244, 1), (0, 0, 0), (0, 0), []),
  (.iaload, (1245, 1), (0, 0, 0), (0, 0), []),
  (.aload_n 0, (1246, 1), (0, 0, 0), (0, 0), []),
  (.iload_n 3, (1247, 1), (3, 0, 0), (0, 0), []),
  (.iconst 5, (1248, 1), (0, 0, 0), (5, 0), []),
  (.iadd, (1249, 1), (0, 0, 0), (0, 0), []),
  (.iaload, (1250, 1), (0, 0, 0), (0, 0), []),
  (.invokevirtual 158, (1251, 3), (202, 6, 1), (0, 0), []),
  (.if_icmp .eq 5, (1254, 3), (0, 887, 0), (0, 0), []),
  (.iconst 0, (1257, 1), (0, 0, 0), (0, 0), []),
  (.ireturn, (1258, 1), (1, 0, 0), (0, 0), []),
  (.iinc 3 6, (1259, 3), (3, 0, 0), (6, 0), []),
  (.goto (-1244), (1262, 3), (0, 10, 0), (0, 0), []),
  (.iconst 1, (1265, 1), (0, 0, 0), (1, 0), []),
  (.ireturn, (1266, 1), (1, 0, 0), (0, 0), [])]
def mm_r203 : List (List mm_R) := [mm_r203_0, mm_r203_1, mm_r203_2, mm_r203_3, mm_r203_4, mm_r203_5, mm_r203_6, mm_r203_7, mm_r203_8, mm_r203_9, mm_r203_10, mm_r203_11, mm_r203_12, mm_r203_13, mm_r203_14, mm_r203_15, mm_r203_16, mm_r203_17, mm_r203_18, mm_r203_19, mm_r203_20, mm_r203_21, mm_r203_22, mm_r203_23, mm_r203_24, mm_r203_25, mm_r203_26, mm_r203_27]
end
section
/-- all methods: how many places, the rows -/
def mm_T_0 : List (Nat × List (List mm_R)) := [(4, mm_r0), (5, mm_r1), (2, mm_r2), (2, mm_r3), (2, mm_r4), (1, mm_r5), (1, mm_r6), (1, mm_r7), (2, mm_r8), (1, mm_r9), (2, mm_r10), (2, mm_r11), (3, mm_r12), (2, mm_r13), (4, mm_r14), (1, mm_r15)]
def mm_T_1 : List (Nat × List (List mm_R)) := [(6, mm_r16), (3, mm_r17), (1, mm_r18), (1, mm_r19), (5, mm_r20), (7, mm_r21), (5, mm_r22), (1, mm_r23), (1, mm_r24), (2, mm_r25), (1, mm_r26), (4, mm_r27), (4, mm_r28), (4, mm_r29), (8, mm_r30), (5, mm_r31)]
def mm_T_2 : List (Nat × List (List mm_R)) := [(4, mm_r32), (7, mm_r33), (1, mm_r34), (4, mm_r35), (2, mm_r36), (4, mm_r37), (8, mm_r38), (3, mm_r39), (3, mm_r40), (4, mm_r41), (5, mm_r42), (4, mm_r43), (2, mm_r44), (4, mm_r45), (3, mm_r46), (3, mm_r47)]
def mm_T_3 : List (Nat × List (List mm_R)) := [(1, mm_r48), (2, mm_r49), (5, mm_r50), (5, mm_r51), (4, mm_r52), (6, mm_r53), (4, mm_r54), (1, mm_r55), (2, mm_r56), (4, mm_r57), (3, mm_r58), (1, mm_r59), (1, mm_r60), (3, mm_r61), (2, mm_r62), (2, mm_r63)]
def mm_T_4 : List (Nat × List (List mm_R)) := [(3, mm_r64), (3, mm_r65), (3, mm_r66), (3, mm_r67), (1, mm_r68), (2, mm_r69), (1, mm_r70), (4, mm_r71), (2, mm_r72), (1, mm_r73), (7, mm_r74), (9, mm_r75), (1, mm_r76), (3, mm_r77), (2, mm_r78), (2, mm_r79)]
def mm_T_5 : List (Nat × List (List mm_R)) := [(1, mm_r80), (3, mm_r81), (3, mm_r82), (3, mm_r83), (2, mm_r84), (3, mm_r85), (3, mm_r86), (4, mm_r87), (2, mm_r88), (1, mm_r89), (3, mm_r90), (1, mm_r91), (7, mm_r92), (4, mm_r93), (4, mm_r94), (2, mm_r95)]
def mm_T_6 : List (Nat × List (List mm_R)) := [(2, mm_r96), (5, mm_r97), (2, mm_r98), (3, mm_r99), (2, mm_r100), (3, mm_r101), (3, mm_r102), (7, mm_r103), (6, mm_r104), (4, mm_r105), (6, mm_r106), (7, mm_r107), (4, mm_r108), (3, mm_r109), (3, mm_r110), (3, mm_r111)]
def mm_T_7 : List (Nat × List (List mm_R)) := [(3, mm_r112), (2, mm_r113), (5, mm_r114), (1, mm_r115), (1, mm_r116), (1, mm_r117), (4, mm_r118), (2, mm_r119), (6, mm_r120), (2, mm_r121), (4, mm_r122), (6, mm_r123), (3, mm_r124), (8, mm_r125), (2, mm_r126), (4, mm_r127)]
def mm_T_8 : List (Nat × List (List mm_R)) := [(3, mm_r128), (3, mm_r129), (2, mm_r130), (1, mm_r131), (4, mm_r132), (6, mm_r133), (6, mm_r134), (10, mm_r135), (4, mm_r136), (3, mm_r137), (4, mm_r138), (3, mm_r139), (3, mm_r140), (3, mm_r141), (3, mm_r142), (7, mm_r143)]
def mm_T_9 : List (Nat × List (List mm_R)) := [(4, mm_r144), (4, mm_r145), (4, mm_r146), (1, mm_r147), (2, mm_r148), (3, mm_r149), (3, mm_r150), (3, mm_r151), (5, mm_r152), (2, mm_r153), (5, mm_r154), (4, mm_r155), (3, mm_r156), (2, mm_r157), (1, mm_r158), (1, mm_r159)]
def mm_T_10 : List (Nat × List (List mm_R)) := [(1, mm_r160), (1, mm_r161), (2, mm_r162), (2, mm_r163), (2, mm_r164), (3, mm_r165), (2, mm_r166), (3, mm_r167), (5, mm_r168), (3, mm_r169), (3, mm_r170), (4, mm_r171), (4, mm_r172), (6, mm_r173), (6, mm_r174), (4, mm_r175)]
def mm_T_11 : List (Nat × List (List mm_R)) := [(7, mm_r176), (8, mm_r177), (11, mm_r178), (3, mm_r179), (3, mm_r180), (4, mm_r181), (3, mm_r182), (3, mm_r183), (2, mm_r184), (4, mm_r185), (1, mm_r186), (1, mm_r187), (5, mm_r188), (4, mm_r189), (2, mm_r190), (1, mm_r191)]
def mm_T_12 : List (Nat × List (List mm_R)) := [(5, mm_r192), (5, mm_r193), (2, mm_r194), (4, mm_r195), (2, mm_r196), (5, mm_r197), (1, mm_r198), (5, mm_r199), (3, mm_r200), (3, mm_r201), (7, mm_r202), (4, mm_r203)]
def mm_T (y : Nat) : Option (Nat × List (List mm_R)) := match ([mm_T_0, mm_T_1, mm_T_2, mm_T_3, mm_T_4, mm_T_5, mm_T_6, mm_T_7, mm_T_8, mm_T_9, mm_T_10, mm_T_11, mm_T_12] : List (List (Nat × List (List mm_R))))[y / 16]? with
  | some l => l[y % 16]?
  | none => none
def mm_rw (R : List (List mm_R)) (i : Nat) : Option mm_R := match R[i / 32]? with
  | some l => l[i % 32]?
  | none => none
def mm_rows (y : Nat) : List (List mm_R) := match mm_T y with
  | some p => p.2
  | none => []
/-- the kind of a method's objects (10: texts; 20: it has none; 30 more: it makes them) -/
def mm_rkl : List (List Nat) := [[20, 20, 20, 20, 20, 20, 10, 10, 10, 10, 20, 10, 10, 20, 20, 20], [20, 20, 30, 0, 0, 0, 0, 0, 31, 1, 32, 2, 2, 2, 2, 2], [2, 2, 2, 2, 2, 2, 2, 2, 2, 2, 2, 2, 2, 2, 2, 2], [33, 3, 3, 3, 3, 3, 3, 34, 4, 4, 4, 4, 4, 4, 4, 4], [4, 4, 4, 4, 20, 35, 5, 5, 5, 36, 6, 20, 6, 20, 6, 6], [37, 7, 7, 7, 38, 8, 20, 8, 8, 20, 8, 20, 8, 8, 8, 8], [8, 8, 8, 8, 8, 8, 8, 8, 8, 8, 8, 8, 20, 8, 8, 8], [8, 8, 8, 20, 8, 8, 8, 8, 8, 8, 8, 8, 8, 8, 39, 9], [20, 9, 9, 20, 9, 9, 9, 9, 9, 9, 9, 9, 9, 9, 9, 9], [9, 9, 9, 20, 9, 9, 9, 9, 9, 9, 9, 9, 9, 9, 9, 9], [9, 9, 9, 9, 9, 9, 9, 9, 9, 9, 9, 9, 9, 9, 9, 9], [9, 9, 20, 9, 9, 9, 9, 9, 9, 9, 9, 9, 9, 9, 9, 20], [9, 9, 9, 9, 9, 9, 20, 9, 20, 9, 9, 20]]
def mm_rk (y : Nat) : Nat := match mm_rkl[y / 16]? with
  | some l => l.getD (y % 16) 11
  | none => 11
/-- a call by the object: the object is of the method's kind -/
def mm_rc (r : mm_R) (y : Nat) (as : List Value) (w : mm_W) : Bool := (Nat.blt y 203 && (Nat.blt y 2 || Nat.blt 4 y)) && (match mm_T y with
  | some t => Nat.ble (mm_sl as).length t.1 && Nat.ble t.1 45
  | none => false) && match r.1 with
  | .invokevirtual _ => match as with
    | .ref x :: _ => match w.1[x]? with
      | some D => (D.1 == 0 && (D.2.1 == mm_rk y && Nat.blt D.2.1 10)) || (D.1 == 9 && mm_rk y == 10)
      | none => false
    | _ => false
  | .invokespecial _ => match as with
    | .ref x :: _ => match w.1[x]? with
      | some D => D.1 == 0 && mm_rk y == 30 + D.2.1
      | none => false
    | _ => false
  | .invokestatic _ => mm_rk y == 20
  | _ => true
def mm_exec : Nat → Nat → Nat → Nat → mm_L → List Value → mm_W → Option (Option Value × mm_W)
  | 0, _, _, _, _, _, _ => none
  | f + 1, d, y, i, L, st, w => match mm_rw (mm_rows y) i with
    | none => none
    | some r => match mm_stp r i L st w with
      | some c => mm_exec f d y c.1 c.2.1 c.2.2.1 c.2.2.2
      | none => match mm_ret r st with
        | some v => some (v, w)
        | none => match d with
          | 0 => none
          | d' + 1 => match mm_cl r st with
            | none => none
            | some q => match mm_rc r q.1 q.2.1 w with
              | false => none
              | true => match mm_T q.1 with
              | none => none
              | some t => match mm_exec f d' q.1 0 (mm_ent t.1 q.2.1) [] w with
                | none => none
                | some u => mm_exec f (d' + 1) y (i + 1) L (u.1.toList ++ q.2.2) u.2
/-- steps that are no calls -/
def mm_1 (R : List (List mm_R)) (i : Nat) (L : mm_L) (st : List Value) (w : mm_W) : Option mm_C := match mm_rw R i with
  | none => none
  | some r => mm_stp r i L st w
def mm_k (o : Option mm_C) (k : Nat → mm_L → List Value → mm_W → Option mm_C) : Option mm_C := match o with
  | some (i, L, st, w) => k i L st w
  | none => none
def mm_run (R : List (List mm_R)) : Nat → Nat → mm_L → List Value → mm_W → Option mm_C
  | 0, i, L, st, w => some (i, L, st, w)
  | n + 1, i, L, st, w => mm_k (mm_1 R i L st w) (fun i' L' st' w' => mm_run R n i' L' st' w')
theorem mm_more : ∀ (f d y i : Nat) (L : mm_L) (st : List Value) (w : mm_W) (x : Option Value × mm_W), mm_exec f d y i L st w = some x → ∀ (g e : Nat), f ≤ g → d ≤ e → mm_exec g e y i L st w = some x := by
  intro f
  induction f with
  | zero => intro d y i L st w x h; simp [mm_exec] at h
  | succ f ih =>
    intro d y i L st w x h g e hg he
    obtain ⟨g, rfl⟩ : ∃ k, g = k + 1 := ⟨g - 1, by omega⟩
    have hg : f ≤ g := by omega
    rw [mm_exec] at h ⊢
    cases hr : mm_rw (mm_rows y) i with
    | none => rw [hr] at h; cases h
    | some r =>
      rw [hr] at h
      dsimp only at h ⊢
      cases hs : mm_stp r i L st w with
      | some c =>
        rw [hs] at h
        exact ih _ _ _ _ _ _ _ h _ _ hg he
      | none =>
        rw [hs] at h
        dsimp only at h ⊢
        cases hv : mm_ret r st with
        | some v => rw [hv] at h; exact h
        | none =>
          rw [hv] at h
          dsimp only at h ⊢
          cases d with
          | zero => cases h
          | succ d =>
            obtain ⟨e, rfl⟩ : ∃ k, e = k + 1 := ⟨e - 1, by omega⟩
            have he : d ≤ e := by omega
            dsimp only at h ⊢
            cases hc : mm_cl r st with
            | none => rw [hc] at h; cases h
            | some q =>
              rw [hc] at h
              dsimp only at h ⊢
              cases hrc : mm_rc r q.1 q.2.1 w with
              | false => rw [hrc] at h; cases h
              | true =>
              rw [hrc] at h
              dsimp only at h ⊢
              cases ht : mm_T q.1 with
              | none => rw [ht] at h; cases h
              | some t =>
                rw [ht] at h
                dsimp only at h ⊢
                cases hu : mm_exec f d q.1 0 (mm_ent t.1 q.2.1) [] w with
                | none => rw [hu] at h; cases h
                | some u =>
                  rw [hu] at h
                  rw [ih _ _ _ _ _ _ _ hu g e hg he]
                  exact ih _ _ _ _ _ _ _ h _ _ hg (by omega)
/-- from here the method comes to its end, with Φ of its answer and of what the cells hold; no cell is made -/
def mm_ev (Λ : List mm_D) (d y i : Nat) (L : mm_L) (st : List Value) (μ : mm_M) (Φ : Option Value → mm_M → Prop) : Prop :=
  ∃ (f : Nat) (v : Option Value) (μ' : mm_M), mm_exec f d y i L st (Λ, μ) = some (v, Λ, μ') ∧ Φ v μ'
/-- a call of the method with these values -/
def mm_call (Λ : List mm_D) (d y : Nat) (as : List Value) (μ : mm_M) (Φ : Option Value → mm_M → Prop) : Prop :=
  ∃ (ml : Nat) (R : List (List mm_R)), mm_T y = some (ml, R) ∧ mm_ev Λ d y 0 (mm_ent ml as) [] μ Φ
section
variable {Λ : List mm_D} {d y i : Nat} {L : mm_L} {st : List Value} {μ : mm_M} {Φ Ψ : Option Value → mm_M → Prop}
theorem mm_call.of {ml : Nat} {R : List (List mm_R)} {as : List Value} (h : mm_T y = some (ml, R)) (h2 : mm_ev Λ d y 0 (mm_ent ml as) [] μ Φ) : mm_call Λ d y as μ Φ := ⟨ml, R, h, h2⟩
theorem mm_ev.imp (h : mm_ev Λ d y i L st μ Φ) (hq : ∀ v μ', Φ v μ' → Ψ v μ') : mm_ev Λ d y i L st μ Ψ := by
  obtain ⟨f, v, μ', h1, h2⟩ := h
  exact ⟨f, v, μ', h1, hq _ _ h2⟩
theorem mm_call.imp {as : List Value} (h : mm_call Λ d y as μ Φ) (hq : ∀ v μ', Φ v μ' → Ψ v μ') : mm_call Λ d y as μ Ψ := by
  obtain ⟨ml, R, h1, h2⟩ := h
  exact ⟨ml, R, h1, h2.imp hq⟩
theorem mm_call.deep {as : List Value} {e : Nat} (h : mm_call Λ d y as μ Φ) (he : d ≤ e) : mm_call Λ e y as μ Φ := by
  obtain ⟨ml, R, h1, f, v, μ', h2, h3⟩ := h
  exact ⟨ml, R, h1, f, v, μ', mm_more _ _ _ _ _ _ _ _ h2 _ _ (Nat.le_refl _) he, h3⟩
theorem mm_ev.run1 {R : List (List mm_R)} (hy : mm_rows y = R) : ∀ (k i : Nat) (L : mm_L) (st : List Value) (w : mm_W) {i' : Nat} {L' : mm_L} {st' : List Value} {μ' : mm_M}, mm_run R k i L st w = some (i', L', st', (Λ, μ')) → mm_ev Λ d y i' L' st' μ' Φ → ∃ (f : Nat) (v : Option Value) (μ' : mm_M), mm_exec f d y i L st w = some (v, Λ, μ') ∧ Φ v μ' := by
  intro k
  induction k with
  | zero =>
    intro i L st w i' L' st' μ' h h2
    rw [mm_run] at h
    cases h
    exact h2
  | succ k ih =>
    intro i L st w i' L' st' μ' h h2
    rw [mm_run] at h
    cases hs : mm_1 R i L st w with
    | none => rw [hs] at h; cases h
    | some c' =>
      obtain ⟨i1, L1, st1, w1⟩ := c'
      rw [hs] at h
      obtain ⟨f, v, μ1, h3, h4⟩ := ih i1 L1 st1 w1 h h2
      refine ⟨f + 1, v, μ1, ?_, h4⟩
      rw [mm_exec, hy]
      unfold mm_1 at hs
      cases hr : mm_rw R i with
      | none => rw [hr] at hs; cases hs
      | some r =>
        rw [hr] at hs
        dsimp only at hs ⊢
        rw [hs]
        exact h3
theorem mm_ev.run {R : List (List mm_R)} (hy : mm_rows y = R) (k : Nat) {i' : Nat} {L' : mm_L} {st' : List Value} {μ' : mm_M} (h : mm_run R k i L st (Λ, μ) = some (i', L', st', (Λ, μ'))) (h2 : mm_ev Λ d y i' L' st' μ' Φ) : mm_ev Λ d y i L st μ Φ := mm_ev.run1 hy k _ _ _ _ h h2
theorem mm_ev.ite {c : Prop} [Decidable c] {i1 i2 : Nat} (h1 : c → mm_ev Λ d y i1 L st μ Φ) (h2 : ¬ c → mm_ev Λ d y i2 L st μ Φ) : mm_ev Λ d y (if c then i1 else i2) L st μ Φ := by
  by_cases h : c
  · rw [if_pos h]; exact h1 h
  · rw [if_neg h]; exact h2 h
theorem mm_ev.ret {R : List (List mm_R)} (hy : mm_rows y = R) {r : mm_R} {v : Option Value} (hr : mm_rw R i = some r) (hs : mm_stp r i L st (Λ, μ) = none) (hv : mm_ret r st = some v) (h : Φ v μ) : mm_ev Λ d y i L st μ Φ := by
  refine ⟨1, v, μ, ?_, h⟩
  rw [mm_exec, hy, hr]
  dsimp only
  rw [hs]
  dsimp only
  rw [hv]
theorem mm_ev.call {R : List (List mm_R)} (hy : mm_rows y = R) {r : mm_R} {y' : Nat} {as rest : List Value} (hr : mm_rw R i = some r) (hs : mm_stp r i L st (Λ, μ) = none) (hv : mm_ret r st = none) (hc : mm_cl r st = some (y', as, rest)) (hrc : mm_rc r y' as (Λ, μ) = true) (h : mm_call Λ d y' as μ Ψ) (k : ∀ v μ', Ψ v μ' → mm_ev Λ (d + 1) y (i + 1) L (v.toList ++ rest) μ' Φ) : mm_ev Λ (d + 1) y i L st μ Φ := by
  obtain ⟨ml, R', ht, f1, v1, μ1, e1, p1⟩ := h
  obtain ⟨f2, v2, μ2, e2, p2⟩ := k _ _ p1
  refine ⟨(f1 + f2) + 1, v2, μ2, ?_, p2⟩
  rw [mm_exec, hy, hr]
  dsimp only
  rw [hs]
  dsimp only
  rw [hv]
  dsimp only
  rw [hc]
  dsimp only
  rw [hrc]
  dsimp only
  rw [ht]
  dsimp only
  rw [mm_more _ _ _ _ _ _ _ _ e1 (f1 + f2) d (by omega) (Nat.le_refl _)]
  exact mm_more _ _ _ _ _ _ _ _ e2 (f1 + f2) (d + 1) (by omega) (Nat.le_refl _)
end
end
section
def RX0 : String := "GlobeCorner$Acts"
def TX0 : u_T := fun k => match k with
  | 0 => ("GlobeCorner$Acts", "bodies", "[I", true)
  | 1 => ("GlobeCorner$Acts", "ran", "I", false)
  | 2 => ("GlobeCorner$Acts", "kind", "I", false)
  | 3 => ("GlobeCorner$Acts", "number", "I", false)
  | _ => ("GlobeCorner$Acts", "v", "I", false)
def tyX0 : Nat → FieldType := fun k => match k with
  | 0 => .array .int
  | 1 => .int
  | 2 => .int
  | 3 => .int
  | _ => .int
abbrev wsX00 : List Cond := u_ws RX0 TX0 5
theorem nmX0 : ∀ a, a < 5 → ∀ b, b < 5 → a ≠ b → (TX0 a).2.1 ≠ (TX0 b).2.1 := by decide +kernel
theorem tyX0_ok : ∀ k, k < 5 → parseFieldDescriptor (TX0 k).2.2.1 = some (tyX0 k) := by decide +kernel
def RX1 : String := "GlobeCorner$Corner"
def TX1 : u_T := fun k => match k with
  | 0 => ("GlobeCorner$Corner", "globe", "LGlobeCorner$Globe;", true)
  | 1 => ("GlobeCorner$Corner", "seen", "LGlobeCorner$Rows;", true)
  | 2 => ("GlobeCorner$Corner", "plan", "LGlobeCorner$Rows;", true)
  | _ => ("GlobeCorner$Corner", "book", "LGlobeCorner$Rows;", true)
def tyX1 : Nat → FieldType := fun k => match k with
  | 0 => .object "GlobeCorner$Globe"
  | 1 => .object "GlobeCorner$Rows"
  | 2 => .object "GlobeCorner$Rows"
  | _ => .object "GlobeCorner$Rows"
abbrev wsX10 : List Cond := u_ws RX1 TX1 4
theorem nmX1 : ∀ a, a < 4 → ∀ b, b < 4 → a ≠ b → (TX1 a).2.1 ≠ (TX1 b).2.1 := by decide +kernel
theorem tyX1_ok : ∀ k, k < 4 → parseFieldDescriptor (TX1 k).2.2.1 = some (tyX1 k) := by decide +kernel
def RX2 : String := "GlobeCorner$Globe"
def TX2 : u_T := fun k => match k with
  | 0 => ("GlobeCorner$Globe", "hour", "I", false)
  | 1 => ("GlobeCorner$Globe", "children", "I", false)
  | 2 => ("GlobeCorner$Globe", "school", "LGlobeCorner$School;", false)
  | 3 => ("GlobeCorner$Globe", "need", "[I", true)
  | 4 => ("GlobeCorner$Globe", "kind", "[I", true)
  | 5 => ("GlobeCorner$Globe", "v", "[I", true)
  | 6 => ("GlobeCorner$Globe", "finger", "[I", true)
  | 7 => ("GlobeCorner$Globe", "stood", "[I", true)
  | 8 => ("GlobeCorner$Globe", "row", "[I", true)
  | _ => ("GlobeCorner$Globe", "facts", "[I", true)
def tyX2 : Nat → FieldType := fun k => match k with
  | 0 => .int
  | 1 => .int
  | 2 => .object "GlobeCorner$School"
  | 3 => .array .int
  | 4 => .array .int
  | 5 => .array .int
  | 6 => .array .int
  | 7 => .array .int
  | 8 => .array .int
  | _ => .array .int
abbrev wsX20 : List Cond := u_ws RX2 TX2 10
theorem nmX2 : ∀ a, a < 10 → ∀ b, b < 10 → a ≠ b → (TX2 a).2.1 ≠ (TX2 b).2.1 := by decide +kernel
theorem tyX2_ok : ∀ k, k < 10 → parseFieldDescriptor (TX2 k).2.2.1 = some (tyX2 k) := by decide +kernel
def RX3 : String := "GlobeCorner$Posts"
def TX3 : u_T := fun k => match k with
  | 0 => ("GlobeCorner$Posts", "care", "[I", true)
  | _ => ("GlobeCorner$Posts", "rest", "[I", true)
def tyX3 : Nat → FieldType := fun k => match k with
  | 0 => .array .int
  | _ => .array .int
abbrev wsX30 : List Cond := u_ws RX3 TX3 2
theorem nmX3 : ∀ a, a < 2 → ∀ b, b < 2 → a ≠ b → (TX3 a).2.1 ≠ (TX3 b).2.1 := by decide +kernel
theorem tyX3_ok : ∀ k, k < 2 → parseFieldDescriptor (TX3 k).2.2.1 = some (tyX3 k) := by decide +kernel
def RX4 : String := "GlobeCorner$Reader"
def TX4 : u_T := fun k => match k with
  | 0 => ("GlobeCorner$Reader", "text", "[B", true)
  | 1 => ("GlobeCorner$Reader", "length", "I", false)
  | 2 => ("GlobeCorner$Reader", "at", "I", false)
  | 3 => ("GlobeCorner$Reader", "number", "I", false)
  | _ => ("GlobeCorner$Reader", "into", "LGlobeCorner$School;", false)
def tyX4 : Nat → FieldType := fun k => match k with
  | 0 => .array .byte
  | 1 => .int
  | 2 => .int
  | 3 => .int
  | _ => .object "GlobeCorner$School"
abbrev wsX40 : List Cond := u_ws RX4 TX4 5
theorem nmX4 : ∀ a, a < 5 → ∀ b, b < 5 → a ≠ b → (TX4 a).2.1 ≠ (TX4 b).2.1 := by decide +kernel
theorem tyX4_ok : ∀ k, k < 5 → parseFieldDescriptor (TX4 k).2.2.1 = some (tyX4 k) := by decide +kernel
def RX5 : String := "GlobeCorner$Rows"
def TX5 : u_T := fun k => match k with
  | 0 => ("GlobeCorner$Rows", "first", "[I", true)
  | 1 => ("GlobeCorner$Rows", "second", "[I", true)
  | 2 => ("GlobeCorner$Rows", "third", "[I", true)
  | _ => ("GlobeCorner$Rows", "size", "I", false)
def tyX5 : Nat → FieldType := fun k => match k with
  | 0 => .array .int
  | 1 => .array .int
  | 2 => .array .int
  | _ => .int
abbrev wsX50 : List Cond := u_ws RX5 TX5 4
theorem nmX5 : ∀ a, a < 4 → ∀ b, b < 4 → a ≠ b → (TX5 a).2.1 ≠ (TX5 b).2.1 := by decide +kernel
theorem tyX5_ok : ∀ k, k < 4 → parseFieldDescriptor (TX5 k).2.2.1 = some (tyX5 k) := by decide +kernel
def RX6 : String := "GlobeCorner$School"
def TX6 : u_T := fun k => match k with
  | 0 => ("GlobeCorner$School", "grow", "I", false)
  | 1 => ("GlobeCorner$School", "clauses", "I", false)
  | 2 => ("GlobeCorner$School", "amount", "[I", true)
  | 3 => ("GlobeCorner$School", "end", "[I", true)
  | 4 => ("GlobeCorner$School", "code", "[I", true)
  | _ => ("GlobeCorner$School", "codes", "I", false)
def tyX6 : Nat → FieldType := fun k => match k with
  | 0 => .int
  | 1 => .int
  | 2 => .array .int
  | 3 => .array .int
  | 4 => .array .int
  | _ => .int
abbrev wsX60 : List Cond := u_ws RX6 TX6 6
theorem nmX6 : ∀ a, a < 6 → ∀ b, b < 6 → a ≠ b → (TX6 a).2.1 ≠ (TX6 b).2.1 := by decide +kernel
theorem tyX6_ok : ∀ k, k < 6 → parseFieldDescriptor (TX6 k).2.2.1 = some (tyX6 k) := by decide +kernel
def RX7 : String := "GlobeCorner$Tape"
def TX7 : u_T := fun k => match k with
  | 0 => ("GlobeCorner$Tape", "sort", "I", false)
  | 1 => ("GlobeCorner$Tape", "length", "I", false)
  | _ => ("GlobeCorner$Tape", "items", "[J", true)
def tyX7 : Nat → FieldType := fun k => match k with
  | 0 => .int
  | 1 => .int
  | _ => .array .long
abbrev wsX70 : List Cond := u_ws RX7 TX7 3
theorem nmX7 : ∀ a, a < 3 → ∀ b, b < 3 → a ≠ b → (TX7 a).2.1 ≠ (TX7 b).2.1 := by decide +kernel
theorem tyX7_ok : ∀ k, k < 3 → parseFieldDescriptor (TX7 k).2.2.1 = some (tyX7 k) := by decide +kernel
def RX8 : String := "GlobeCorner"
def TX8 : u_T := fun k => match k with
  | 0 => ("GlobeCorner", "now", "LGlobeCorner$Corner;", true)
  | 1 => ("GlobeCorner", "kept", "LGlobeCorner$Corner;", true)
  | 2 => ("GlobeCorner", "anyKept", "Z", false)
  | 3 => ("GlobeCorner", "trial", "LGlobeCorner$Globe;", true)
  | 4 => ("GlobeCorner", "schools", "[LGlobeCorner$School;", true)
  | 5 => ("GlobeCorner", "schoolsRead", "I", false)
  | 6 => ("GlobeCorner", "reader", "LGlobeCorner$Reader;", true)
  | 7 => ("GlobeCorner", "posts", "LGlobeCorner$Posts;", true)
  | 8 => ("GlobeCorner", "acts", "LGlobeCorner$Acts;", true)
  | _ => ("GlobeCorner", "tapes", "[LGlobeCorner$Tape;", true)
def tyX8 : Nat → FieldType := fun k => match k with
  | 0 => .object "GlobeCorner$Corner"
  | 1 => .object "GlobeCorner$Corner"
  | 2 => .boolean
  | 3 => .object "GlobeCorner$Globe"
  | 4 => .array (.object "GlobeCorner$School")
  | 5 => .int
  | 6 => .object "GlobeCorner$Reader"
  | 7 => .object "GlobeCorner$Posts"
  | 8 => .object "GlobeCorner$Acts"
  | _ => .array (.object "GlobeCorner$Tape")
abbrev wsX80 : List Cond := u_ws RX8 TX8 10
theorem nmX8 : ∀ a, a < 10 → ∀ b, b < 10 → a ≠ b → (TX8 a).2.1 ≠ (TX8 b).2.1 := by decide +kernel
theorem tyX8_ok : ∀ k, k < 10 → parseFieldDescriptor (TX8 k).2.2.1 = some (tyX8 k) := by decide +kernel
def RX9 : String := "GlobeCornerModel"
def TX9 : u_T := fun k => match k with
  | 0 => ("GlobeCornerModel", "need", "[I", true)
  | 1 => ("GlobeCornerModel", "children", "I", false)
  | 2 => ("GlobeCornerModel", "kind", "[I", true)
  | 3 => ("GlobeCornerModel", "v", "[I", true)
  | 4 => ("GlobeCornerModel", "finger", "[I", true)
  | 5 => ("GlobeCornerModel", "stood", "[I", true)
  | 6 => ("GlobeCornerModel", "rows", "[I", true)
  | 7 => ("GlobeCornerModel", "hour", "I", false)
  | 8 => ("GlobeCornerModel", "texted", "I", false)
  | 9 => ("GlobeCornerModel", "text", "[I", true)
  | 10 => ("GlobeCornerModel", "at", "I", false)
  | 11 => ("GlobeCornerModel", "value", "I", false)
  | 12 => ("GlobeCornerModel", "digits", "I", false)
  | 13 => ("GlobeCornerModel", "open", "I", false)
  | 14 => ("GlobeCornerModel", "schools", "I", false)
  | 15 => ("GlobeCornerModel", "holds", "I", false)
  | 16 => ("GlobeCornerModel", "clauses", "[I", true)
  | 17 => ("GlobeCornerModel", "word", "[I", true)
  | 18 => ("GlobeCornerModel", "number", "[I", true)
  | 19 => ("GlobeCornerModel", "begins", "[I", true)
  | 20 => ("GlobeCornerModel", "length", "[I", true)
  | 21 => ("GlobeCornerModel", "code", "[I", true)
  | 22 => ("GlobeCornerModel", "coded", "I", false)
  | 23 => ("GlobeCornerModel", "stack", "[Z", true)
  | 24 => ("GlobeCornerModel", "seen", "I", false)
  | 25 => ("GlobeCornerModel", "seenAt", "[I", true)
  | 26 => ("GlobeCornerModel", "seenIn", "[I", true)
  | 27 => ("GlobeCornerModel", "seenNeed", "[I", true)
  | 28 => ("GlobeCornerModel", "inPlan", "I", false)
  | 29 => ("GlobeCornerModel", "goes", "[I", true)
  | 30 => ("GlobeCornerModel", "whose", "[I", true)
  | 31 => ("GlobeCornerModel", "inBook", "I", false)
  | 32 => ("GlobeCornerModel", "booked", "[I", true)
  | 33 => ("GlobeCornerModel", "bookNeed", "[I", true)
  | 34 => ("GlobeCornerModel", "traced", "I", false)
  | 35 => ("GlobeCornerModel", "traces", "[I", true)
  | 36 => ("GlobeCornerModel", "imaged", "Z", false)
  | 37 => ("GlobeCornerModel", "image", "[I", true)
  | 38 => ("GlobeCornerModel", "ahead", "[I", true)
  | 39 => ("GlobeCornerModel", "care", "[I", true)
  | 40 => ("GlobeCornerModel", "worth", "[I", true)
  | 41 => ("GlobeCornerModel", "tried", "[I", true)
  | 42 => ("GlobeCornerModel", "best", "[I", true)
  | 43 => ("GlobeCornerModel", "most", "I", false)
  | 44 => ("GlobeCornerModel", "tapeSort", "[I", true)
  | 45 => ("GlobeCornerModel", "tapeSize", "[I", true)
  | _ => ("GlobeCornerModel", "items", "[J", true)
def tyX9 : Nat → FieldType := fun k => match k with
  | 0 => .array .int
  | 1 => .int
  | 2 => .array .int
  | 3 => .array .int
  | 4 => .array .int
  | 5 => .array .int
  | 6 => .array .int
  | 7 => .int
  | 8 => .int
  | 9 => .array .int
  | 10 => .int
  | 11 => .int
  | 12 => .int
  | 13 => .int
  | 14 => .int
  | 15 => .int
  | 16 => .array .int
  | 17 => .array .int
  | 18 => .array .int
  | 19 => .array .int
  | 20 => .array .int
  | 21 => .array .int
  | 22 => .int
  | 23 => .array .boolean
  | 24 => .int
  | 25 => .array .int
  | 26 => .array .int
  | 27 => .array .int
  | 28 => .int
  | 29 => .array .int
  | 30 => .array .int
  | 31 => .int
  | 32 => .array .int
  | 33 => .array .int
  | 34 => .int
  | 35 => .array .int
  | 36 => .boolean
  | 37 => .array .int
  | 38 => .array .int
  | 39 => .array .int
  | 40 => .array .int
  | 41 => .array .int
  | 42 => .array .int
  | 43 => .int
  | 44 => .array .int
  | 45 => .array .int
  | _ => .array .long
abbrev wsX90 : List Cond := u_ws RX9 TX9 47
theorem nmX9 : ∀ a, a < 47 → ∀ b, b < 47 → a ≠ b → (TX9 a).2.1 ≠ (TX9 b).2.1 := by decide +kernel
theorem tyX9_ok : ∀ k, k < 47 → parseFieldDescriptor (TX9 k).2.2.1 = some (tyX9 k) := by decide +kernel
abbrev vwCl : List vw_C := [(RX0, TX0, 5), (RX1, TX1, 4), (RX2, TX2, 10), (RX3, TX3, 2), (RX4, TX4, 5), (RX5, TX5, 4), (RX6, TX6, 6), (RX7, TX7, 3), (RX8, TX8, 10), (RX9, TX9, 47)]
def mm_FC : List (List Nat) := [[2, 0, 0, 0, 0], [2, 2, 2, 2], [0, 0, 1, 2, 2, 2, 2, 2, 2, 2], [2, 2], [2, 0, 0, 0, 1], [2, 2, 2, 0], [0, 0, 2, 2, 2, 0], [0, 0, 2], [2, 2, 0, 2, 2, 0, 2, 2, 2, 2], [2, 0, 2, 2, 2, 2, 2, 0, 0, 2, 0, 0, 0, 0, 0, 0, 2, 2, 2, 2, 2, 2, 0, 2, 0, 2, 2, 2, 0, 2, 2, 0, 2, 2, 0, 2, 0, 2, 2, 2, 2, 2, 2, 0, 2, 2, 2]]
def mm_I_0 : List (MethodName × ByteArray × Option FieldType) := [(⟨"java/util/Arrays", "fill", "([II)V"⟩, prog_19_method_103_code, none), (⟨"java/util/Arrays", "fill", "([JJ)V"⟩, prog_19_method_101_code, none), (⟨"java/lang/Math", "min", "(II)I"⟩, prog_14_method_69_code, some .int), (⟨"java/lang/Math", "max", "(II)I"⟩, prog_14_method_65_code, some .int), (⟨"java/lang/Math", "abs", "(J)J"⟩, prog_14_method_61_code, some .long), (⟨"java/lang/Integer", "bitCount", "(I)I"⟩, prog_13_method_49_code, some .int), (⟨"java/lang/String", "length", "()I"⟩, prog_15_method_54_code, some .int), (⟨"java/lang/String", "coder", "()B"⟩, prog_15_method_152_code, some .byte), (⟨"java/lang/String", "charAt", "(I)C"⟩, prog_15_method_56_code, some .char), (⟨"java/lang/String", "isLatin1", "()Z"⟩, prog_15_method_154_code, some .boolean), (⟨"java/lang/String", "checkIndex", "(II)V"⟩, prog_15_method_155_code, none), (⟨"java/lang/String", "indexOf", "(I)I"⟩, prog_15_method_79_code, some .int), (⟨"java/lang/String", "indexOf", "(II)I"⟩, prog_15_method_80_code, some .int), (⟨"java/lang/StringLatin1", "charAt", "([BI)C"⟩, prog_16_method_2_code, some .char), (⟨"java/lang/StringLatin1", "indexOf", "([BIII)I"⟩, prog_16_method_22_code, some .int), (⟨"java/lang/StringLatin1", "canEncode", "(I)Z"⟩, prog_16_method_4_code, some .boolean)]
def mm_I_1 : List (MethodName × ByteArray × Option FieldType) := [(⟨"java/lang/StringLatin1", "indexOfChar", "([BIII)I"⟩, prog_16_method_23_code, some .int), (⟨"jdk/internal/util/Preconditions", "checkIndex", "(IILjava/util/function/BiFunction;)I"⟩, prog_20_method_11_code, some .int), (⟨"GlobeCorner$Acts", "<init>", "()V"⟩, prog_2_method_1_code, none), (⟨"GlobeCorner$Acts", "forget", "()V"⟩, prog_2_method_2_code, none), (⟨"GlobeCorner$Acts", "begin", "(LGlobeCorner$Globe;III)I"⟩, prog_2_method_4_code, some .int), (⟨"GlobeCorner$Acts", "run", "(IIII)I"⟩, prog_2_method_5_code, some .int), (⟨"GlobeCorner$Acts", "answer", "(IIII)I"⟩, prog_2_method_6_code, some .int), (⟨"GlobeCorner$Acts", "keptBodies", "()I"⟩, prog_2_method_3_code, some .int), (⟨"GlobeCorner$Corner", "<init>", "()V"⟩, prog_3_method_1_code, none), (⟨"GlobeCorner$Corner", "copyFrom", "(LGlobeCorner$Corner;)V"⟩, prog_3_method_2_code, none), (⟨"GlobeCorner$Globe", "<init>", "()V"⟩, prog_4_method_1_code, none), (⟨"GlobeCorner$Globe", "join", "(II)I"⟩, prog_4_method_3_code, some .int), (⟨"GlobeCorner$Globe", "isAnotherOn", "(II)Z"⟩, prog_4_method_9_code, some .boolean), (⟨"GlobeCorner$Globe", "careNow", "(IIZ)I"⟩, prog_4_method_10_code, some .int), (⟨"GlobeCorner$Globe", "care", "(IIIIZ)I"⟩, prog_4_method_11_code, some .int), (⟨"GlobeCorner$Globe", "factsOf", "(IIII)[I"⟩, prog_4_method_12_code, some (.array .int))]
def mm_I_2 : List (MethodName × ByteArray × Option FieldType) := [(⟨"GlobeCorner$Globe", "hoursUntilWell", "(I)I"⟩, prog_4_method_18_code, some .int), (⟨"GlobeCorner$Globe", "needNext", "(III)I"⟩, prog_4_method_14_code, some .int), (⟨"GlobeCorner$Globe", "grow", "()I"⟩, prog_4_method_4_code, some .int), (⟨"GlobeCorner$Globe", "fingersOn", "(I)I"⟩, prog_4_method_8_code, some .int), (⟨"GlobeCorner$Globe", "copyFrom", "(LGlobeCorner$Globe;)V"⟩, prog_4_method_2_code, none), (⟨"GlobeCorner$Globe", "isAllSoBut", "(ILGlobeCorner$Rows;)Z"⟩, prog_4_method_21_code, some .boolean), (⟨"GlobeCorner$Globe", "isSo", "(ILGlobeCorner$Rows;)Z"⟩, prog_4_method_22_code, some .boolean), (⟨"GlobeCorner$Globe", "carryFingers", "(I)V"⟩, prog_4_method_5_code, none), (⟨"GlobeCorner$Globe", "fingersOnPlaces", "()I"⟩, prog_4_method_7_code, some .int), (⟨"GlobeCorner$Globe", "allNeedBehind", "(I)I"⟩, prog_4_method_16_code, some .int), (⟨"GlobeCorner$Globe", "needBehind", "(II)I"⟩, prog_4_method_15_code, some .int), (⟨"GlobeCorner$Globe", "wellBehind", "(I)I"⟩, prog_4_method_17_code, some .int), (⟨"GlobeCorner$Globe", "goHour", "()V"⟩, prog_4_method_13_code, none), (⟨"GlobeCorner$Globe", "gather", "(II)V"⟩, prog_4_method_6_code, none), (⟨"GlobeCorner$Globe", "goStep", "(II)V"⟩, prog_4_method_20_code, none), (⟨"GlobeCorner$Globe", "allStood", "()I"⟩, prog_4_method_19_code, some .int)]
def mm_I_3 : List (MethodName × ByteArray × Option FieldType) := [(⟨"GlobeCorner$Posts", "<init>", "()V"⟩, prog_5_method_1_code, none), (⟨"GlobeCorner$Posts", "most", "(LGlobeCorner$Globe;)I"⟩, prog_5_method_2_code, some .int), (⟨"GlobeCorner$Posts", "weigh", "(LGlobeCorner$Globe;)V"⟩, prog_5_method_6_code, none), (⟨"GlobeCorner$Posts", "mostOf", "(II)I"⟩, prog_5_method_7_code, some .int), (⟨"GlobeCorner$Posts", "withPlace", "(III)I"⟩, prog_5_method_5_code, some .int), (⟨"GlobeCorner$Posts", "placeOf", "(LGlobeCorner$Globe;I)I"⟩, prog_5_method_3_code, some .int), (⟨"GlobeCorner$Posts", "firstBest", "(II)I"⟩, prog_5_method_4_code, some .int), (⟨"GlobeCorner$Reader", "<init>", "()V"⟩, prog_6_method_1_code, none), (⟨"GlobeCorner$Reader", "take", "(I)I"⟩, prog_6_method_2_code, some .int), (⟨"GlobeCorner$Reader", "readInto", "(LGlobeCorner$School;)I"⟩, prog_6_method_3_code, some .int), (⟨"GlobeCorner$Reader", "isClause", "()Z"⟩, prog_6_method_4_code, some .boolean), (⟨"GlobeCorner$Reader", "next", "()I"⟩, prog_6_method_14_code, some .int), (⟨"GlobeCorner$Reader", "isGrow", "()Z"⟩, prog_6_method_5_code, some .boolean), (⟨"GlobeCorner$Reader", "isWord", "(Ljava/lang/String;)Z"⟩, prog_6_method_12_code, some .boolean), (⟨"GlobeCorner$Reader", "isSign", "(I)Z"⟩, prog_6_method_13_code, some .boolean), (⟨"GlobeCorner$Reader", "isNumber", "()Z"⟩, prog_6_method_11_code, some .boolean)]
def mm_I_4 : List (MethodName × ByteArray × Option FieldType) := [(⟨"GlobeCorner$Reader", "isAny", "(I)Z"⟩, prog_6_method_6_code, some .boolean), (⟨"GlobeCorner$Reader", "isAll", "(I)Z"⟩, prog_6_method_7_code, some .boolean), (⟨"GlobeCorner$Reader", "isOne", "(I)Z"⟩, prog_6_method_8_code, some .boolean), (⟨"GlobeCorner$Reader", "isTest", "()Z"⟩, prog_6_method_9_code, some .boolean), (⟨"GlobeCorner$Reader", "wayOf", "(I)I"⟩, prog_6_method_10_code, some .int), (⟨"GlobeCorner$Rows", "<init>", "(I)V"⟩, prog_7_method_1_code, none), (⟨"GlobeCorner$Rows", "wipe", "()I"⟩, prog_7_method_3_code, some .int), (⟨"GlobeCorner$Rows", "add", "(III)I"⟩, prog_7_method_2_code, some .int), (⟨"GlobeCorner$Rows", "copyFrom", "(LGlobeCorner$Rows;)V"⟩, prog_7_method_4_code, none), (⟨"GlobeCorner$School", "<init>", "()V"⟩, prog_8_method_1_code, none), (⟨"GlobeCorner$School", "sum", "([I)I"⟩, prog_8_method_5_code, some .int), (⟨"GlobeCorner$School", "goOn", "(JI[I)J"⟩, prog_8_method_6_code, some .long), (⟨"GlobeCorner$School", "empty", "()V"⟩, prog_8_method_2_code, none), (⟨"GlobeCorner$School", "test", "(III)I"⟩, prog_8_method_7_code, some .int), (⟨"GlobeCorner$School", "put", "(I)V"⟩, prog_8_method_3_code, none), (⟨"GlobeCorner$School", "endClause", "(I)V"⟩, prog_8_method_4_code, none)]
def mm_I_5 : List (MethodName × ByteArray × Option FieldType) := [(⟨"GlobeCorner$Tape", "<init>", "()V"⟩, prog_9_method_1_code, none), (⟨"GlobeCorner$Tape", "become", "(II)I"⟩, prog_9_method_2_code, some .int), (⟨"GlobeCorner$Tape", "narrowed", "(J)J"⟩, prog_9_method_3_code, some .long), (⟨"GlobeCorner$Tape", "hasRun", "(II)Z"⟩, prog_9_method_4_code, some .boolean), (⟨"GlobeCorner", "<init>", "()V"⟩, prog_1_method_1_code, none), (⟨"GlobeCorner", "child", "(II)I"⟩, prog_1_method_2_code, some .int), (⟨"GlobeCorner", "within", "(III)Z"⟩, prog_1_method_36_code, some .boolean), (⟨"GlobeCorner", "of", "(II)I"⟩, prog_1_method_3_code, some .int), (⟨"GlobeCorner", "isChild", "(I)Z"⟩, prog_1_method_40_code, some .boolean), (⟨"GlobeCorner", "isPlaceBehindTen", "(I)Z"⟩, prog_1_method_38_code, some .boolean), (⟨"GlobeCorner", "spot", "(II)I"⟩, prog_1_method_4_code, some .int), (⟨"GlobeCorner", "isPlace", "(I)Z"⟩, prog_1_method_37_code, some .boolean), (⟨"GlobeCorner", "fittingNeeds", "(IZ)I"⟩, prog_1_method_41_code, some .int), (⟨"GlobeCorner", "point", "(II)I"⟩, prog_1_method_5_code, some .int), (⟨"GlobeCorner", "need", "(II)I"⟩, prog_1_method_6_code, some .int), (⟨"GlobeCorner", "spin", "(I)I"⟩, prog_1_method_7_code, some .int)]
def mm_I_6 : List (MethodName × ByteArray × Option FieldType) := [(⟨"GlobeCorner", "bell", "()I"⟩, prog_1_method_8_code, some .int), (⟨"GlobeCorner", "row", "(III)I"⟩, prog_1_method_9_code, some .int), (⟨"GlobeCorner", "feed", "(I)I"⟩, prog_1_method_10_code, some .int), (⟨"GlobeCorner", "school", "()I"⟩, prog_1_method_11_code, some .int), (⟨"GlobeCorner", "told", "(I)I"⟩, prog_1_method_12_code, some .int), (⟨"GlobeCorner", "pass", "(I)I"⟩, prog_1_method_13_code, some .int), (⟨"GlobeCorner", "on", "(II)I"⟩, prog_1_method_14_code, some .int), (⟨"GlobeCorner", "crowd", "(II)I"⟩, prog_1_method_15_code, some .int), (⟨"GlobeCorner", "turn", "(I)I"⟩, prog_1_method_16_code, some .int), (⟨"GlobeCorner", "see", "(III)I"⟩, prog_1_method_17_code, some .int), (⟨"GlobeCorner", "can", "(II)I"⟩, prog_1_method_18_code, some .int), (⟨"GlobeCorner", "odds", "(IIII)J"⟩, prog_1_method_19_code, some .long), (⟨"GlobeCorner", "partOfTwelfths", "(II)J"⟩, prog_1_method_42_code, some .long), (⟨"GlobeCorner", "mean", "(II)J"⟩, prog_1_method_20_code, some .long), (⟨"GlobeCorner", "plan", "(II)I"⟩, prog_1_method_21_code, some .int), (⟨"GlobeCorner", "ends", "(I)I"⟩, prog_1_method_22_code, some .int)]
def mm_I_7 : List (MethodName × ByteArray × Option FieldType) := [(⟨"GlobeCorner", "book", "(II)I"⟩, prog_1_method_23_code, some .int), (⟨"GlobeCorner", "looked", "()I"⟩, prog_1_method_24_code, some .int), (⟨"GlobeCorner", "judge", "(II)I"⟩, prog_1_method_25_code, some .int), (⟨"GlobeCorner", "isTape", "(I)Z"⟩, prog_1_method_39_code, some .boolean), (⟨"GlobeCorner", "image", "()I"⟩, prog_1_method_26_code, some .int), (⟨"GlobeCorner", "undo", "()I"⟩, prog_1_method_27_code, some .int), (⟨"GlobeCorner", "act", "(III)I"⟩, prog_1_method_28_code, some .int), (⟨"GlobeCorner", "trace", "(I)I"⟩, prog_1_method_29_code, some .int), (⟨"GlobeCorner", "taken", "(II)I"⟩, prog_1_method_30_code, some .int), (⟨"GlobeCorner", "count", "(I)I"⟩, prog_1_method_31_code, some .int), (⟨"GlobeCorner", "tape", "(III)I"⟩, prog_1_method_32_code, some .int), (⟨"GlobeCorner", "item", "(IIJ)I"⟩, prog_1_method_33_code, some .int), (⟨"GlobeCorner", "read", "(II)J"⟩, prog_1_method_34_code, some .long), (⟨"GlobeCorner", "shift", "(IIIII)I"⟩, prog_1_method_35_code, some .int), (⟨"GlobeCornerModel", "<init>", "()V"⟩, prog_11_method_1_code, none), (⟨"GlobeCornerModel", "child", "(II)I"⟩, prog_11_method_6_code, some .int)]
def mm_I_8 : List (MethodName × ByteArray × Option FieldType) := [(⟨"GlobeCornerModel", "within", "(III)Z"⟩, prog_11_method_2_code, some .boolean), (⟨"GlobeCornerModel", "of", "(II)I"⟩, prog_11_method_7_code, some .int), (⟨"GlobeCornerModel", "isOne", "(I)Z"⟩, prog_11_method_3_code, some .boolean), (⟨"GlobeCornerModel", "isSpot", "(I)Z"⟩, prog_11_method_4_code, some .boolean), (⟨"GlobeCornerModel", "isMet", "(II)Z"⟩, prog_11_method_33_code, some .boolean), (⟨"GlobeCornerModel", "careOf", "(IIZ)I"⟩, prog_11_method_34_code, some .int), (⟨"GlobeCornerModel", "sum", "(II)I"⟩, prog_11_method_31_code, some .int), (⟨"GlobeCornerModel", "isTrue", "(III)Z"⟩, prog_11_method_30_code, some .boolean), (⟨"GlobeCornerModel", "letterOf", "(III)I"⟩, prog_11_method_29_code, some .int), (⟨"GlobeCornerModel", "spot", "(II)I"⟩, prog_11_method_8_code, some .int), (⟨"GlobeCornerModel", "well", "(I)I"⟩, prog_11_method_42_code, some .int), (⟨"GlobeCornerModel", "keep", "([I)V"⟩, prog_11_method_59_code, none), (⟨"GlobeCornerModel", "goesHour", "()V"⟩, prog_11_method_35_code, none), (⟨"GlobeCornerModel", "growBy", "()I"⟩, prog_11_method_32_code, some .int), (⟨"GlobeCornerModel", "again", "([I)V"⟩, prog_11_method_60_code, none), (⟨"GlobeCornerModel", "needs", "(II)I"⟩, prog_11_method_49_code, some .int)]
def mm_I_9 : List (MethodName × ByteArray × Option FieldType) := [(⟨"GlobeCornerModel", "isSeen", "()Z"⟩, prog_11_method_48_code, some .boolean), (⟨"GlobeCornerModel", "point", "(II)I"⟩, prog_11_method_9_code, some .int), (⟨"GlobeCornerModel", "need", "(II)I"⟩, prog_11_method_10_code, some .int), (⟨"GlobeCornerModel", "isNeed", "(I)Z"⟩, prog_11_method_5_code, some .boolean), (⟨"GlobeCornerModel", "spin", "(I)I"⟩, prog_11_method_13_code, some .int), (⟨"GlobeCornerModel", "spins", "(I)V"⟩, prog_11_method_12_code, none), (⟨"GlobeCornerModel", "onSome", "()I"⟩, prog_11_method_11_code, some .int), (⟨"GlobeCornerModel", "bell", "()I"⟩, prog_11_method_14_code, some .int), (⟨"GlobeCornerModel", "row", "(III)I"⟩, prog_11_method_15_code, some .int), (⟨"GlobeCornerModel", "feed", "(I)I"⟩, prog_11_method_16_code, some .int), (⟨"GlobeCornerModel", "school", "()I"⟩, prog_11_method_28_code, some .int), (⟨"GlobeCornerModel", "isClause", "(I)Z"⟩, prog_11_method_27_code, some .boolean), (⟨"GlobeCornerModel", "isAll", "(Ljava/lang/String;)Z"⟩, prog_11_method_20_code, some .boolean), (⟨"GlobeCornerModel", "is", "(I)Z"⟩, prog_11_method_17_code, some .boolean), (⟨"GlobeCornerModel", "isNumber", "()Z"⟩, prog_11_method_19_code, some .boolean), (⟨"GlobeCornerModel", "isDigit", "()Z"⟩, prog_11_method_18_code, some .boolean)]
def mm_I_10 : List (MethodName × ByteArray × Option FieldType) := [(⟨"GlobeCornerModel", "isE", "()Z"⟩, prog_11_method_26_code, some .boolean), (⟨"GlobeCornerModel", "isT", "()Z"⟩, prog_11_method_25_code, some .boolean), (⟨"GlobeCornerModel", "isF", "()Z"⟩, prog_11_method_24_code, some .boolean), (⟨"GlobeCornerModel", "isOpened", "(I)Z"⟩, prog_11_method_23_code, some .boolean), (⟨"GlobeCornerModel", "codes", "(I)Z"⟩, prog_11_method_21_code, some .boolean), (⟨"GlobeCornerModel", "isTest", "()Z"⟩, prog_11_method_22_code, some .boolean), (⟨"GlobeCornerModel", "told", "(I)I"⟩, prog_11_method_39_code, some .int), (⟨"GlobeCornerModel", "posts", "()V"⟩, prog_11_method_44_code, none), (⟨"GlobeCornerModel", "tries", "(III)V"⟩, prog_11_method_43_code, none), (⟨"GlobeCornerModel", "allNeed", "()I"⟩, prog_11_method_36_code, some .int), (⟨"GlobeCornerModel", "allWell", "()I"⟩, prog_11_method_37_code, some .int), (⟨"GlobeCornerModel", "pass", "(I)I"⟩, prog_11_method_40_code, some .int), (⟨"GlobeCornerModel", "on", "(II)I"⟩, prog_11_method_41_code, some .int), (⟨"GlobeCornerModel", "crowd", "(II)I"⟩, prog_11_method_45_code, some .int), (⟨"GlobeCornerModel", "turn", "(I)I"⟩, prog_11_method_46_code, some .int), (⟨"GlobeCornerModel", "see", "(III)I"⟩, prog_11_method_47_code, some .int)]
def mm_I_11 : List (MethodName × ByteArray × Option FieldType) := [(⟨"GlobeCornerModel", "can", "(II)I"⟩, prog_11_method_50_code, some .int), (⟨"GlobeCornerModel", "odds", "(IIII)J"⟩, prog_11_method_52_code, some .long), (⟨"GlobeCornerModel", "part", "(JJI)J"⟩, prog_11_method_51_code, some .long), (⟨"GlobeCornerModel", "mean", "(II)J"⟩, prog_11_method_53_code, some .long), (⟨"GlobeCornerModel", "plan", "(II)I"⟩, prog_11_method_54_code, some .int), (⟨"GlobeCornerModel", "ends", "(I)I"⟩, prog_11_method_55_code, some .int), (⟨"GlobeCornerModel", "allStood", "()I"⟩, prog_11_method_38_code, some .int), (⟨"GlobeCornerModel", "book", "(II)I"⟩, prog_11_method_56_code, some .int), (⟨"GlobeCornerModel", "looked", "()I"⟩, prog_11_method_57_code, some .int), (⟨"GlobeCornerModel", "judge", "(II)I"⟩, prog_11_method_58_code, some .int), (⟨"GlobeCornerModel", "image", "()I"⟩, prog_11_method_61_code, some .int), (⟨"GlobeCornerModel", "undo", "()I"⟩, prog_11_method_62_code, some .int), (⟨"GlobeCornerModel", "act", "(III)I"⟩, prog_11_method_68_code, some .int), (⟨"GlobeCornerModel", "points", "(III)I"⟩, prog_11_method_65_code, some .int), (⟨"GlobeCornerModel", "ran", "(I)V"⟩, prog_11_method_63_code, none), (⟨"GlobeCornerModel", "above", "(I)I"⟩, prog_11_method_64_code, some .int)]
def mm_I_12 : List (MethodName × ByteArray × Option FieldType) := [(⟨"GlobeCornerModel", "sees", "(III)I"⟩, prog_11_method_66_code, some .int), (⟨"GlobeCornerModel", "tells", "(III)I"⟩, prog_11_method_67_code, some .int), (⟨"GlobeCornerModel", "trace", "(I)I"⟩, prog_11_method_69_code, some .int), (⟨"GlobeCornerModel", "taken", "(II)I"⟩, prog_11_method_70_code, some .int), (⟨"GlobeCornerModel", "count", "(I)I"⟩, prog_11_method_71_code, some .int), (⟨"GlobeCornerModel", "tape", "(III)I"⟩, prog_11_method_73_code, some .int), (⟨"GlobeCornerModel", "isTape", "(I)Z"⟩, prog_11_method_72_code, some .boolean), (⟨"GlobeCornerModel", "item", "(IIJ)I"⟩, prog_11_method_75_code, some .int), (⟨"GlobeCornerModel", "kept", "(IJ)J"⟩, prog_11_method_74_code, some .long), (⟨"GlobeCornerModel", "read", "(II)J"⟩, prog_11_method_76_code, some .long), (⟨"GlobeCornerModel", "shift", "(IIIII)I"⟩, prog_11_method_77_code, some .int), (⟨"GlobeCornerLaw", "law", "([I)Z"⟩, code, some .boolean)]
def mm_I (y : Nat) : MethodName × ByteArray × Option FieldType := match ([mm_I_0, mm_I_1, mm_I_2, mm_I_3, mm_I_4, mm_I_5, mm_I_6, mm_I_7, mm_I_8, mm_I_9, mm_I_10, mm_I_11, mm_I_12] : List (List (MethodName × ByteArray × Option FieldType)))[y / 16]? with
  | some l => l.getD (y % 16) (⟨"", "", ""⟩, code, none)
  | none => (⟨"", "", ""⟩, code, none)
end
section
/-! THE ROWS ARE THE CODE'S: what a row must be, checked by program -/
/-- a word of the tables, by its place: 1000 * part + place -/
def mm_seg (n : Nat) : List Cond := match n with
  | 0 => k2_sels lw_privs
  | 1 => tables_1_1
  | 2 => tables_1_2
  | 3 => tables_1_3
  | 4 => tables_1_4
  | 5 => tables_1_5
  | _ => tables_1_6
def mm_has (h : Nat) (w : Cond) : Bool := match (mm_seg (h / 1000))[h % 1000]? with
  | some v => decide (v = w) && goodWord w
  | none => false
def mm_good : List Cond := lw_tbl.filter goodWord
theorem mm_seg_mem (n : Nat) {w : Cond} (h : w ∈ mm_seg n) : w ∈ lw_tbl := by
  unfold lw_tbl tables_1
  unfold mm_seg at h
  split at h <;> simp only [List.mem_append] <;> simp [h]
theorem mm_has_mem {h : Nat} {w : Cond} (e : mm_has h w = true) : w ∈ mm_good := by
  unfold mm_has at e
  split at e
  · rename_i v hv
    simp only [Bool.and_eq_true, decide_eq_true_eq] at e
    obtain ⟨rfl, e2⟩ := e
    exact List.mem_filter.mpr ⟨mm_seg_mem _ (List.mem_of_getElem? hv), e2⟩
  · cases e
/-- the next row's pc, a jump's -/
def mm_pcis (R : List (List mm_R)) (i : Nat) (n : Int) : Bool := match mm_rw R i with
  | some r => decide ((r.2.1.1 : Int) = n)
  | none => true
def mm_pcj (R : List (List mm_R)) (i : Nat) (n : Int) : Bool := match mm_rw R i with
  | some r => decide ((r.2.1.1 : Int) = n)
  | none => false
def mm_T1 (a : Nat) : vw_C := vwCl.getD a (RX0, TX0, 5)
def mm_fc (a b : Nat) : Nat := (mm_FC.getD a []).getD b 9
/-- String constants: whose, which place, which cell -/
def mm_strs : List (String × Nat × Nat) := [("GlobeCorner$Reader", 67, 5), ("GlobeCorner$Reader", 46, 3), ("GlobeCorner$Reader", 48, 4), ("GlobeCorner$Reader", 84, 6), ("GlobeCornerModel", 213, 3), ("GlobeCornerModel", 219, 4), ("GlobeCornerModel", 221, 5), ("GlobeCornerModel", 182, 6), ("GlobeCornerModel", 187, 7)]
/-- makings of nest mates: which place of GlobeCorner's, whose -/
def mm_nest : List (Nat × Nat) := [(11, 24), (36, 55), (43, 48), (50, 18), (61, 73), (62, 80)]
def mm_par (y : Nat) : Option Nat := (parseMethodDescriptor (mm_I y).1.desc).map (fun d => d.parameters.length)
def mm_swok (R : List (List mm_R)) (pc : Int) : List (Int32 × Nat) → List (Int × Int) → Bool
  | [], [] => true
  | (v, t) :: r, (k, off) :: q => decide (v.toInt = k) && mm_pcj R t (pc + off) && mm_swok R pc r q
  | _, _ => false
def mm_seq : Int → List Int → List (Int × Int)
  | _, [] => []
  | k, x :: l => (k, x) :: mm_seq (k + 1) l
def mm_ok (Y : MethodName × ByteArray × Option FieldType) (R : List (List mm_R)) (i h : Nat) (r : mm_R) : Bool :=
  decide (decode Y.2.1 r.2.1.1 = .ok (r.1, r.2.1.2)) && mm_pcis R (i + 1) ((r.2.1.1 + r.2.1.2 : Nat) : Int) && match r.1 with
  | .iconst n => decide (Int32.ofInt n = r.2.2.2.1.1) && decide (r.2.1.2 = 1)
  | .bipush n => decide ((Int8.ofInt n).toInt32 = r.2.2.2.1.1) && decide (r.2.1.2 = 2)
  | .sipush n => decide ((Int16.ofInt n).toInt32 = r.2.2.2.1.1) && decide (r.2.1.2 = 3)
  | .ldc k => decide (r.2.1.2 = 2) && match r.2.2.1.2.2 with
    | 0 => mm_has h (.constant Y.1.cls k r.2.2.2.1.1)
    | _ => decide ((Y.1.cls, k, r.2.2.1.1) ∈ mm_strs)
  | .ldc_w k => decide (r.2.1.2 = 3) && mm_has h (.constant Y.1.cls k r.2.2.2.1.1)
  | .ldc2_w k => decide (r.2.1.2 = 3) && mm_has h (.constantLong Y.1.cls k r.2.2.2.1.2)
  | .lconst n => decide (Int64.ofNat (n : Nat) = r.2.2.2.1.2) && decide (r.2.1.2 = 1)
  | .getstatic k => decide (r.2.1.2 = 3) && match r.2.2.1.2.2 with
    | 0 => decide (r.2.2.2.1.1 = 1) && mm_has h (.fieldLink Y.1.cls k "java/lang/String" "COMPACT_STRINGS" "Z")
    | _ => match r.2.2.1.1 with
      | 1 => mm_has h (.fieldLink Y.1.cls k "GlobeCorner" "KIND_ABOVE" "[I") || decide (Y.1.cls = "GlobeCorner$Acts" ∧ k = 47)
      | 2 => mm_has h (.fieldLink Y.1.cls k "GlobeCorner$Acts" "BODIES" "[I")
      | 13 => mm_has h (.fieldLink Y.1.cls k "jdk/internal/util/Preconditions" "SIOOBE_FORMATTER" "Ljava/util/function/BiFunction;")
      | _ => false
  | .goto off => mm_pcj R r.2.2.1.2.1 ((r.2.1.1 : Int) + off) && decide (r.2.1.2 = 3)
  | .ifCond _ off => mm_pcj R r.2.2.1.2.1 ((r.2.1.1 : Int) + off) && decide (r.2.1.2 = 3)
  | .if_icmp _ off => mm_pcj R r.2.2.1.2.1 ((r.2.1.1 : Int) + off) && decide (r.2.1.2 = 3)
  | .ifnonnull off => mm_pcj R r.2.2.1.2.1 ((r.2.1.1 : Int) + off) && decide (r.2.1.2 = 3)
  | .tableswitch df lo hi offs => mm_pcj R r.2.2.1.2.1 ((r.2.1.1 : Int) + df) && decide (hi = lo + offs.size - 1) && decide (-2147483648 ≤ lo) && decide (hi ≤ 2147483647) && mm_swok R r.2.1.1 r.2.2.2.2 (mm_seq lo offs.toList)
  | .lookupswitch df ps => mm_pcj R r.2.2.1.2.1 ((r.2.1.1 : Int) + df) && (ps.toList.zip (ps.toList.drop 1)).all (fun (a, next) => a.1 < next.1) && mm_swok R r.2.1.1 r.2.2.2.2 ps.toList
  | .iload k => decide (k = r.2.2.1.1) && decide (r.2.1.2 = 2)
  | .iload_n k => decide ((k : Nat) = r.2.2.1.1) && decide (r.2.1.2 = 1)
  | .lload k => decide (k = r.2.2.1.1) && decide (r.2.1.2 = 2)
  | .lload_n k => decide ((k : Nat) = r.2.2.1.1) && decide (r.2.1.2 = 1)
  | .aload k => decide (k = r.2.2.1.1) && decide (r.2.1.2 = 2)
  | .aload_n k => decide ((k : Nat) = r.2.2.1.1) && decide (r.2.1.2 = 1)
  | .istore k => decide (k = r.2.2.1.1) && decide (r.2.1.2 = 2)
  | .istore_n k => decide ((k : Nat) = r.2.2.1.1) && decide (r.2.1.2 = 1)
  | .lstore k => decide (k = r.2.2.1.1) && decide (r.2.1.2 = 2)
  | .astore k => decide (k = r.2.2.1.1) && decide (r.2.1.2 = 2)
  | .astore_n k => decide ((k : Nat) = r.2.2.1.1) && decide (r.2.1.2 = 1)
  | .iinc k n => decide (k = r.2.2.1.1) && decide (Int32.ofInt n = r.2.2.2.1.1) && decide (r.2.1.2 = 3)
  | .getfield k => decide (r.2.1.2 = 3) && match r.2.2.1.2.2 with
    | 3 => mm_has h (.fieldLink Y.1.cls k "java/lang/String" "value" "[B")
    | 4 => mm_has h (.fieldLink Y.1.cls k "java/lang/String" "coder" "B")
    | c => Nat.blt r.2.2.1.1 10 && Nat.blt r.2.2.1.2.1 (mm_N.getD r.2.2.1.1 0) && decide (mm_fc r.2.2.1.1 r.2.2.1.2.1 = c) && mm_has h (.fieldLink Y.1.cls k (((mm_T1 r.2.2.1.1).2.1 r.2.2.1.2.1).1) (((mm_T1 r.2.2.1.1).2.1 r.2.2.1.2.1).2.1) (((mm_T1 r.2.2.1.1).2.1 r.2.2.1.2.1).2.2.1))
  | .putfield k => decide (r.2.1.2 = 3) && Nat.blt r.2.2.1.1 10 && Nat.blt r.2.2.1.2.1 (mm_N.getD r.2.2.1.1 0) && mm_has h (.fieldLink Y.1.cls k (((mm_T1 r.2.2.1.1).2.1 r.2.2.1.2.1).1) (((mm_T1 r.2.2.1.1).2.1 r.2.2.1.2.1).2.1) (((mm_T1 r.2.2.1.1).2.1 r.2.2.1.2.1).2.2.1)) && match r.2.2.1.2.2 with
    | 0 => decide (mm_fc r.2.2.1.1 r.2.2.1.2.1 = 0) && !((mm_T1 r.2.2.1.1).2.1 r.2.2.1.2.1).2.2.2 && decide (parseFieldDescriptor ((mm_T1 r.2.2.1.1).2.1 r.2.2.1.2.1).2.2.1 = some .int)
    | 5 => decide (mm_fc r.2.2.1.1 r.2.2.1.2.1 = 0) && !((mm_T1 r.2.2.1.1).2.1 r.2.2.1.2.1).2.2.2 && decide (parseFieldDescriptor ((mm_T1 r.2.2.1.1).2.1 r.2.2.1.2.1).2.2.1 = some .boolean)
    | 1 => decide (mm_fc r.2.2.1.1 r.2.2.1.2.1 = 1) && !((mm_T1 r.2.2.1.1).2.1 r.2.2.1.2.1).2.2.2 && decide (parseFieldDescriptor ((mm_T1 r.2.2.1.1).2.1 r.2.2.1.2.1).2.2.1 = some (.object "GlobeCorner$School"))
    | 2 => decide (mm_fc r.2.2.1.1 r.2.2.1.2.1 = 2) && ((mm_T1 r.2.2.1.1).2.1 r.2.2.1.2.1).2.2.2 && decide (((mm_T1 r.2.2.1.1).2.1 r.2.2.1.2.1).1 = Y.1.cls) && decide (Y.1.name = "<init>") && (match parseFieldDescriptor ((mm_T1 r.2.2.1.1).2.1 r.2.2.1.2.1).2.2.1 with
      | some (.object _) => true
      | some (.array _) => true
      | _ => false)
    | _ => false
  | .new k => decide (r.2.1.2 = 3) && Nat.blt r.2.2.1.1 10 && mm_has h (.classLink Y.1.cls k (mm_T1 r.2.2.1.1).1)
  | .newarray ty => decide (r.2.1.2 = 2) && match ty with
    | .int => decide (r.2.2.1.1 = 1)
    | .byte => decide (r.2.2.1.1 = 2)
    | .boolean => decide (r.2.2.1.1 = 3)
    | .long => decide (r.2.2.1.1 = 4)
    | _ => false
  | .anewarray k => decide (r.2.1.2 = 3) && match r.2.2.1.1 with
    | 5 => mm_has h (.classLink Y.1.cls k RX6)
    | 6 => mm_has h (.classLink Y.1.cls k RX7)
    | _ => false
  | .invokespecial k => decide (r.2.1.2 = 3) && match r.2.2.1.2.2 with
    | 4 => mm_has h (.methodLink Y.1.cls k Lib.objectInit)
    | 2 => mm_has h (.methodLink Y.1.cls k (mm_I r.2.2.1.1).1) && decide (mm_par r.2.2.1.1 = some (r.2.2.1.2.1 - 1)) && Nat.blt 0 r.2.2.1.2.1 && decide ((mm_I r.2.2.1.1).1.name = "<init>")
    | 3 => decide (Y.1.cls = "GlobeCorner") && decide ((k, r.2.2.1.1) ∈ mm_nest) && decide (mm_par r.2.2.1.1 = some (r.2.2.1.2.1 - 1)) && Nat.blt 0 r.2.2.1.2.1 && decide ((mm_I r.2.2.1.1).1.name = "<init>")
    | c => Nat.ble 4 c
  | .invokestatic k => decide (r.2.1.2 = 3) && match r.2.2.1.2.2 with
    | 5 => mm_has h (.methodLink Y.1.cls k arraycopyName)
    | 6 => mm_has h (.methodLink Y.1.cls k Lib.Math.max.name)
    | 7 => mm_has h (.methodLink Y.1.cls k Lib.Math.min.name)
    | 8 => mm_has h (.methodLink Y.1.cls k Lib.MathLoose.abs_long.x)
    | 0 => mm_has h (.methodLink Y.1.cls k (mm_I r.2.2.1.1).1) && decide (mm_par r.2.2.1.1 = some r.2.2.1.2.1)
    | c => Nat.ble 4 c
  | .invokevirtual k => decide (r.2.1.2 = 3) && match r.2.2.1.2.2 with
    | 1 => mm_has h (.methodLink Y.1.cls k (mm_I r.2.2.1.1).1) && decide (mm_par r.2.2.1.1 = some (r.2.2.1.2.1 - 1)) && Nat.blt 0 r.2.2.1.2.1
    | c => Nat.ble 4 c
  | .lstore_n _ => false
  | .ireturn => decide (r.2.1.2 = 1) && match r.2.2.1.1 with
    | 0 => decide (Y.2.2 = some .int)
    | 1 => decide (Y.2.2 = some .boolean)
    | 2 => decide (Y.2.2 = some .char)
    | _ => decide (Y.2.2 = some .byte)
  | .lreturn => decide (r.2.1.2 = 1) && decide (Y.2.2 = some .long)
  | .areturn => decide (r.2.1.2 = 1) && decide (Y.2.2 = some (.array .int))
  | .return_ => decide (r.2.1.2 = 1) && decide (Y.2.2 = none)
  | _ => decide (r.2.1.2 = 1)
def mm_okc (Y : MethodName × ByteArray × Option FieldType) (R : List (List mm_R)) : Nat → List Nat → List mm_R → Bool
  | _, _, [] => true
  | _, [], _ :: _ => false
  | i, h :: hs, r :: rs => mm_ok Y R i h r && mm_okc Y R (i + 1) hs rs
theorem mm_okc_at {Y : MethodName × ByteArray × Option FieldType} {R : List (List mm_R)} : ∀ (i : Nat) (hs : List Nat) (rs : List mm_R), mm_okc Y R i hs rs = true → ∀ (k : Nat) (r : mm_R), rs[k]? = some r → ∃ h, mm_ok Y R (i + k) h r = true
  | i, hs, [], _, k, r, h2 => by simp at h2
  | i, [], _ :: _, h, _, _, _ => by cases h
  | i, h :: hs, r0 :: rs, h1, k, r, h2 => by
    rw [mm_okc, Bool.and_eq_true] at h1
    cases k with
    | zero => rw [List.getElem?_cons_zero] at h2; cases h2; exact ⟨h, h1.1⟩
    | succ k =>
      rw [List.getElem?_cons_succ] at h2
      obtain ⟨h', e⟩ := mm_okc_at (i + 1) hs rs h1.2 k r h2
      exact ⟨h', by rw [show i + (k + 1) = i + 1 + k by omega]; exact e⟩
/-- a method that is called: its code's word, that it is begun, how it is chosen -/
def mm_okm (y : Nat) (h1 h2 h3 h4 : Nat) : Bool := match mm_T y with
  | some t => mm_has h1 (.code (mm_I y).1 (mm_I y).2.1 t.1 (mm_I y).2.2) && mm_has h2 (.initialized (mm_I y).1.cls) && plainName (mm_I y).1.cls && decide ((mm_I y).1.cls ≠ "java/lang/invoke/MethodHandle") && decide ((mm_I y).1.cls ≠ "java/lang/invoke/VarHandle") && (mm_has h3 (.static (mm_I y).1) || (mm_has h3 (.instanceMethod (mm_I y).1) && (decide ((mm_I y).1.name = "<init>") || mm_has h4 (.selects (mm_I y).1.cls (mm_I y).1 (mm_I y).1))))
  | none => false
end
section
theorem mm_k0_0 : mm_okc (mm_I 0) mm_r0 0 [0, 0, 0, 0, 0, 0, 0, 0, 0, 0, 0, 0, 0, 0, 0] mm_r0_0 = true := by decide +kernel
theorem mm_k1_0 : mm_okc (mm_I 1) mm_r1 0 [0, 0, 0, 0, 0, 0, 0, 0, 0, 0, 0, 0, 0, 0, 0] mm_r1_0 = true := by decide +kernel
theorem mm_k2_0 : mm_okc (mm_I 2) mm_r2 0 [0, 0, 0, 0, 0, 0, 0] mm_r2_0 = true := by decide +kernel
theorem mm_k3_0 : mm_okc (mm_I 3) mm_r3 0 [0, 0, 0, 0, 0, 0, 0] mm_r3_0 = true := by decide +kernel
theorem mm_k4_0 : mm_okc (mm_I 4) mm_r4 0 [0, 0, 0, 0, 0, 0, 0, 0, 0] mm_r4_0 = true := by decide +kernel
theorem mm_k5_0 : mm_okc (mm_I 5) mm_r5 0 [0, 0, 0, 0, 3128, 0, 0, 0, 0, 3129, 0, 0, 0, 0, 3129, 0, 0, 0, 0, 0, 0, 0, 0, 3130, 0, 0, 0, 0, 0, 0, 0, 0] mm_r5_0 = true := by decide +kernel
theorem mm_k5_1 : mm_okc (mm_I 5) mm_r5 32 [0, 0, 0, 0, 0, 0, 0, 0, 0, 0] mm_r5_1 = true := by decide +kernel
theorem mm_k6_0 : mm_okc (mm_I 6) mm_r6 0 [0, 6071, 0, 0, 2197, 0, 0] mm_r6_0 = true := by decide +kernel
theorem mm_k7_0 : mm_okc (mm_I 7) mm_r7 0 [2201, 0, 0, 6072, 0, 0, 0] mm_r7_0 = true := by decide +kernel
theorem mm_k8_0 : mm_okc (mm_I 8) mm_r8 0 [0, 2207, 0, 0, 6071, 0, 2211, 0, 0, 6071, 0, 0, 0] mm_r8_0 = true := by decide +kernel
theorem mm_k9_0 : mm_okc (mm_I 9) mm_r9 0 [2201, 0, 0, 6072, 0, 0, 0, 0, 0] mm_r9_0 = true := by decide +kernel
theorem mm_k10_0 : mm_okc (mm_I 10) mm_r10 0 [0, 0, 2217, 2219, 0, 0] mm_r10_0 = true := by decide +kernel
theorem mm_k11_0 : mm_okc (mm_I 11) mm_r11 0 [0, 0, 0, 3032, 0] mm_r11_0 = true := by decide +kernel
theorem mm_k12_0 : mm_okc (mm_I 12) mm_r12 0 [0, 2207, 0, 0, 6071, 0, 0, 0, 3036, 3037, 0, 0, 6071, 0, 0, 0, 3036, 0, 0] mm_r12_0 = true := by decide +kernel
theorem mm_k13_0 : mm_okc (mm_I 13) mm_r13 0 [0, 0, 0, 2214, 0, 0, 0, 0, 0, 0, 0] mm_r13_0 = true := by decide +kernel
theorem mm_k14_0 : mm_okc (mm_I 14) mm_r14 0 [0, 3040, 0, 0, 0, 0, 0, 3043, 0, 0, 0, 0, 3044, 0, 0, 0, 0, 0, 0, 0, 0, 0, 0, 3045, 0] mm_r14_0 = true := by decide +kernel
theorem mm_k15_0 : mm_okc (mm_I 15) mm_r15 0 [0, 0, 0, 0, 0, 0, 0, 0, 0] mm_r15_0 = true := by decide +kernel
theorem mm_k16_0 : mm_okc (mm_I 16) mm_r16 0 [0, 0, 0, 0, 0, 0, 0, 0, 0, 0, 0, 0, 0, 0, 0, 0, 0, 0, 0] mm_r16_0 = true := by decide +kernel
theorem mm_k17_0 : mm_okc (mm_I 17) mm_r17 0 [0, 0, 0, 0, 0, 0, 0, 0, 0, 0, 0, 0] mm_r17_0 = true := by decide +kernel
theorem mm_k18_0 : mm_okc (mm_I 18) mm_r18 0 [0, 1176, 0, 0, 0, 1177, 0] mm_r18_0 = true := by decide +kernel
theorem mm_k19_0 : mm_okc (mm_I 19) mm_r19 0 [0, 0, 1179, 0] mm_r19_0 = true := by decide +kernel
theorem mm_k20_0 : mm_okc (mm_I 20) mm_r20 0 [0, 0, 1054, 0, 0, 1181, 0, 0, 1182, 0, 0, 1057, 0, 0, 1183, 0, 0, 1181, 0, 0, 0, 4024, 0] mm_r20_0 = true := by decide +kernel
theorem mm_k21_0 : mm_okc (mm_I 21) mm_r21 0 [0, 0, 0, 0, 0, 0, 0, 0, 0, 4028, 0, 0, 0, 0, 0, 0, 0, 0, 0, 0, 0, 0, 0, 0, 0, 0, 0, 0, 0, 0, 4028, 0] mm_r21_0 = true := by decide +kernel
theorem mm_k21_1 : mm_okc (mm_I 21) mm_r21 32 [0, 0, 0, 0, 0, 0, 0, 1179, 0, 1177, 0, 0, 0, 1177, 0, 1179, 0, 0, 0, 0, 1179, 0, 0, 1179, 0, 0, 0, 0, 0, 0, 0, 0] mm_r21_1 = true := by decide +kernel
theorem mm_k21_2 : mm_okc (mm_I 21) mm_r21 64 [0, 4032, 0] mm_r21_2 = true := by decide +kernel
theorem mm_k22_0 : mm_okc (mm_I 22) mm_r22 0 [0, 0, 0, 0, 1182, 0, 0, 0, 0, 1181, 0, 0, 0, 4024, 0, 1183, 0, 0, 0, 0, 1181, 0, 0, 0, 4024, 0, 0, 0, 0, 0, 0, 0] mm_r22_0 = true := by decide +kernel
theorem mm_k22_1 : mm_okc (mm_I 22) mm_r22 32 [0, 4024, 0, 0, 0, 0, 0, 0, 0, 0, 0, 0, 4024, 0, 0, 0, 0, 0, 0, 4024, 0, 0, 1181, 0, 0, 0, 4024, 0, 0, 0, 0, 0] mm_r22_1 = true := by decide +kernel
theorem mm_k22_2 : mm_okc (mm_I 22) mm_r22 64 [0, 0, 4024, 0, 0, 0, 0, 0, 0, 0, 0, 0, 4024, 0, 0, 0, 0, 0, 0, 1182, 0, 0, 4024, 0, 0, 0, 0, 0, 0, 4024, 0, 0] mm_r22_2 = true := by decide +kernel
theorem mm_k22_3 : mm_okc (mm_I 22) mm_r22 96 [0, 0, 0, 4024, 0, 0, 0, 0, 0, 0, 0, 4024, 0, 1183, 0, 0, 0, 0] mm_r22_3 = true := by decide +kernel
theorem mm_k23_0 : mm_okc (mm_I 23) mm_r23 0 [0, 1179, 0, 1177, 0, 4044, 0] mm_r23_0 = true := by decide +kernel
theorem mm_k24_0 : mm_okc (mm_I 24) mm_r24 0 [0, 1033, 0, 1034, 0, 1036, 1113, 0, 1087, 0, 0, 1089, 1115, 0, 1087, 0, 0, 1089, 1117, 0, 1087, 0, 0, 1089, 1119, 0] mm_r24_0 = true := by decide +kernel
theorem mm_k25_0 : mm_okc (mm_I 25) mm_r25 0 [0, 1113, 0, 1113, 4002, 0, 1115, 0, 1115, 4003, 0, 1117, 0, 1117, 4003, 0, 1119, 0, 1119, 4003, 0] mm_r25_0 = true := by decide +kernel
theorem mm_k26_0 : mm_okc (mm_I 26) mm_r26 0 [0, 1039, 0, 0, 0, 1050, 0, 0, 0, 1052, 0, 0, 0, 1055, 0, 0, 0, 1058, 0, 0, 0, 1060, 0, 0, 0, 1062, 0, 0, 0, 1064, 0, 1050] mm_r26_0 = true := by decide +kernel
theorem mm_k26_1 : mm_okc (mm_I 26) mm_r26 32 [0, 1040, 0, 1058, 0, 1040, 0] mm_r26_1 = true := by decide +kernel
theorem mm_k27_0 : mm_okc (mm_I 27) mm_r27 0 [0, 1045, 0, 0, 0, 0, 0, 1052, 0, 1045, 0, 0, 0, 1055, 0, 1045, 0, 0, 0, 1058, 0, 1045, 0, 0, 0, 1060, 0, 1045, 0, 0, 0, 0] mm_r27_0 = true := by decide +kernel
theorem mm_k27_1 : mm_okc (mm_I 27) mm_r27 32 [0, 0, 0, 0, 1062, 0, 1045, 0, 0, 0, 0, 0, 0, 0, 0, 0, 0, 1045, 0, 0, 1045, 0, 1045, 0, 0, 0] mm_r27_1 = true := by decide +kernel
theorem mm_k28_0 : mm_okc (mm_I 28) mm_r28 0 [0, 0, 0, 0, 1045, 0, 0, 0, 0, 0, 1058, 0, 0, 0, 0, 0, 0, 0, 0, 0, 0] mm_r28_0 = true := by decide +kernel
theorem mm_k29_0 : mm_okc (mm_I 29) mm_r29 0 [0, 0, 0, 0, 1050, 0, 0, 0, 0, 2063, 0] mm_r29_0 = true := by decide +kernel
theorem mm_k30_0 : mm_okc (mm_I 30) mm_r30 0 [0, 1048, 0, 0, 0, 0, 1048, 0, 0, 0, 0, 0, 2067, 2071, 0, 0, 1043, 0, 0, 0, 0, 0, 0, 0, 0, 0, 0, 0, 1052, 0, 0, 0] mm_r30_0 = true := by decide +kernel
theorem mm_k30_1 : mm_okc (mm_I 30) mm_r30 32 [0, 0, 1055, 0, 0, 0, 0, 0, 0, 0, 0, 0, 0, 0, 0, 1055, 0, 0, 0, 0, 0, 0, 0, 0, 0, 0, 0, 0, 0, 0, 0, 1060] mm_r30_1 = true := by decide +kernel
theorem mm_k30_2 : mm_okc (mm_I 30) mm_r30 64 [0, 0, 0, 0, 0, 0, 2078, 0, 0, 0, 0, 1062, 0, 0, 0, 0, 0, 0, 0, 0, 0, 0, 0, 0] mm_r30_2 = true := by decide +kernel
theorem mm_k31_0 : mm_okc (mm_I 31) mm_r31 0 [0, 1064, 0, 0, 0, 0, 1064, 0, 0, 1052, 0, 0, 0, 0, 1064, 0, 0, 1055, 0, 0, 0, 0, 1064, 0, 0, 0, 0, 1064, 0, 0, 0, 0] mm_r31_0 = true := by decide +kernel
theorem mm_k31_1 : mm_okc (mm_I 31) mm_r31 32 [0, 0, 1064, 0, 0, 1043, 0, 0, 0, 0, 0, 0, 1064, 0] mm_r31_1 = true := by decide +kernel
theorem mm_k32_0 : mm_okc (mm_I 32) mm_r32 0 [0, 1050, 0, 0, 0, 0, 0, 0, 0, 0, 0, 0, 0, 0, 0, 0, 0, 0, 2092, 0, 0, 0, 0, 0] mm_r32_0 = true := by decide +kernel
theorem mm_k33_0 : mm_okc (mm_I 33) mm_r33 0 [0, 0, 2096, 0, 0, 0, 0, 2100, 0, 0, 0, 0, 0, 0, 0, 0, 0, 0, 1045, 0, 0, 1058, 0, 0, 0, 0, 0, 0, 0, 0, 0, 0] mm_r33_0 = true := by decide +kernel
theorem mm_k33_1 : mm_okc (mm_I 33) mm_r33 32 [0, 0, 2063, 2104, 0, 0, 0, 0, 0, 0, 0, 2078, 2104, 0] mm_r33_1 = true := by decide +kernel
theorem mm_k34_0 : mm_okc (mm_I 34) mm_r34 0 [0, 1048, 0, 0, 0, 0, 1048, 1203, 0] mm_r34_0 = true := by decide +kernel
theorem mm_k35_0 : mm_okc (mm_I 35) mm_r35 0 [0, 0, 0, 0, 0, 0, 1045, 0, 0, 1058, 0, 0, 0, 0, 0, 0, 0, 0, 0] mm_r35_0 = true := by decide +kernel
theorem mm_k36_0 : mm_okc (mm_I 36) mm_r36 0 [0, 0, 1043, 1043, 0, 0, 1045, 1045, 0, 0, 1048, 1048, 0, 1050, 0, 0, 1050, 0, 0, 2115, 0, 1052, 0, 0, 1052, 0, 0, 2115, 0, 1055, 0, 0] mm_r36_0 = true := by decide +kernel
theorem mm_k36_1 : mm_okc (mm_I 36) mm_r36 32 [1055, 0, 0, 2115, 0, 1058, 0, 0, 1058, 0, 0, 2115, 0, 1060, 0, 0, 1060, 0, 0, 2115, 0, 1062, 0, 0, 1062, 0, 0, 2115, 0] mm_r36_1 = true := by decide +kernel
theorem mm_k37_0 : mm_okc (mm_I 37) mm_r37 0 [0, 0, 0, 0, 0, 0, 0, 0, 0, 0, 0, 2122, 0, 0, 0, 0, 0, 0, 0] mm_r37_0 = true := by decide +kernel
theorem mm_k38_0 : mm_okc (mm_I 38) mm_r38 0 [0, 0, 0, 0, 0, 0, 1102, 0, 0, 1094, 0, 0, 0, 0, 0, 0, 1097, 0, 0, 2104, 0, 0, 0, 0, 1050, 0, 0, 0, 0, 0, 0, 0] mm_r38_0 = true := by decide +kernel
theorem mm_k38_1 : mm_okc (mm_I 38) mm_r38 32 [0, 0, 0, 0, 0, 1102, 0, 0, 1094, 0, 0, 0, 0, 0, 1097, 0, 0, 0, 0, 0, 0, 0, 0, 0, 0, 0, 1100, 0, 0, 0, 0, 0] mm_r38_1 = true := by decide +kernel
theorem mm_k38_2 : mm_okc (mm_I 38) mm_r38 64 [0, 0, 0, 0, 0, 0, 0, 2092, 0, 0, 0, 0, 0] mm_r38_2 = true := by decide +kernel
theorem mm_k39_0 : mm_okc (mm_I 39) mm_r39 0 [0, 0, 0, 0, 1045, 0, 0, 1058, 0, 0, 0, 0, 1058, 0, 0, 1058, 0, 0, 0, 0, 0, 0, 0, 0, 0, 0] mm_r39_0 = true := by decide +kernel
theorem mm_k40_0 : mm_okc (mm_I 40) mm_r40 0 [0, 0, 0, 0, 0, 0, 1045, 0, 0, 1058, 0, 0, 0, 0, 0, 0, 0, 0] mm_r40_0 = true := by decide +kernel
theorem mm_k41_0 : mm_okc (mm_I 41) mm_r41 0 [0, 0, 0, 0, 0, 0, 0, 0, 0, 0, 0, 3106, 0, 0, 0, 0, 0, 0] mm_r41_0 = true := by decide +kernel
theorem mm_k42_0 : mm_okc (mm_I 42) mm_r42 0 [0, 1050, 0, 0, 0, 0, 0, 0, 0, 0, 0, 0, 0, 0, 2092, 0, 0, 0, 0, 0] mm_r42_0 = true := by decide +kernel
theorem mm_k43_0 : mm_okc (mm_I 43) mm_r43 0 [0, 0, 0, 0, 0, 0, 0, 0, 0, 0, 3106, 0, 0, 0, 0, 0, 0] mm_r43_0 = true := by decide +kernel
theorem mm_k44_0 : mm_okc (mm_I 44) mm_r44 0 [0, 0, 0, 0, 0, 0, 1050, 0, 0, 0, 0, 1050, 0, 0, 0, 2092, 0, 0, 0, 0, 0, 0, 0, 1045, 0, 0, 1058, 0, 0, 0, 0, 1060] mm_r44_0 = true := by decide +kernel
theorem mm_k44_1 : mm_okc (mm_I 44) mm_r44 32 [0, 0, 0, 0, 0, 0, 0, 0, 0, 0, 1043, 0, 0, 1043, 0] mm_r44_1 = true := by decide +kernel
theorem mm_k45_0 : mm_okc (mm_I 45) mm_r45 0 [0, 0, 0, 0, 1045, 0, 0, 1058, 0, 0, 0, 0, 0, 0, 0, 0, 0, 0, 0, 0, 0, 0, 0] mm_r45_0 = true := by decide +kernel
theorem mm_k46_0 : mm_okc (mm_I 46) mm_r46 0 [0, 0, 0, 3213, 0, 0, 1058, 0, 0, 0, 0, 0, 0, 3214, 0, 0, 1050, 0, 0, 0, 0, 0] mm_r46_0 = true := by decide +kernel
theorem mm_k47_0 : mm_okc (mm_I 47) mm_r47 0 [0, 0, 0, 0, 0, 0, 1045, 0, 0, 0, 1060, 0, 0, 0, 0, 0, 0, 0, 0] mm_r47_0 = true := by decide +kernel
theorem mm_k48_0 : mm_okc (mm_I 48) mm_r48 0 [0, 1163, 0, 0, 0, 1164, 0, 0, 0, 1165, 0] mm_r48_0 = true := by decide +kernel
theorem mm_k49_0 : mm_okc (mm_I 49) mm_r49 0 [0, 0, 3118, 0, 1165, 0, 0, 0] mm_r49_0 = true := by decide +kernel
theorem mm_k50_0 : mm_okc (mm_I 50) mm_r50 0 [0, 0, 0, 0, 1046, 0, 0, 0, 0, 0, 0, 0, 0, 0, 0, 3122, 0, 0, 1164, 0, 0, 0, 0, 0, 0, 0, 0, 3123, 3124, 0, 0, 0] mm_r50_0 = true := by decide +kernel
theorem mm_k50_1 : mm_okc (mm_I 50) mm_r50 32 [0, 0, 0, 1165, 0, 0, 0, 0, 0, 0, 0, 3125, 0, 0, 0, 1046, 0, 0, 1165, 0, 0, 0, 1046, 0, 0, 0, 0, 0, 0, 3131, 0, 0] mm_r50_1 = true := by decide +kernel
theorem mm_k50_2 : mm_okc (mm_I 50) mm_r50 64 [0, 0] mm_r50_2 = true := by decide +kernel
theorem mm_k51_0 : mm_okc (mm_I 51) mm_r51 0 [0, 0, 0, 0, 0, 0, 0, 0, 0, 0, 0, 0, 0, 0, 0, 0, 0, 0, 3135, 3124, 0, 0, 0, 0, 0] mm_r51_0 = true := by decide +kernel
theorem mm_k52_0 : mm_okc (mm_I 52) mm_r52 0 [0, 1164, 0, 0, 0, 0, 0, 0, 0, 1165, 0, 0, 0, 0, 0, 0, 0, 0] mm_r52_0 = true := by decide +kernel
theorem mm_k53_0 : mm_okc (mm_I 53) mm_r53 0 [0, 0, 3118, 0, 0, 0, 0, 0, 0, 0, 0, 0, 0, 0, 0, 3143, 0, 0, 0, 0, 0, 0, 0, 0, 0, 0, 0, 0, 0, 0, 0] mm_r53_0 = true := by decide +kernel
theorem mm_k54_0 : mm_okc (mm_I 54) mm_r54 0 [0, 0, 0, 0, 0, 0, 0, 0, 0, 0, 0, 0, 0, 0, 0, 3135, 0, 1165, 0, 0, 0, 0, 0, 0, 0, 0, 0] mm_r54_0 = true := by decide +kernel
theorem mm_k55_0 : mm_okc (mm_I 55) mm_r55 0 [0, 1139, 0, 0, 0, 1140, 0] mm_r55_0 = true := by decide +kernel
theorem mm_k56_0 : mm_okc (mm_I 56) mm_r56 0 [0, 1141, 0, 0, 0, 0, 0, 1140, 0, 1141, 0, 0, 0, 0, 0, 1141, 0, 0, 1141, 0, 1141, 0] mm_r56_0 = true := by decide +kernel
theorem mm_k57_0 : mm_okc (mm_I 57) mm_r57 0 [0, 0, 1145, 0, 1145, 2172, 0, 0, 1143, 0, 2176, 0, 0, 0, 0, 0, 0, 0, 0, 0, 1143, 0, 1141, 0, 0, 0, 3001, 0, 0, 2176, 0, 0] mm_r57_0 = true := by decide +kernel
theorem mm_k57_1 : mm_okc (mm_I 57) mm_r57 32 [0, 0, 0, 0, 0, 0, 0, 0, 1143, 0, 1141, 0, 0, 0, 0, 0, 0, 0, 1141, 0, 0, 0, 1143, 0, 0, 0] mm_r57_1 = true := by decide +kernel
theorem mm_k58_0 : mm_okc (mm_I 58) mm_r58 0 [0, 2180, 0, 0, 0, 2184, 0, 0, 2180, 0, 0, 0, 0, 0, 0, 0, 0, 0, 0, 0, 0, 2189, 0, 0, 3005, 0, 0, 0, 0, 0, 0, 1144] mm_r58_0 = true := by decide +kernel
theorem mm_k58_1 : mm_okc (mm_I 58) mm_r58 32 [0, 0, 1144, 0, 0, 0, 0, 3001, 0, 0, 0, 3011, 0, 0, 0, 0, 1145, 0, 3093, 0, 0] mm_r58_1 = true := by decide +kernel
theorem mm_k59_0 : mm_okc (mm_I 59) mm_r59 0 [0, 1143, 0, 0, 1143, 0, 1141, 0, 0, 1140, 0, 1143, 0, 0, 0, 0] mm_r59_0 = true := by decide +kernel
theorem mm_k60_0 : mm_okc (mm_I 60) mm_r60 0 [0, 0, 2189, 0, 0, 3005, 0, 0, 0, 0, 1145, 0, 1144, 1204, 0, 0] mm_r60_0 = true := by decide +kernel
theorem mm_k61_0 : mm_okc (mm_I 61) mm_r61 0 [0, 0, 0, 0, 2193, 0, 0, 0, 0, 2203, 3001, 0, 0, 0, 0, 0, 0, 0] mm_r61_0 = true := by decide +kernel
theorem mm_k62_0 : mm_okc (mm_I 62) mm_r62 0 [0, 2180, 0, 0, 0, 0, 0, 0, 1143, 0, 0, 1143, 0, 0] mm_r62_0 = true := by decide +kernel
theorem mm_k63_0 : mm_okc (mm_I 63) mm_r63 0 [0, 0, 0, 0, 1144, 0, 0, 0, 0, 1143, 0, 1141, 0, 0, 1140, 0, 1143, 0, 0, 0, 0, 1140, 0, 1143, 0, 0, 0, 0, 0, 1144, 0, 0] mm_r63_0 = true := by decide +kernel
theorem mm_k63_1 : mm_okc (mm_I 63) mm_r63 32 [0, 1140, 0, 1143, 0, 0, 0, 0, 1144, 0, 0, 1143, 0, 0, 1143, 0, 0, 0, 0, 0, 0, 0, 0] mm_r63_1 = true := by decide +kernel
theorem mm_k64_0 : mm_okc (mm_I 64) mm_r64 0 [0, 0, 3015, 0, 0, 0, 0, 0, 0, 0, 0, 0, 2180, 0, 0, 0, 0, 1143, 0, 0, 1143, 0, 0, 3015, 0, 0, 0, 0, 1145, 0, 3089, 0] mm_r64_0 = true := by decide +kernel
theorem mm_k64_1 : mm_okc (mm_I 64) mm_r64 32 [0, 0, 0] mm_r64_1 = true := by decide +kernel
theorem mm_k65_0 : mm_okc (mm_I 65) mm_r65 0 [0, 0, 3019, 0, 0, 0, 0, 0, 0, 0, 0, 0, 2180, 0, 0, 0, 0, 1143, 0, 0, 1143, 0, 0, 3019, 0, 0, 0, 0, 1145, 0, 3089, 0] mm_r65_0 = true := by decide +kernel
theorem mm_k65_1 : mm_okc (mm_I 65) mm_r65 32 [0, 0, 0] mm_r65_1 = true := by decide +kernel
theorem mm_k66_0 : mm_okc (mm_I 66) mm_r66 0 [0, 2180, 0, 0, 0, 0, 0, 0, 0, 0, 3023, 0, 0, 0, 0, 0, 0, 0, 0, 1143, 0, 0, 1143, 0, 0, 0, 0, 0, 0, 0, 3011, 0] mm_r66_0 = true := by decide +kernel
theorem mm_k66_1 : mm_okc (mm_I 66) mm_r66 32 [0, 0, 3001, 0, 0, 0, 0, 0, 0, 0, 0, 0, 3019, 0, 0, 0, 0, 1145, 0, 3089, 0, 0] mm_r66_1 = true := by decide +kernel
theorem mm_k67_0 : mm_okc (mm_I 67) mm_r67 0 [0, 2180, 0, 0, 0, 0, 0, 2180, 0, 3028, 0, 0, 0, 0, 0, 0, 0, 1143, 0, 0, 1143, 0, 2180, 3083, 0, 0, 0, 0, 0, 0, 0, 1143] mm_r67_0 = true := by decide +kernel
theorem mm_k67_1 : mm_okc (mm_I 67) mm_r67 32 [0, 0, 1143, 0, 3005, 0, 0, 0, 0, 1145, 0, 0, 0, 1144, 3086, 3089, 0, 0] mm_r67_1 = true := by decide +kernel
theorem mm_k68_0 : mm_okc (mm_I 68) mm_r68 0 [0, 0, 0, 0, 0, 0, 0, 0, 0, 0] mm_r68_0 = true := by decide +kernel
theorem mm_k69_0 : mm_okc (mm_I 69) mm_r69 0 [0, 1092, 0, 0, 0, 1093, 0, 0, 0, 1096, 0, 0, 0, 1099, 0] mm_r69_0 = true := by decide +kernel
theorem mm_k70_0 : mm_okc (mm_I 70) mm_r70 0 [0, 0, 1101, 0, 0] mm_r70_0 = true := by decide +kernel
theorem mm_k71_0 : mm_okc (mm_I 71) mm_r71 0 [0, 1101, 0, 1093, 0, 0, 0, 0, 0, 1093, 0, 1101, 0, 0, 0, 1096, 0, 1101, 0, 0, 0, 1099, 0, 1101, 0, 0, 0, 0, 1101, 0, 0, 1101] mm_r71_0 = true := by decide +kernel
theorem mm_k71_1 : mm_okc (mm_I 71) mm_r71 32 [0, 1101, 0] mm_r71_1 = true := by decide +kernel
theorem mm_k72_0 : mm_okc (mm_I 72) mm_r72 0 [0, 0, 1101, 1101, 0, 1093, 0, 0, 1093, 0, 0, 1093, 0, 4007, 0, 1096, 0, 0, 1096, 0, 0, 1096, 0, 4007, 0, 1099, 0, 0, 1099, 0, 0, 1099] mm_r72_0 = true := by decide +kernel
theorem mm_k72_1 : mm_okc (mm_I 72) mm_r72 32 [0, 4007, 0] mm_r72_1 = true := by decide +kernel
theorem mm_k73_0 : mm_okc (mm_I 73) mm_r73 0 [0, 1201, 0, 0, 0, 1206, 0, 0, 0, 1207, 0, 0, 0, 1208, 0] mm_r73_0 = true := by decide +kernel
theorem mm_k74_0 : mm_okc (mm_I 74) mm_r74 0 [0, 0, 0, 0, 0, 0, 0, 0, 1205, 0, 0, 0, 0, 0, 1207, 0, 0, 0, 0, 0, 1208, 0, 0, 0, 2075, 0, 0, 0, 0, 0, 0, 0] mm_r74_0 = true := by decide +kernel
theorem mm_k74_1 : mm_okc (mm_I 74) mm_r74 32 [0, 0, 0, 0, 1206, 0, 0, 0, 0, 0, 0, 0, 0] mm_r74_1 = true := by decide +kernel
theorem mm_k75_0 : mm_okc (mm_I 75) mm_r75 0 [0, 0, 0, 0, 0, 0, 0, 0, 0, 0, 0, 0, 0, 0, 0, 0, 0, 0, 0, 0, 0, 0, 0, 0, 0, 0, 0, 0, 0, 0, 0, 0] mm_r75_0 = true := by decide +kernel
theorem mm_k75_1 : mm_okc (mm_I 75) mm_r75 32 [0, 0, 0, 0, 0, 0, 0, 0, 0, 0, 0, 0, 0, 0, 0, 0, 0, 0, 0, 0, 0, 0, 0, 0, 0, 0, 0, 0, 0, 0, 0, 0] mm_r75_1 = true := by decide +kernel
theorem mm_k75_2 : mm_okc (mm_I 75) mm_r75 64 [0, 0, 0, 0, 0, 0, 0, 0, 0, 0, 0, 0, 0, 0, 0, 0, 0, 0, 0, 0, 0, 0, 0, 0, 0, 0, 0, 0, 0, 0, 0, 0] mm_r75_2 = true := by decide +kernel
theorem mm_k75_3 : mm_okc (mm_I 75) mm_r75 96 [0, 0, 0] mm_r75_3 = true := by decide +kernel
theorem mm_k76_0 : mm_okc (mm_I 76) mm_r76 0 [0, 0, 1202, 0, 0, 1205, 0, 0, 1209, 0] mm_r76_0 = true := by decide +kernel
theorem mm_k77_0 : mm_okc (mm_I 77) mm_r77 0 [0, 0, 0, 0, 0, 0, 0, 0, 0, 0] mm_r77_0 = true := by decide +kernel
theorem mm_k78_0 : mm_okc (mm_I 78) mm_r78 0 [0, 1209, 0, 1208, 0, 0, 0, 0, 1208, 0, 1209, 0, 0, 0, 0, 1209, 0, 0, 1209, 0] mm_r78_0 = true := by decide +kernel
theorem mm_k79_0 : mm_okc (mm_I 79) mm_r79 0 [0, 1205, 0, 0, 0, 0, 1206, 0, 1205, 0, 0, 0, 1207, 0, 1205, 0, 1209, 0, 0, 0, 1205, 0, 0, 1205, 0] mm_r79_0 = true := by decide +kernel
theorem mm_k80_0 : mm_okc (mm_I 80) mm_r80 0 [0, 1227, 0, 0, 1228, 0, 0, 0, 1232, 0] mm_r80_0 = true := by decide +kernel
theorem mm_k81_0 : mm_okc (mm_I 81) mm_r81 0 [0, 0, 1228, 0, 0, 1230, 0, 1232, 0, 4062, 0, 0] mm_r81_0 = true := by decide +kernel
theorem mm_k82_0 : mm_okc (mm_I 82) mm_r82 0 [0, 1228, 0, 0, 0, 0, 0, 0, 0, 0, 0, 0, 0, 0, 0, 0, 0, 0, 0, 0, 0, 0, 0, 0, 0, 0, 0] mm_r82_0 = true := by decide +kernel
theorem mm_k83_0 : mm_okc (mm_I 83) mm_r83 0 [0, 0, 0, 0, 0, 0, 1230, 0, 0, 0, 0, 0, 0, 0] mm_r83_0 = true := by decide +kernel
theorem mm_k84_0 : mm_okc (mm_I 84) mm_r84 0 [0, 1025, 0, 1028, 0, 0, 2002, 0, 1028, 0, 0, 2003, 0, 1130, 0, 1131, 2005, 0, 0, 1132, 2006, 0, 1134, 0, 0, 2008, 0, 1158, 0, 0, 2009, 0] mm_r84_0 = true := by decide +kernel
theorem mm_k84_1 : mm_okc (mm_I 84) mm_r84 32 [1171, 0, 0, 2010, 0, 0, 1195, 2011, 0, 0, 0, 0, 0, 0, 2006, 0, 1132, 0, 0, 0, 0, 0, 0, 0, 0, 0, 0, 0, 2011, 0, 1195, 0] mm_r84_1 = true := by decide +kernel
theorem mm_k84_2 : mm_okc (mm_I 84) mm_r84 64 [0, 0, 0, 0, 0] mm_r84_2 = true := by decide +kernel
theorem mm_k85_0 : mm_okc (mm_I 85) mm_r85 0 [0, 0, 0, 2037, 0, 0, 0, 0, 0, 0, 2037, 0, 0, 0, 0, 2002, 1114, 0, 0, 2040, 0] mm_r85_0 = true := by decide +kernel
theorem mm_k86_0 : mm_okc (mm_I 86) mm_r86 0 [0, 0, 0, 0, 0, 0, 0, 0, 0, 0] mm_r86_0 = true := by decide +kernel
theorem mm_k87_0 : mm_okc (mm_I 87) mm_r87 0 [0, 0, 2048, 0, 0, 0, 0, 2002, 1114, 0, 0, 0, 0, 1053, 0, 0, 0, 0, 1056, 0, 0, 0, 0, 1059, 0, 0, 0, 0, 1061, 0, 0, 0] mm_r87_0 = true := by decide +kernel
theorem mm_k87_1 : mm_okc (mm_I 87) mm_r87 32 [0, 2052, 0, 0, 0, 0, 0, 0, 0, 0, 0, 0, 0, 0, 0, 2055, 2059, 0] mm_r87_1 = true := by decide +kernel
theorem mm_k88_0 : mm_okc (mm_I 88) mm_r88 0 [0, 0, 0, 2002, 1114, 1047, 0, 0, 2037, 0] mm_r88_0 = true := by decide +kernel
theorem mm_k89_0 : mm_okc (mm_I 89) mm_r89 0 [0, 0, 0, 2037, 0] mm_r89_0 = true := by decide +kernel
theorem mm_k90_0 : mm_okc (mm_I 90) mm_r90 0 [0, 2085, 0, 0, 0, 0, 0, 0, 2002, 1114, 1051, 0, 0, 0, 0, 2002, 1114, 0, 2088, 0, 0, 0, 0, 2107, 0, 0, 0, 0, 2107, 0, 0, 0] mm_r90_0 = true := by decide +kernel
theorem mm_k91_0 : mm_okc (mm_I 91) mm_r91 0 [0, 0, 0, 2037, 0] mm_r91_0 = true := by decide +kernel
theorem mm_k92_0 : mm_okc (mm_I 92) mm_r92 0 [0, 2005, 0, 2002, 1114, 2111, 0, 0, 0, 0, 0, 2005, 0, 0, 2002, 1116, 2118, 0, 0, 0, 0, 0, 0, 0, 0, 2005, 1051, 0, 0, 0, 0, 2005] mm_r92_0 = true := by decide +kernel
theorem mm_k92_1 : mm_okc (mm_I 92) mm_r92 32 [0, 0, 2002, 1116, 2126, 0, 0, 0, 0, 0, 0, 0, 0, 0, 0, 0, 0, 0] mm_r92_1 = true := by decide +kernel
theorem mm_k93_0 : mm_okc (mm_I 93) mm_r93 0 [0, 0, 2048, 0, 0, 0, 0, 0, 0, 0, 2085, 0, 0, 0, 0, 2002, 1114, 1059, 0, 0, 0, 0, 2002, 1114, 1059, 0, 0, 0, 0, 0, 0, 0] mm_r93_0 = true := by decide +kernel
theorem mm_k93_1 : mm_okc (mm_I 93) mm_r93 32 [0, 0, 0] mm_r93_1 = true := by decide +kernel
theorem mm_k94_0 : mm_okc (mm_I 94) mm_r94 0 [0, 2085, 0, 0, 0, 0, 0, 0, 2037, 0, 0, 0, 0, 2002, 1114, 1051, 0, 0, 0, 0, 2002, 1114, 1051, 0, 0, 0, 0, 0] mm_r94_0 = true := by decide +kernel
theorem mm_k95_0 : mm_okc (mm_I 95) mm_r95 0 [0, 0, 0, 2037, 0, 0, 0, 0, 2002, 1114, 0, 2139, 0, 2002, 1114, 2143, 0] mm_r95_0 = true := by decide +kernel
theorem mm_k96_0 : mm_okc (mm_I 96) mm_r96 0 [0, 2002, 1114, 2143, 0, 0, 2002, 1114, 1059, 0, 2151, 0, 0] mm_r96_0 = true := by decide +kernel
theorem mm_k97_0 : mm_okc (mm_I 97) mm_r97 0 [0, 0, 2048, 0, 0, 0, 0, 2037, 0, 0, 0, 0, 0, 0, 2037, 0, 0, 0, 0, 2002, 1114, 1053, 0, 0, 0, 0, 0, 0, 0, 2002, 1114, 1063] mm_r97_0 = true := by decide +kernel
theorem mm_k97_1 : mm_okc (mm_I 97) mm_r97 32 [0, 0, 0, 0, 0, 0, 0, 0, 2002, 1114, 1063, 0, 0, 0, 0, 0, 0, 0, 0, 0] mm_r97_1 = true := by decide +kernel
theorem mm_k98_0 : mm_okc (mm_I 98) mm_r98 0 [0, 0, 0, 2037, 0, 0, 0, 0, 2008, 0, 2160, 0] mm_r98_0 = true := by decide +kernel
theorem mm_k99_0 : mm_okc (mm_I 99) mm_r99 0 [0, 2007, 0, 0, 0, 0, 0, 2006, 0, 2007, 0, 0, 0, 2008, 0, 2168, 0, 0, 0, 0, 0, 0, 0, 0, 2002, 1114, 0, 1049, 0, 0, 2007, 0] mm_r99_0 = true := by decide +kernel
theorem mm_k99_1 : mm_okc (mm_I 99) mm_r99 32 [0, 0, 2007, 0] mm_r99_1 = true := by decide +kernel
theorem mm_k100_0 : mm_okc (mm_I 100) mm_r100 0 [0, 0, 0, 2002, 1114, 1044, 0, 0, 2002, 1114, 3101, 0, 0, 2002, 1114, 0, 3102, 0, 0, 2002, 1114, 0, 3110, 0, 0, 2009, 0, 2002, 1114, 3114, 0, 0] mm_r100_0 = true := by decide +kernel
theorem mm_k100_1 : mm_okc (mm_I 100) mm_r100 32 [0, 0, 0, 0, 0, 0, 2048, 0, 0, 0, 0, 2009, 0, 2002, 1114, 0, 0, 0, 3139, 0] mm_r100_1 = true := by decide +kernel
theorem mm_k101_0 : mm_okc (mm_I 101) mm_r101 0 [0, 0, 0, 2037, 0, 0, 0, 0, 2002, 1114, 1044, 0, 0, 0, 0, 0, 0, 0, 0, 0, 0, 0, 0, 2002, 1114, 3151, 0, 0, 0, 2002, 1114, 1044] mm_r101_0 = true := by decide +kernel
theorem mm_k101_1 : mm_okc (mm_I 101) mm_r101 32 [0] mm_r101_1 = true := by decide +kernel
theorem mm_k102_0 : mm_okc (mm_I 102) mm_r102 0 [0, 0, 0, 0, 0, 0, 2052, 0, 0, 0, 0, 0, 0, 2037, 0, 0, 0, 0, 0, 0, 2002, 1114, 0, 3102, 0, 0, 0, 0, 0, 2002, 1114, 0] mm_r102_0 = true := by decide +kernel
theorem mm_k102_1 : mm_okc (mm_I 102) mm_r102 32 [3110, 0, 0, 2002, 1114, 0, 0, 0, 0, 3159, 0] mm_r102_1 = true := by decide +kernel
theorem mm_k103_0 : mm_okc (mm_I 103) mm_r103 0 [0, 2085, 0, 0, 0, 0, 0, 0, 2037, 0, 0, 0, 0, 2005, 0, 2002, 1114, 2111, 0, 0, 0, 0, 2002, 1114, 1047, 0, 0, 0, 0, 0, 0, 0] mm_r103_0 = true := by decide +kernel
theorem mm_k103_1 : mm_okc (mm_I 103) mm_r103 32 [0, 0, 0, 0, 3164, 0, 3164, 0, 0, 0, 0, 0, 0, 0, 0, 0, 2005, 0, 0, 3165, 0, 2005, 0, 0, 3159, 0, 0, 0, 0, 0, 0, 0] mm_r103_1 = true := by decide +kernel
theorem mm_k104_0 : mm_okc (mm_I 104) mm_r104 0 [0, 0, 0, 2037, 0, 0, 0, 0, 2005, 0, 2002, 1114, 2111, 0, 0, 0, 2005, 0, 3102, 0, 0, 0, 0, 0, 0, 0, 2005, 0, 2139, 0, 2005, 0] mm_r104_0 = true := by decide +kernel
theorem mm_k104_1 : mm_okc (mm_I 104) mm_r104 32 [3102, 0, 0, 0, 0, 0, 0, 0, 0, 0, 0, 0, 0] mm_r104_1 = true := by decide +kernel
theorem mm_k105_0 : mm_okc (mm_I 105) mm_r105 0 [0, 0, 0, 0, 2002, 1116, 3177, 0, 0, 2085, 0, 0, 0, 0, 0, 0, 2037, 0, 0, 0, 0, 2037, 0, 0, 0, 0, 2002, 1116, 0, 0, 0, 3181] mm_r105_0 = true := by decide +kernel
theorem mm_k105_1 : mm_okc (mm_I 105) mm_r105 32 [0] mm_r105_1 = true := by decide +kernel
theorem mm_k106_0 : mm_okc (mm_I 106) mm_r106 0 [0, 0, 2048, 0, 0, 0, 0, 2037, 0, 0, 0, 0, 2005, 0, 2002, 1114, 2111, 0, 0, 0, 0, 0, 0, 0, 0, 0, 2005, 1056, 0, 0, 0, 0] mm_r106_0 = true := by decide +kernel
theorem mm_k106_1 : mm_okc (mm_I 106) mm_r106 32 [2005, 0, 0, 2002, 1116, 2118, 0, 0, 0, 0, 0, 0, 0, 0, 0, 0, 0, 0, 0] mm_r106_1 = true := by decide +kernel
theorem mm_k107_0 : mm_okc (mm_I 107) mm_r107 0 [0, 0, 2048, 0, 0, 2085, 0, 3193, 0, 0, 0, 0, 2037, 0, 0, 0, 0, 2037, 0, 3193, 0, 0, 2005, 0, 2002, 1114, 2111, 0, 0, 0, 0, 0] mm_r107_0 = true := by decide +kernel
theorem mm_k107_1 : mm_okc (mm_I 107) mm_r107 32 [0, 0, 0, 2005, 1059, 0, 0, 0, 0, 2005, 0, 0, 3159, 0, 0, 0, 0, 0, 0, 3194, 0] mm_r107_1 = true := by decide +kernel
theorem mm_k108_0 : mm_okc (mm_I 108) mm_r108 0 [0, 0, 0, 0, 0, 0, 0, 0, 0, 0, 0, 0, 0, 0, 0, 0, 0, 0, 0, 0, 0, 0, 0, 0, 0, 0, 0, 0, 0] mm_r108_0 = true := by decide +kernel
theorem mm_k109_0 : mm_okc (mm_I 109) mm_r109 0 [0, 0, 0, 2037, 0, 0, 0, 0, 2037, 0, 3193, 0, 0, 2002, 1114, 0, 3102, 0, 3194, 0] mm_r109_0 = true := by decide +kernel
theorem mm_k110_0 : mm_okc (mm_I 110) mm_r110 0 [0, 0, 0, 0, 2002, 1118, 3177, 0, 0, 0, 0, 2002, 1118, 0, 0, 0, 3181, 0, 0, 0, 2048, 0, 0, 2002, 1118, 0, 0, 0, 3181, 0, 0, 0] mm_r110_0 = true := by decide +kernel
theorem mm_k110_1 : mm_okc (mm_I 110) mm_r110 32 [0, 0, 0, 2037, 0, 0, 2002, 1118, 0, 0, 0, 3181, 0, 0, 0, 0, 2085, 0, 0, 2002, 1118, 0, 0, 0, 3181, 0, 0, 0, 0, 0] mm_r110_1 = true := by decide +kernel
theorem mm_k111_0 : mm_okc (mm_I 111) mm_r111 0 [0, 0, 0, 2037, 0, 0, 0, 0, 2005, 0, 2002, 1114, 2111, 0, 0, 0, 0, 2002, 1118, 1103, 0, 0, 2005, 0, 2002, 1118, 1095, 0, 0, 0, 2002, 1118] mm_r111_0 = true := by decide +kernel
theorem mm_k111_1 : mm_okc (mm_I 111) mm_r111 32 [1098, 0, 0, 3209, 0, 0, 0, 0, 0, 2005, 0, 3102, 0, 0, 2005, 3215, 0] mm_r111_1 = true := by decide +kernel
theorem mm_k112_0 : mm_okc (mm_I 112) mm_r112 0 [0, 0, 0, 0, 2002, 1120, 3177, 0, 0, 2085, 0, 0, 0, 0, 0, 0, 2037, 0, 0, 0, 0, 2002, 1120, 0, 0, 0, 3181, 0] mm_r112_0 = true := by decide +kernel
theorem mm_k113_0 : mm_okc (mm_I 113) mm_r113 0 [0, 0, 0, 0, 2002, 1120, 1103, 0, 0, 2002, 1114, 1051, 0, 2002, 1120, 1095, 0, 0, 0, 0, 2002, 1120, 1098, 0, 0, 0, 0, 0, 0, 0, 0, 0] mm_r113_0 = true := by decide +kernel
theorem mm_k114_0 : mm_okc (mm_I 114) mm_r114 0 [0, 3231, 0, 0, 0, 0, 2011, 0, 0, 0, 0, 1229, 0, 0, 0, 1229, 0, 0, 0, 0, 0, 0, 0, 0, 0, 0, 0, 0, 1231, 0, 0, 0] mm_r114_0 = true := by decide +kernel
theorem mm_k114_1 : mm_okc (mm_I 114) mm_r114 32 [0, 0, 0, 0, 0, 1233, 0, 0, 0, 0, 0, 2002, 1114, 1051, 0, 0, 0, 0, 0, 0, 0, 0, 0, 0, 0] mm_r114_1 = true := by decide +kernel
theorem mm_k115_0 : mm_okc (mm_I 115) mm_r115 0 [0, 0, 0, 2037, 0] mm_r115_0 = true := by decide +kernel
theorem mm_k116_0 : mm_okc (mm_I 116) mm_r116 0 [0, 2003, 0, 2002, 3238, 0, 0, 2004, 0, 2002, 1114, 1047, 0] mm_r116_0 = true := by decide +kernel
theorem mm_k117_0 : mm_okc (mm_I 117) mm_r117 0 [0, 2004, 0, 0, 0, 0, 2002, 0, 2003, 3238, 0, 2002, 1114, 1047, 0] mm_r117_0 = true := by decide +kernel
theorem mm_k118_0 : mm_okc (mm_I 118) mm_r118 0 [0, 2010, 4016, 0, 0, 2048, 0, 0, 0, 0, 2037, 0, 0, 0, 0, 2010, 0, 2002, 1114, 0, 0, 0, 4020, 0] mm_r118_0 = true := by decide +kernel
theorem mm_k119_0 : mm_okc (mm_I 119) mm_r119 0 [0, 0, 0, 2010, 4040, 0, 0, 2037, 0, 0, 2010, 1178, 0, 0, 0, 0, 0] mm_r119_0 = true := by decide +kernel
theorem mm_k120_0 : mm_okc (mm_I 120) mm_r120 0 [0, 0, 0, 2037, 0, 0, 0, 0, 0, 2048, 0, 0, 0, 0, 2002, 1114, 1053, 0, 0, 0, 0, 0, 0, 0, 0, 0, 0, 0, 0, 0, 0, 0] mm_r120_0 = true := by decide +kernel
theorem mm_k120_1 : mm_okc (mm_I 120) mm_r120 32 [0, 0, 0, 4049, 0, 0, 0, 0, 0, 0] mm_r120_1 = true := by decide +kernel
theorem mm_k121_0 : mm_okc (mm_I 121) mm_r121 0 [0, 0, 0, 2002, 1114, 1047, 0, 0, 2007, 0, 0, 2002, 1116, 1103, 0, 0, 2002, 1118, 1103, 0, 0, 2002, 1120, 1103, 0, 0, 2008, 1142, 0, 0, 2010, 1180] mm_r121_0 = true := by decide +kernel
theorem mm_k121_1 : mm_okc (mm_I 121) mm_r121 32 [0, 0, 0] mm_r121_1 = true := by decide +kernel
theorem mm_k122_0 : mm_okc (mm_I 122) mm_r122 0 [0, 3231, 0, 0, 0, 0, 0, 0, 2037, 0, 0, 0, 0, 0, 0, 0, 2011, 0, 0, 0, 0, 4058, 0, 0, 0, 0, 0, 0, 0, 0, 0, 0] mm_r122_0 = true := by decide +kernel
theorem mm_k122_1 : mm_okc (mm_I 122) mm_r122 32 [0, 2011, 0, 0, 0, 0, 4058, 0] mm_r122_1 = true := by decide +kernel
theorem mm_k123_0 : mm_okc (mm_I 123) mm_r123 0 [0, 3231, 0, 0, 0, 0, 2011, 0, 0, 0, 0, 1229, 0, 0, 0, 0, 0, 0, 0, 1231, 0, 0, 2037, 0, 0, 0, 0, 1233, 0, 0, 0, 4069] mm_r123_0 = true := by decide +kernel
theorem mm_k123_1 : mm_okc (mm_I 123) mm_r123 32 [0, 0, 0] mm_r123_1 = true := by decide +kernel
theorem mm_k124_0 : mm_okc (mm_I 124) mm_r124 0 [0, 3231, 0, 3193, 0, 0, 0, 0, 2011, 0, 0, 1231, 0, 0, 2037, 0, 0, 2011, 0, 0, 1233, 0, 0, 0, 3193, 0] mm_r124_0 = true := by decide +kernel
theorem mm_k125_0 : mm_okc (mm_I 125) mm_r125 0 [0, 3231, 0, 0, 3231, 0, 0, 0, 0, 2011, 0, 0, 0, 0, 2011, 0, 0, 0, 0, 1229, 0, 0, 0, 1229, 0, 0, 0, 0, 0, 1229, 0, 1229] mm_r125_0 = true := by decide +kernel
theorem mm_k125_1 : mm_okc (mm_I 125) mm_r125 32 [0, 0, 0, 0, 0, 0, 4081, 0, 0, 0, 0, 4081, 0, 0, 0, 0, 1233, 0, 0, 1233, 0, 0, 4085, 0, 0] mm_r125_1 = true := by decide +kernel
theorem mm_k126_0 : mm_okc (mm_I 126) mm_r126 0 [0, 4091, 0, 0, 0, 4092, 0, 0, 0, 4094, 0, 0, 0, 4095, 0, 0, 0, 4096, 0, 0, 0, 4097, 0, 0, 0, 4098, 0, 0, 0, 4101, 0, 0] mm_r126_0 = true := by decide +kernel
theorem mm_k126_1 : mm_okc (mm_I 126) mm_r126 32 [0, 4108, 0, 0, 0, 4109, 0, 0, 0, 4110, 0, 0, 0, 4111, 0, 0, 0, 4112, 0, 0, 0, 4113, 0, 0, 0, 4115, 0, 0, 0, 4117, 0, 0] mm_r126_1 = true := by decide +kernel
theorem mm_k126_2 : mm_okc (mm_I 126) mm_r126 64 [0, 4118, 0, 0, 0, 4119, 0, 0, 0, 4121, 0, 0, 0, 4122, 0, 0, 0, 4124, 0, 0, 0, 4125, 0, 0, 0, 4127, 0, 0, 0, 4129, 0, 0] mm_r126_2 = true := by decide +kernel
theorem mm_k126_3 : mm_okc (mm_I 126) mm_r126 96 [0, 4130, 0, 0, 0, 4131, 0, 0, 0, 4132, 0, 0, 0, 4133, 0, 0, 0, 4134, 0, 0, 0, 4136, 0, 0, 0, 4137, 0, 0, 0, 4138, 0, 0] mm_r126_3 = true := by decide +kernel
theorem mm_k126_4 : mm_okc (mm_I 126) mm_r126 128 [0, 0, 0, 0, 4092, 0, 0, 0, 0, 0, 0, 0, 4107, 0, 0, 0, 0, 0, 0, 4136, 0, 0, 0, 0, 0, 0] mm_r126_4 = true := by decide +kernel
end
section
theorem mm_k127_0 : mm_okc (mm_I 127) mm_r127 0 [0, 0, 0, 4239, 0, 0, 0, 0, 0, 0, 4239, 0, 0, 0, 0, 4093, 0, 0, 0, 0, 0, 4094, 0, 4093, 0, 0, 0, 4095, 0, 4093, 0, 0] mm_r127_0 = true := by decide +kernel
theorem mm_k127_1 : mm_okc (mm_I 127) mm_r127 32 [0, 4096, 0, 4093, 0, 0, 0, 4097, 0, 4093, 0, 0, 0, 0, 0, 0, 0, 0, 4098, 0, 0, 4093, 0, 0, 0, 0, 0, 0, 0, 0, 0, 4093] mm_r127_1 = true := by decide +kernel
theorem mm_k127_2 : mm_okc (mm_I 127) mm_r127 64 [0, 0, 0, 4093, 0] mm_r127_2 = true := by decide +kernel
theorem mm_k128_0 : mm_okc (mm_I 128) mm_r128 0 [0, 0, 0, 0, 0, 0, 0, 0, 0, 0] mm_r128_0 = true := by decide +kernel
theorem mm_k129_0 : mm_okc (mm_I 129) mm_r129 0 [0, 0, 5006, 0, 0, 0, 0, 0, 0, 5010, 0, 0, 0, 0, 0, 0, 0, 0, 0, 0, 0, 5013, 5017, 0, 0, 0, 0, 4094, 0, 0, 0, 0] mm_r129_0 = true := by decide +kernel
theorem mm_k129_1 : mm_okc (mm_I 129) mm_r129 32 [4095, 0, 0, 0, 0, 4096, 0, 0, 0, 0, 4097, 0, 0, 0, 0, 0] mm_r129_1 = true := by decide +kernel
theorem mm_k130_0 : mm_okc (mm_I 130) mm_r130 0 [0, 0, 0, 4093, 0, 0, 4239, 0] mm_r130_0 = true := by decide +kernel
theorem mm_k131_0 : mm_okc (mm_I 131) mm_r131 0 [0, 0, 0, 4239, 0] mm_r131_0 = true := by decide +kernel
theorem mm_k132_0 : mm_okc (mm_I 132) mm_r132 0 [0, 0, 0, 0, 4093, 0, 0, 0, 0, 0, 4096, 0, 0, 0, 0, 0, 0, 0, 0, 0, 0] mm_r132_0 = true := by decide +kernel
theorem mm_k133_0 : mm_okc (mm_I 133) mm_r133 0 [0, 0, 0, 5021, 0, 0, 4099, 0, 0, 0, 0, 0, 0, 0, 0, 0, 4094, 0, 0, 0, 0, 0, 4095, 0, 0, 0, 0, 0, 0, 0, 0, 0] mm_r133_0 = true := by decide +kernel
theorem mm_k133_1 : mm_okc (mm_I 133) mm_r133 32 [0, 0, 0, 0, 0, 0, 4095, 0, 0, 0, 0, 0, 0, 0, 4095, 0, 0, 0, 0, 0, 0, 0, 0, 0, 4097, 0, 0, 0, 0, 5033, 0, 0] mm_r133_1 = true := by decide +kernel
theorem mm_k133_2 : mm_okc (mm_I 133) mm_r133 64 [0, 0, 4098, 0, 0, 0, 0, 0, 0, 0, 0, 0, 0, 0, 0] mm_r133_2 = true := by decide +kernel
theorem mm_k134_0 : mm_okc (mm_I 134) mm_r134 0 [0, 0, 0, 0, 0, 4107, 0, 0, 0, 0, 4108, 0, 4107, 0, 0, 0, 0, 4107, 0, 0, 0, 0, 0, 4109, 0, 0, 0, 0, 0, 0, 0, 0] mm_r134_0 = true := by decide +kernel
theorem mm_k134_1 : mm_okc (mm_I 134) mm_r134 32 [5025, 0, 0, 0, 4109, 0, 0, 0, 0, 4110, 0, 0, 0, 0, 4110, 0, 0, 0, 0, 0, 0, 0, 0, 0] mm_r134_1 = true := by decide +kernel
theorem mm_k135_0 : mm_okc (mm_I 135) mm_r135 0 [0, 0, 0, 4111, 0, 0, 0, 0, 0, 4111, 0, 0, 0, 4112, 0, 0, 0, 0, 0, 4113, 0, 0, 0, 0, 0, 0, 0, 0, 0, 0, 0, 0] mm_r135_0 = true := by decide +kernel
theorem mm_k135_1 : mm_okc (mm_I 135) mm_r135 32 [0, 0, 5029, 0, 0, 0, 0, 0, 0, 0, 0, 0, 0, 0, 0, 0, 0, 0, 0, 4115, 0, 0, 0, 0, 0, 0, 0, 0, 0, 0, 0, 0] mm_r135_1 = true := by decide +kernel
theorem mm_k135_2 : mm_okc (mm_I 135) mm_r135 64 [0, 0, 0, 0, 0, 0, 0, 0, 0, 0, 0, 0, 0, 0, 0, 0, 0, 0, 0, 0, 4115, 0, 0, 0, 0, 4115, 0, 0, 0, 0, 0, 0] mm_r135_2 = true := by decide +kernel
theorem mm_k135_3 : mm_okc (mm_I 135) mm_r135 96 [0, 0, 0, 0, 0, 0, 4115, 0, 0, 0, 0, 0, 0, 0, 4115, 0, 0, 0, 0, 0, 0, 4115, 0, 0, 0, 0, 0, 0, 0, 0, 4115, 0] mm_r135_3 = true := by decide +kernel
theorem mm_k135_4 : mm_okc (mm_I 135) mm_r135 128 [0, 0, 0, 0, 0, 4115, 0, 0, 0, 0, 0, 0, 0, 0, 0, 0, 4115, 0, 0, 0] mm_r135_4 = true := by decide +kernel
theorem mm_k136_0 : mm_okc (mm_I 136) mm_r136 0 [0, 0, 0, 0, 0, 4094, 0, 0, 0, 0, 4095, 0, 0, 0, 0, 0, 0, 4092, 0, 0, 0, 0, 0, 0, 4099, 0, 0, 0] mm_r136_0 = true := by decide +kernel
theorem mm_k137_0 : mm_okc (mm_I 137) mm_r137 0 [0, 5010, 0, 0, 0, 0, 0, 0, 4092, 0, 0, 0, 0, 0, 5038, 0, 0, 0, 0, 5059, 0, 0, 0, 0, 5059, 0, 0, 0] mm_r137_0 = true := by decide +kernel
theorem mm_k138_0 : mm_okc (mm_I 138) mm_r138 0 [0, 0, 4130, 5042, 0, 0, 0, 0, 0, 0, 0, 0, 0, 0, 0, 0, 0, 5046, 0, 4092, 0, 0, 0, 0, 0, 0, 0, 0, 0, 4130, 5055, 0] mm_r138_0 = true := by decide +kernel
theorem mm_k138_1 : mm_okc (mm_I 138) mm_r138 32 [0] mm_r138_1 = true := by decide +kernel
theorem mm_k139_0 : mm_okc (mm_I 139) mm_r139 0 [0, 0, 0, 0, 0, 0, 0, 0, 4092, 0, 0, 0, 0, 0, 0, 0, 0, 0, 0, 0, 0, 0, 0, 0, 4094, 0, 0, 0, 0, 0, 0, 0] mm_r139_0 = true := by decide +kernel
theorem mm_k139_1 : mm_okc (mm_I 139) mm_r139 32 [0, 4095, 0, 0, 0, 0, 0, 0, 0, 0, 4096, 0, 0, 0, 0, 0, 0, 0, 0, 4097, 0, 0, 0, 0, 0, 0, 0, 0, 0, 0, 0, 0] mm_r139_1 = true := by decide +kernel
theorem mm_k139_2 : mm_okc (mm_I 139) mm_r139 64 [0, 0, 0, 4098, 0, 0, 0, 0, 0, 0, 0, 0, 0, 0, 0, 0, 0, 0, 0, 4117, 0, 0, 0, 0, 0, 0, 0, 0, 4118, 0, 0, 0] mm_r139_2 = true := by decide +kernel
theorem mm_k139_3 : mm_okc (mm_I 139) mm_r139 96 [0, 0, 0, 0, 0, 4119, 0, 0, 0, 0, 0, 0, 0, 0, 0, 0, 0, 0, 0, 0, 0, 4121, 0, 0, 0, 0, 0, 0, 0, 0, 4122, 0] mm_r139_3 = true := by decide +kernel
theorem mm_k139_4 : mm_okc (mm_I 139) mm_r139 128 [0, 0, 0, 0, 0, 0, 0, 0, 0, 0, 0, 0, 0, 0, 4124, 0, 0, 0, 0, 0, 0, 0, 0, 4125, 0, 0, 0, 0, 0, 0, 0, 0] mm_r139_4 = true := by decide +kernel
theorem mm_k139_5 : mm_okc (mm_I 139) mm_r139 160 [4093, 0, 0, 0, 0, 4099, 0, 0, 0, 0, 4116, 0, 0, 0, 0, 4120, 0, 0, 0, 0, 4123, 0, 0, 0, 0, 4107, 0, 0] mm_r139_5 = true := by decide +kernel
theorem mm_k140_0 : mm_okc (mm_I 140) mm_r140 0 [0, 5050, 0, 0, 0, 0, 0, 0, 0, 4131, 0, 0, 0, 0, 0, 0, 0, 0, 0, 4093, 0, 0, 4096, 0, 0, 0, 0, 0, 4131, 0, 4096, 0] mm_r140_0 = true := by decide +kernel
theorem mm_k140_1 : mm_okc (mm_I 140) mm_r140 32 [0, 0, 0, 0, 0, 0, 0, 4096, 0, 0, 0, 0, 0, 4096, 0, 0, 5013, 5017, 5054, 0, 0, 0, 0, 0, 0, 0, 0, 0, 0, 4092, 0, 0] mm_r140_1 = true := by decide +kernel
theorem mm_k140_2 : mm_okc (mm_I 140) mm_r140 64 [0, 0, 4092, 0, 0, 0, 0, 0, 4131, 0, 0, 0, 5033, 5054, 0, 0, 0, 0, 0, 0, 0, 4093, 0, 0, 4096, 0, 0, 0, 0, 0, 4097, 0] mm_r140_2 = true := by decide +kernel
theorem mm_k140_3 : mm_okc (mm_I 140) mm_r140 96 [0, 0, 0, 0, 0, 0, 0, 0, 0, 4099, 0, 0, 4099, 0] mm_r140_3 = true := by decide +kernel
theorem mm_k141_0 : mm_okc (mm_I 141) mm_r141 0 [0, 0, 0, 0, 0, 4107, 0, 0, 0, 0, 4108, 0, 4107, 0, 0, 0, 4109, 0, 0, 4107, 0, 0, 0, 0, 0, 0, 0, 4110, 0, 0, 4107, 0] mm_r141_0 = true := by decide +kernel
theorem mm_k141_1 : mm_okc (mm_I 141) mm_r141 32 [0, 0, 0, 0, 0, 0, 0, 0] mm_r141_1 = true := by decide +kernel
theorem mm_k142_0 : mm_okc (mm_I 142) mm_r142 0 [0, 0, 0, 0, 0, 0, 4092, 0, 0, 0, 0, 0, 0, 0, 0, 0, 0, 0, 0, 0, 4094, 0, 0, 0, 0, 0, 0, 0, 0, 4095, 0, 0] mm_r142_0 = true := by decide +kernel
theorem mm_k142_1 : mm_okc (mm_I 142) mm_r142 32 [0, 0, 0, 0, 0, 0, 4096, 0, 0, 0, 0, 0, 0, 0, 0, 4097, 0, 0, 0, 0, 0, 0, 0, 0, 0, 0, 0, 0, 0, 0, 0, 4098] mm_r142_1 = true := by decide +kernel
theorem mm_k142_2 : mm_okc (mm_I 142) mm_r142 64 [0, 0, 0, 0, 0, 0, 0, 0, 0, 0, 0, 0, 0, 0, 0, 4117, 0, 0, 0, 0, 0, 0, 0, 0, 4118, 0, 0, 0, 0, 0, 0, 0] mm_r142_2 = true := by decide +kernel
theorem mm_k142_3 : mm_okc (mm_I 142) mm_r142 96 [0, 4119, 0, 0, 0, 0, 0, 0, 0, 0, 0, 0, 0, 0, 0, 0, 0, 4121, 0, 0, 0, 0, 0, 0, 0, 0, 4122, 0, 0, 0, 0, 0] mm_r142_3 = true := by decide +kernel
theorem mm_k142_4 : mm_okc (mm_I 142) mm_r142 128 [0, 0, 0, 0, 0, 0, 0, 0, 0, 0, 4124, 0, 0, 0, 0, 0, 0, 0, 0, 4125, 0, 0, 0, 0, 0, 0, 0, 0, 0, 0, 0, 0] mm_r142_4 = true := by decide +kernel
theorem mm_k142_5 : mm_okc (mm_I 142) mm_r142 160 [0, 4093, 0, 0, 0, 0, 4099, 0, 0, 0, 0, 4116, 0, 0, 0, 0, 4120, 0, 0, 0, 0, 4123, 0, 0, 0, 0, 4107, 0] mm_r142_5 = true := by decide +kernel
theorem mm_k143_0 : mm_okc (mm_I 143) mm_r143 0 [0, 4092, 0, 0, 0, 0, 0, 0, 0, 0, 0, 0, 0, 0, 4092, 0, 0, 0, 0, 5063, 0, 0, 0, 0, 0, 0, 0, 0, 4092, 0, 0, 0] mm_r143_0 = true := by decide +kernel
theorem mm_k143_1 : mm_okc (mm_I 143) mm_r143 32 [0, 0, 0, 0, 0, 0] mm_r143_1 = true := by decide +kernel
theorem mm_k144_0 : mm_okc (mm_I 144) mm_r144 0 [0, 0, 0, 0, 0, 0, 4116, 0, 0, 0, 0, 0, 4130, 5042, 0, 0, 0, 0, 4118, 0, 0, 0, 0, 5046, 0, 0, 0, 4092, 0, 4117, 0, 0] mm_r144_0 = true := by decide +kernel
theorem mm_k144_1 : mm_okc (mm_I 144) mm_r144 32 [0, 0, 4119, 0, 0, 0, 0, 0, 0, 0, 0, 0, 4130, 5055, 0, 0, 0, 0] mm_r144_1 = true := by decide +kernel
theorem mm_k145_0 : mm_okc (mm_I 145) mm_r145 0 [0, 0, 5006, 0, 0, 0, 0, 0, 5010, 0, 0, 0, 0, 4096, 0, 0, 0, 0, 4096, 0, 0, 0, 0, 0, 0, 0, 0, 0, 0] mm_r145_0 = true := by decide +kernel
theorem mm_k146_0 : mm_okc (mm_I 146) mm_r146 0 [0, 5010, 0, 0, 0, 0, 5075, 0, 0, 0, 0, 4092, 0, 0, 0, 0, 4092, 0, 0, 0, 0, 0] mm_r146_0 = true := by decide +kernel
theorem mm_k147_0 : mm_okc (mm_I 147) mm_r147 0 [0, 0, 0, 4239, 0] mm_r147_0 = true := by decide +kernel
theorem mm_k148_0 : mm_okc (mm_I 148) mm_r148 0 [0, 0, 0, 4239, 0, 0, 0, 0, 0, 5082, 0, 5086, 0] mm_r148_0 = true := by decide +kernel
theorem mm_k149_0 : mm_okc (mm_I 149) mm_r149 0 [0, 0, 0, 0, 4093, 0, 0, 4096, 0, 0, 0, 0, 0, 4096, 0, 0, 4096, 0, 0, 0, 0, 0, 0, 0, 0, 0, 0] mm_r149_0 = true := by decide +kernel
theorem mm_k150_0 : mm_okc (mm_I 150) mm_r150 0 [0, 0, 0, 0, 0, 0, 4093, 0, 0, 4096, 0, 0, 0, 0, 0, 0, 0, 0, 0] mm_r150_0 = true := by decide +kernel
theorem mm_k151_0 : mm_okc (mm_I 151) mm_r151 0 [0, 5086, 0, 0, 0, 0, 0, 4093, 0, 0, 4096, 0, 0, 0, 0, 0, 0, 0] mm_r151_0 = true := by decide +kernel
theorem mm_k152_0 : mm_okc (mm_I 152) mm_r152 0 [0, 0, 5006, 0, 0, 0, 0, 4239, 0, 0, 0, 0, 0, 0, 4239, 0, 0, 0, 0, 4094, 0, 0, 0, 0, 0, 0, 0, 4098, 0, 0, 0, 0] mm_r152_0 = true := by decide +kernel
theorem mm_k152_1 : mm_okc (mm_I 152) mm_r152 32 [0, 0, 0, 0, 4098, 0, 0, 0, 0, 0, 0, 0, 0, 0] mm_r152_1 = true := by decide +kernel
theorem mm_k153_0 : mm_okc (mm_I 153) mm_r153 0 [0, 0, 0, 4239, 0, 0, 0, 0, 4100, 0, 0, 0, 0, 0, 4101, 0, 0, 4100, 0, 0, 0, 4100, 0, 0, 0, 4100, 0] mm_r153_0 = true := by decide +kernel
theorem mm_k154_0 : mm_okc (mm_I 154) mm_r154 0 [0, 4106, 0, 0, 0, 0, 0, 4114, 0, 0, 0, 4102, 0, 0, 0, 0, 0, 0, 0, 0, 0, 0, 0, 0, 0, 0, 0, 0, 4106, 0, 0, 0] mm_r154_0 = true := by decide +kernel
theorem mm_k154_1 : mm_okc (mm_I 154) mm_r154 32 [5106, 0, 0, 0, 0, 0, 0, 0, 0, 0, 0, 4102, 0, 4100, 0, 0, 0, 0, 0, 0, 0, 0, 0, 0, 0, 0, 5117, 0, 0, 0, 0, 0] mm_r154_1 = true := by decide +kernel
theorem mm_k154_2 : mm_okc (mm_I 154) mm_r154 64 [0, 0, 0, 4100, 0, 0, 0, 0, 4114, 0, 0, 4102, 0, 0, 0, 4108, 0, 4106, 0, 0, 0, 0, 4106, 4107, 0, 0, 4106, 0, 0, 0, 4106, 0] mm_r154_2 = true := by decide +kernel
theorem mm_k155_0 : mm_okc (mm_I 155) mm_r155 0 [0, 0, 0, 4102, 0, 4100, 0, 0, 4101, 0, 4102, 0, 0, 0, 0, 0, 0, 4101, 0, 4102, 0, 0, 0, 0, 0, 0, 4101, 0, 4102, 0, 0, 0] mm_r155_0 = true := by decide +kernel
theorem mm_k155_1 : mm_okc (mm_I 155) mm_r155 32 [0, 0, 0, 0, 0, 0, 0, 0, 5111, 0, 0, 0, 0, 0, 0, 5111, 0, 0, 0, 0, 0, 0, 5111, 0, 0, 0, 0, 0, 0, 0, 0, 5123] mm_r155_1 = true := by decide +kernel
theorem mm_k155_2 : mm_okc (mm_I 155) mm_r155 64 [0, 0, 0, 0, 4109, 0, 0, 0, 0, 4110, 0, 0, 4103, 0, 0, 4111, 0, 0, 4114, 0, 0, 0, 4105, 0, 0, 0, 0, 0, 5117, 0, 0, 5131] mm_r155_2 = true := by decide +kernel
theorem mm_k155_3 : mm_okc (mm_I 155) mm_r155 96 [0, 0, 0, 0, 4112, 0, 0, 4114, 0, 4111, 0, 0, 0, 0, 0, 0] mm_r155_3 = true := by decide +kernel
theorem mm_k156_0 : mm_okc (mm_I 156) mm_r156 0 [0, 0, 0, 0, 5115, 0, 0, 0, 0, 5116, 5117, 0, 0, 0, 0, 0, 0, 0] mm_r156_0 = true := by decide +kernel
theorem mm_k157_0 : mm_okc (mm_I 157) mm_r157 0 [0, 4102, 0, 4100, 0, 0, 4101, 0, 4102, 0, 0, 0, 0, 0, 0, 0, 4102, 0, 0, 4102, 0, 0] mm_r157_0 = true := by decide +kernel
theorem mm_k158_0 : mm_okc (mm_I 158) mm_r158 0 [0, 0, 4103, 0, 0, 4104, 0, 4104, 0, 0, 0, 5127, 0, 0, 0, 0, 4103, 0, 0, 4101, 0, 4102, 0, 0, 0, 0, 4103, 0, 0, 4102, 0, 0] mm_r158_0 = true := by decide +kernel
theorem mm_k158_1 : mm_okc (mm_I 158) mm_r158 32 [4102, 0, 0, 4104, 0, 0, 4104, 0, 0, 4104, 0, 0, 0, 0, 0] mm_r158_1 = true := by decide +kernel
theorem mm_k159_0 : mm_okc (mm_I 159) mm_r159 0 [0, 4102, 0, 4100, 0, 0, 4101, 0, 4102, 0, 0, 0, 0, 4101, 0, 4102, 0, 0, 0, 0, 0, 0, 0] mm_r159_0 = true := by decide +kernel
theorem mm_k160_0 : mm_okc (mm_I 160) mm_r160 0 [0, 5135, 0, 0, 0, 0, 0, 5117, 0, 0, 5135, 0, 0, 0, 5147, 0, 0, 0, 0, 0] mm_r160_0 = true := by decide +kernel
theorem mm_k161_0 : mm_okc (mm_I 161) mm_r161 0 [0, 5139, 0, 0, 0, 0, 0, 5117, 0, 0, 5139, 0, 0, 0, 5147, 0, 0, 0, 0, 0] mm_r161_0 = true := by decide +kernel
theorem mm_k162_0 : mm_okc (mm_I 162) mm_r162 0 [0, 0, 5143, 0, 0, 5139, 0, 0, 0, 5147, 0, 0, 0, 0, 0, 0, 0, 0, 5143, 0, 0, 5131, 0, 0, 0, 5117, 0, 0, 0, 0, 0, 0] mm_r162_0 = true := by decide +kernel
theorem mm_k162_1 : mm_okc (mm_I 162) mm_r162 32 [0, 5151, 0, 0, 0, 4105, 0, 0, 4105, 0, 0] mm_r162_1 = true := by decide +kernel
theorem mm_k163_0 : mm_okc (mm_I 163) mm_r163 0 [0, 4105, 0, 0, 0, 0, 5117, 0, 0, 0, 0, 0, 4105, 0, 0, 4105, 0, 0] mm_r163_0 = true := by decide +kernel
theorem mm_k164_0 : mm_okc (mm_I 164) mm_r164 0 [0, 4113, 0, 0, 4114, 0, 0, 0, 4114, 0, 0, 0, 0] mm_r164_0 = true := by decide +kernel
theorem mm_k165_0 : mm_okc (mm_I 165) mm_r165 0 [0, 4102, 0, 4100, 0, 0, 4101, 0, 4102, 0, 0, 0, 0, 4101, 0, 4102, 0, 5156, 0, 0, 0, 0, 0, 0, 0, 0, 0, 4102, 0, 0, 4102, 0] mm_r165_0 = true := by decide +kernel
theorem mm_k165_1 : mm_okc (mm_I 165) mm_r165 32 [4102, 0, 4100, 0, 0, 4101, 0, 4102, 0, 0, 0, 0, 4101, 0, 4102, 0, 5156, 0, 0, 0, 0, 0, 0, 0, 0, 0, 4102, 0, 0, 4102, 0, 5123] mm_r165_1 = true := by decide +kernel
theorem mm_k165_2 : mm_okc (mm_I 165) mm_r165 64 [0, 0, 0, 0, 0, 0, 0, 0, 0, 0, 0, 0, 4103, 0, 5147, 0, 0, 0, 0, 0] mm_r165_2 = true := by decide +kernel
theorem mm_k166_0 : mm_okc (mm_I 166) mm_r166 0 [0, 0, 0, 0, 5006, 0, 0, 5162, 0, 4134, 0, 0, 0, 0, 0, 0, 0, 0, 4099, 0, 0, 5050, 0, 0, 5170, 0, 0, 5174, 0, 0, 5162, 0] mm_r166_0 = true := by decide +kernel
theorem mm_k166_1 : mm_okc (mm_I 166) mm_r166 32 [4135, 0, 0, 0] mm_r166_1 = true := by decide +kernel
theorem mm_k167_0 : mm_okc (mm_I 167) mm_r167 0 [0, 0, 0, 0, 4093, 0, 0, 0, 0, 0, 0, 0, 4132, 0, 0, 0, 0, 0, 0, 0, 0, 0, 0, 0, 5017, 5033, 5054, 0, 0, 0, 0, 0] mm_r167_0 = true := by decide +kernel
theorem mm_k167_1 : mm_okc (mm_I 167) mm_r167 32 [0, 0, 4135, 0, 0, 0, 0, 5166, 0] mm_r167_1 = true := by decide +kernel
theorem mm_k168_0 : mm_okc (mm_I 168) mm_r168 0 [0, 0, 4093, 0, 0, 0, 4135, 0, 0, 0, 0, 4135, 0, 0, 0, 0, 0, 0, 4134, 0, 0, 4133, 0, 0, 0, 0, 0, 0, 0, 0, 0, 0] mm_r168_0 = true := by decide +kernel
theorem mm_k168_1 : mm_okc (mm_I 168) mm_r168 32 [0, 0, 0, 0, 0, 0, 0, 0, 0, 0, 4133, 0, 0, 0, 0, 0, 0, 0, 0, 0, 0, 0, 0, 0, 0, 4132, 0, 0, 0, 0, 0, 0] mm_r168_1 = true := by decide +kernel
theorem mm_k168_2 : mm_okc (mm_I 168) mm_r168 64 [0, 5166, 0, 0, 0] mm_r168_2 = true := by decide +kernel
theorem mm_k169_0 : mm_okc (mm_I 169) mm_r169 0 [0, 0, 0, 0, 0, 0, 0, 0, 0, 4092, 0, 0, 0, 0, 0, 0, 0, 0] mm_r169_0 = true := by decide +kernel
theorem mm_k170_0 : mm_okc (mm_I 170) mm_r170 0 [0, 0, 0, 0, 0, 0, 0, 0, 4092, 0, 0, 0, 0, 0, 0, 0, 0] mm_r170_0 = true := by decide +kernel
theorem mm_k171_0 : mm_okc (mm_I 171) mm_r171 0 [0, 0, 0, 4239, 0, 0, 0, 0, 4099, 0, 0, 0, 0, 0, 0, 0, 0, 0, 0, 0, 0, 5046, 0, 0, 0, 0, 4093, 0, 0, 4097, 0, 0] mm_r171_0 = true := by decide +kernel
theorem mm_k171_1 : mm_okc (mm_I 171) mm_r171 32 [0, 4097, 0, 0, 5033, 0, 0, 0, 0, 0, 0, 4099, 0] mm_r171_1 = true := by decide +kernel
theorem mm_k172_0 : mm_okc (mm_I 172) mm_r172 0 [0, 0, 0, 4239, 0, 0, 0, 0, 5010, 0, 0, 0, 0, 0, 0, 4239, 0, 0, 0, 0, 0, 4130, 5042, 0, 0, 0, 0, 0, 0, 5046, 0, 0] mm_r172_0 = true := by decide +kernel
theorem mm_k172_1 : mm_okc (mm_I 172) mm_r172 32 [0, 0, 0, 5170, 0, 0, 0, 0, 0, 5174, 0, 0, 4092, 0, 0, 0, 0, 0, 0, 0, 4130, 5055, 0, 0] mm_r172_1 = true := by decide +kernel
theorem mm_k173_0 : mm_okc (mm_I 173) mm_r173 0 [0, 5010, 0, 0, 0, 0, 0, 0, 4239, 0, 0, 0, 0, 0, 0, 0, 0, 0, 0, 4093, 0, 0, 0, 0, 0, 0, 5190, 0, 5190, 0, 0, 0] mm_r173_0 = true := by decide +kernel
theorem mm_k173_1 : mm_okc (mm_I 173) mm_r173 32 [0, 4130, 5042, 0, 0, 0, 0, 4093, 0, 0, 4096, 0, 0, 0, 0, 0, 0, 0, 0, 0, 0, 0, 0, 0, 0, 0, 0, 0, 0, 0, 0, 5046] mm_r173_1 = true := by decide +kernel
theorem mm_k173_2 : mm_okc (mm_I 173) mm_r173 64 [0, 0, 0, 4092, 0, 0, 0, 0, 0, 0, 0, 4130, 5055, 0, 0, 0, 0] mm_r173_2 = true := by decide +kernel
theorem mm_k174_0 : mm_okc (mm_I 174) mm_r174 0 [0, 0, 0, 4239, 0, 0, 0, 0, 0, 5195, 0, 0, 0, 0, 0, 0, 0, 0, 4130, 5042, 0, 0, 5082, 0, 0, 0, 0, 0, 0, 5046, 0, 0] mm_r174_0 = true := by decide +kernel
theorem mm_k174_1 : mm_okc (mm_I 174) mm_r174 32 [0, 5170, 0, 0, 0, 4130, 5055, 0, 0, 0, 0, 0, 0, 0, 0, 0, 0, 0, 0] mm_r174_1 = true := by decide +kernel
theorem mm_k175_0 : mm_okc (mm_I 175) mm_r175 0 [0, 0, 0, 0, 0, 4116, 0, 0, 0, 5010, 0, 0, 0, 0, 0, 0, 4239, 0, 0, 5075, 0, 0, 0, 0, 4116, 0, 0, 0, 0, 0, 4117, 0] mm_r175_0 = true := by decide +kernel
theorem mm_k175_1 : mm_okc (mm_I 175) mm_r175 32 [4116, 0, 0, 0, 4118, 0, 4116, 0, 0, 0, 4119, 0, 0, 4116, 0, 0, 0, 4116, 0, 0, 0, 4116, 0] mm_r175_1 = true := by decide +kernel
theorem mm_k176_0 : mm_okc (mm_I 176) mm_r176 0 [0, 0, 5006, 0, 0, 0, 0, 4239, 0, 0, 0, 0, 4095, 0, 0, 0, 0, 0, 0, 0, 0, 0, 0, 0, 0, 4095, 0, 0, 0, 0, 5063, 0] mm_r176_0 = true := by decide +kernel
theorem mm_k176_1 : mm_okc (mm_I 176) mm_r176 32 [0, 0, 0, 0, 0, 0, 0, 4095, 0, 0, 0, 0, 0, 0, 0, 0, 0] mm_r176_1 = true := by decide +kernel
theorem mm_k177_0 : mm_okc (mm_I 177) mm_r177 0 [0, 0, 5006, 0, 0, 5010, 0, 0, 0, 0, 4239, 0, 0, 0, 0, 4239, 0, 5208, 0, 0, 0, 0, 0, 0, 0, 0, 0, 0, 4130, 5042, 0, 4096] mm_r177_0 = true := by decide +kernel
theorem mm_k177_1 : mm_okc (mm_I 177) mm_r177 32 [0, 0, 0, 0, 0, 0, 0, 0, 0, 5046, 0, 0, 0, 4092, 0, 0, 0, 0, 0, 0, 4130, 5055, 0, 0, 0, 0, 5209, 0, 5210, 0] mm_r177_1 = true := by decide +kernel
theorem mm_k178_0 : mm_okc (mm_I 178) mm_r178 0 [0, 5213, 0, 0, 0, 0, 0, 0, 0, 0, 0, 0, 0, 0, 0, 0, 0, 0, 0, 0, 0, 0, 0, 0, 0, 0] mm_r178_0 = true := by decide +kernel
theorem mm_k179_0 : mm_okc (mm_I 179) mm_r179 0 [0, 0, 0, 4239, 0, 0, 0, 0, 4239, 0, 0, 0, 0, 5220, 0, 5209, 0, 5210, 0, 5208, 0] mm_r179_0 = true := by decide +kernel
theorem mm_k180_0 : mm_okc (mm_I 180) mm_r180 0 [0, 0, 0, 0, 0, 4120, 0, 0, 0, 0, 0, 4239, 0, 0, 0, 0, 0, 0, 5006, 0, 0, 0, 0, 0, 5010, 0, 0, 0, 0, 0, 0, 0] mm_r180_0 = true := by decide +kernel
theorem mm_k180_1 : mm_okc (mm_I 180) mm_r180 32 [0, 0, 4239, 0, 0, 0, 0, 4120, 0, 0, 0, 0, 0, 4121, 0, 4120, 0, 0, 0, 4122, 0, 0, 4120, 0, 0, 0, 4120, 0, 0, 0, 0, 0] mm_r180_1 = true := by decide +kernel
theorem mm_k180_2 : mm_okc (mm_I 180) mm_r180 64 [0, 0, 4120, 0] mm_r180_2 = true := by decide +kernel
theorem mm_k181_0 : mm_okc (mm_I 181) mm_r181 0 [0, 0, 0, 4239, 0, 0, 0, 0, 0, 4130, 5042, 0, 0, 0, 0, 4120, 0, 0, 4122, 0, 0, 0, 0, 4121, 0, 0, 0, 0, 5046, 0, 0, 4121] mm_r181_0 = true := by decide +kernel
theorem mm_k181_1 : mm_okc (mm_I 181) mm_r181 32 [0, 0, 0, 0, 0, 4096, 0, 0, 0, 0, 0, 4121, 0, 0, 0, 0, 0, 0, 5082, 0, 0, 4092, 0, 0, 0, 0, 0, 0, 0, 0, 5170, 0] mm_r181_1 = true := by decide +kernel
theorem mm_k181_2 : mm_okc (mm_I 181) mm_r181 64 [0, 5229, 0, 0, 0, 4130, 5055, 0, 0] mm_r181_2 = true := by decide +kernel
theorem mm_k182_0 : mm_okc (mm_I 182) mm_r182 0 [0, 0, 0, 0, 0, 0, 4093, 0, 0, 0, 4097, 0, 0, 0, 0, 0, 0, 0, 0] mm_r182_0 = true := by decide +kernel
theorem mm_k183_0 : mm_okc (mm_I 183) mm_r183 0 [0, 0, 0, 0, 0, 4123, 0, 0, 0, 5010, 0, 0, 0, 0, 5075, 0, 0, 0, 0, 4123, 0, 0, 0, 0, 0, 4124, 0, 4123, 0, 0, 0, 4125] mm_r183_0 = true := by decide +kernel
theorem mm_k183_1 : mm_okc (mm_I 183) mm_r183 32 [0, 0, 4123, 0, 0, 0, 4123, 0, 0, 0, 4123, 0] mm_r183_1 = true := by decide +kernel
theorem mm_k184_0 : mm_okc (mm_I 184) mm_r184 0 [0, 0, 0, 0, 4123, 0, 0, 4092, 0, 4124, 0, 0, 0, 0, 4125, 0, 0, 0, 0, 0, 0, 0, 0, 0] mm_r184_0 = true := by decide +kernel
theorem mm_k185_0 : mm_okc (mm_I 185) mm_r185 0 [0, 0, 0, 4239, 0, 0, 0, 0, 4136, 0, 0, 0, 0, 0, 4136, 0, 0, 0, 0, 0, 0, 0, 0, 0, 0, 0, 4136, 0, 0, 0, 0, 0] mm_r185_0 = true := by decide +kernel
theorem mm_k185_1 : mm_okc (mm_I 185) mm_r185 32 [0, 0, 0, 0, 0, 0, 0, 4137, 0, 0, 0, 0, 0, 0, 0, 0, 0, 0, 4138, 0, 0, 0, 0, 0, 0, 0, 0, 0, 4092, 0, 0, 0] mm_r185_1 = true := by decide +kernel
theorem mm_k185_2 : mm_okc (mm_I 185) mm_r185 64 [0, 0, 0, 0, 0, 0, 0, 0] mm_r185_2 = true := by decide +kernel
theorem mm_k186_0 : mm_okc (mm_I 186) mm_r186 0 [0, 0, 4128, 0, 0, 4129, 5042, 0, 4093, 0] mm_r186_0 = true := by decide +kernel
theorem mm_k187_0 : mm_okc (mm_I 187) mm_r187 0 [0, 4128, 0, 0, 0, 0, 0, 4129, 5055, 0, 4093, 0] mm_r187_0 = true := by decide +kernel
theorem mm_k188_0 : mm_okc (mm_I 188) mm_r188 0 [0, 0, 4126, 0, 0, 5006, 0, 0, 0, 0, 4239, 0, 0, 0, 0, 4094, 0, 0, 0, 0, 0, 0, 0, 0, 0, 6017, 0, 0, 0, 0, 0, 0] mm_r188_0 = true := by decide +kernel
theorem mm_k188_1 : mm_okc (mm_I 188) mm_r188 32 [0, 0, 6028, 0, 0, 0, 0, 0, 6032, 0] mm_r188_1 = true := by decide +kernel
theorem mm_k189_0 : mm_okc (mm_I 189) mm_r189 0 [0, 0, 0, 0, 6021, 0, 0, 0, 0, 0, 0, 6017, 0, 0, 0, 6021, 0, 0, 0, 0, 6017, 0, 0, 0, 0, 6021, 0, 0, 0, 0, 6017, 0] mm_r189_0 = true := by decide +kernel
theorem mm_k189_1 : mm_okc (mm_I 189) mm_r189 32 [4095, 0, 0, 0, 0, 0, 0, 6021, 0, 0, 0, 0, 0, 0, 0, 6025, 0, 6017, 0] mm_r189_1 = true := by decide +kernel
theorem mm_k190_0 : mm_okc (mm_I 190) mm_r190 0 [0, 4126, 0, 0, 0, 4127, 0, 4126, 0, 0, 0, 0, 4126, 0, 0, 4126, 0] mm_r190_0 = true := by decide +kernel
theorem mm_k191_0 : mm_okc (mm_I 191) mm_r191 0 [0, 0, 0, 0, 0, 0, 0, 0, 0, 0, 0, 0, 0, 0, 0, 0, 0] mm_r191_0 = true := by decide +kernel
theorem mm_k192_0 : mm_okc (mm_I 192) mm_r192 0 [0, 0, 0, 0, 6021, 0, 0, 0, 0, 6028, 0, 0, 0, 0, 0, 6021, 0, 0, 0, 0, 0, 0, 6028, 0, 0, 0, 6021, 0, 0, 0, 0, 6028] mm_r192_0 = true := by decide +kernel
theorem mm_k192_1 : mm_okc (mm_I 192) mm_r192 32 [0, 0, 0, 0, 0, 0, 6017, 0, 0, 0, 0, 6021, 0, 0, 0, 4094, 0, 0, 0, 6017, 0, 4095, 0, 0, 0, 0, 0, 0, 0, 6025, 0, 6028] mm_r192_1 = true := by decide +kernel
theorem mm_k192_2 : mm_okc (mm_I 192) mm_r192 64 [0] mm_r192_2 = true := by decide +kernel
theorem mm_k193_0 : mm_okc (mm_I 193) mm_r193 0 [0, 0, 0, 0, 6021, 0, 0, 0, 0, 6032, 0, 0, 0, 0, 0, 4094, 0, 0, 0, 6028, 0, 0, 0, 0, 6021, 0, 0, 0, 0, 0, 0, 6032] mm_r193_0 = true := by decide +kernel
theorem mm_k193_1 : mm_okc (mm_I 193) mm_r193 32 [0, 0, 0, 6021, 0, 0, 0, 4094, 0, 0, 0, 6028, 0, 0, 0, 0, 0, 0, 6025, 0, 6032, 0] mm_r193_1 = true := by decide +kernel
theorem mm_k194_0 : mm_okc (mm_I 194) mm_r194 0 [0, 0, 0, 0, 4126, 5033, 0, 0, 4239, 0, 0, 4127, 0, 0, 0, 0, 0] mm_r194_0 = true := by decide +kernel
theorem mm_k195_0 : mm_okc (mm_I 195) mm_r195 0 [0, 0, 0, 4239, 0, 0, 0, 0, 0, 5006, 0, 0, 0, 0, 4094, 0, 0, 0, 0, 0, 0, 0, 0, 0, 6025, 0, 0, 0, 0, 0, 0, 4094] mm_r195_0 = true := by decide +kernel
theorem mm_k195_1 : mm_okc (mm_I 195) mm_r195 32 [0, 0, 0, 0, 0] mm_r195_1 = true := by decide +kernel
theorem mm_k196_0 : mm_okc (mm_I 196) mm_r196 0 [0, 0, 0, 4093, 0, 0, 4106, 0, 0, 4116, 0, 0, 4120, 0, 0, 4123, 0, 0, 4100, 0, 0, 4126, 0, 0, 0] mm_r196_0 = true := by decide +kernel
theorem mm_k197_0 : mm_okc (mm_I 197) mm_r197 0 [0, 6052, 0, 0, 0, 0, 0, 0, 4239, 0, 0, 0, 0, 0, 0, 0, 0, 0, 0, 0, 0, 0, 0, 0, 4136, 0, 0, 0, 0, 4137, 0, 0] mm_r197_0 = true := by decide +kernel
theorem mm_k197_1 : mm_okc (mm_I 197) mm_r197 32 [0, 0, 0, 0, 0, 0, 0, 0, 0, 0, 0, 4138, 0, 0, 0, 0, 0, 0, 0, 0, 0, 0, 0] mm_r197_1 = true := by decide +kernel
theorem mm_k198_0 : mm_okc (mm_I 198) mm_r198 0 [0, 0, 0, 4239, 0] mm_r198_0 = true := by decide +kernel
theorem mm_k199_0 : mm_okc (mm_I 199) mm_r199 0 [0, 6052, 0, 0, 0, 0, 4136, 0, 0, 0, 0, 0, 0, 0, 0, 4137, 0, 0, 0, 0, 4239, 0, 0, 0, 0, 4138, 0, 0, 0, 0, 0, 0] mm_r199_0 = true := by decide +kernel
theorem mm_k199_1 : mm_okc (mm_I 199) mm_r199 32 [4136, 0, 0, 0, 6059, 0, 0, 0] mm_r199_1 = true := by decide +kernel
theorem mm_k200_0 : mm_okc (mm_I 200) mm_r200 0 [0, 0, 0, 0, 0, 0, 0, 0, 0, 0, 0, 0, 0, 0, 0, 0, 0, 0, 0, 0, 0, 0, 0, 0, 0, 0] mm_r200_0 = true := by decide +kernel
theorem mm_k201_0 : mm_okc (mm_I 201) mm_r201 0 [0, 6052, 0, 0, 4136, 0, 0, 0, 0, 0, 0, 4137, 0, 0, 0, 0, 4239, 0, 0, 4138, 0, 0, 0, 0, 0, 0, 0, 5208, 0] mm_r201_0 = true := by decide +kernel
theorem mm_k202_0 : mm_okc (mm_I 202) mm_r202 0 [0, 6052, 0, 0, 6052, 0, 0, 0, 0, 4136, 0, 0, 0, 0, 4136, 0, 0, 0, 0, 0, 0, 4136, 0, 0, 0, 4136, 0, 0, 0, 0, 0, 0] mm_r202_0 = true := by decide +kernel
theorem mm_k202_1 : mm_okc (mm_I 202) mm_r202 32 [0, 0, 0, 0, 0, 0, 0, 0, 0, 0, 0, 4137, 0, 0, 0, 0, 0, 0, 0, 0, 0, 0, 0, 4137, 0, 0, 0, 0, 0, 0, 0, 0] mm_r202_1 = true := by decide +kernel
theorem mm_k202_2 : mm_okc (mm_I 202) mm_r202 64 [0, 0, 0, 0, 0, 0, 0, 0, 0, 0, 0, 0, 4138, 0, 0, 0, 0, 0, 0, 0, 0, 4138, 0, 0, 0, 0, 0, 0, 0, 0, 0, 0] mm_r202_2 = true := by decide +kernel
theorem mm_k202_3 : mm_okc (mm_I 202) mm_r202 96 [0, 0, 0, 0, 0, 0, 0, 0, 4138, 0, 0, 0, 0, 0, 0, 0, 0, 4138, 0, 0, 0, 0, 0, 0, 0, 0, 0, 0, 0, 0, 0] mm_r202_3 = true := by decide +kernel
theorem mm_k203_0 : mm_okc (mm_I 203) mm_r203 0 [1020, 0, 1022, 0, 4086, 0, 4088, 0, 0, 0, 0, 0, 0, 0, 0, 0, 0, 0, 0, 0, 0, 0, 0, 0, 0, 0, 0, 0, 0, 0, 0, 0] mm_r203_0 = true := by decide +kernel
theorem mm_k203_1 : mm_okc (mm_I 203) mm_r203 32 [0, 2033, 0, 0, 0, 0, 0, 0, 0, 0, 0, 0, 0, 4235, 0, 0, 0, 0, 0, 0, 0, 0, 0, 0, 0, 0, 0, 0, 2044, 0, 0, 0] mm_r203_1 = true := by decide +kernel
theorem mm_k203_2 : mm_okc (mm_I 203) mm_r203 64 [0, 0, 0, 0, 0, 0, 0, 0, 5002, 0, 0, 0, 0, 0, 0, 0, 0, 0, 0, 0, 0, 0, 0, 2081, 0, 0, 0, 0, 0, 0, 0, 0] mm_r203_2 = true := by decide +kernel
theorem mm_k203_3 : mm_okc (mm_I 203) mm_r203 96 [0, 0, 0, 5034, 0, 0, 0, 0, 0, 0, 0, 0, 0, 0, 0, 0, 0, 0, 2127, 0, 0, 0, 0, 0, 0, 0, 0, 0, 0, 0, 5067, 0] mm_r203_3 = true := by decide +kernel
theorem mm_k203_4 : mm_okc (mm_I 203) mm_r203 128 [0, 0, 0, 0, 0, 0, 0, 0, 0, 0, 0, 0, 0, 2131, 0, 0, 0, 0, 0, 0, 0, 0, 0, 0, 0, 5071, 0, 0, 0, 0, 0, 0] mm_r203_4 = true := by decide +kernel
theorem mm_k203_5 : mm_okc (mm_I 203) mm_r203 160 [0, 0, 0, 2135, 0, 0, 0, 0, 0, 0, 5078, 0, 0, 0, 0, 2147, 0, 5090, 0, 0, 0, 0, 0, 0, 0, 0, 0, 0, 0, 0, 0, 0] mm_r203_5 = true := by decide +kernel
theorem mm_k203_6 : mm_okc (mm_I 203) mm_r203 192 [0, 0, 0, 0, 0, 2152, 0, 0, 0, 0, 0, 0, 0, 0, 0, 0, 0, 0, 0, 0, 0, 0, 5094, 0, 0, 0, 0, 0, 0, 0, 0, 0] mm_r203_6 = true := by decide +kernel
theorem mm_k203_7 : mm_okc (mm_I 203) mm_r203 224 [2156, 0, 0, 0, 0, 0, 0, 5098, 0, 0, 0, 0, 2164, 0, 5102, 0, 0, 0, 0, 0, 0, 0, 0, 0, 3097, 0, 0, 0, 0, 0, 0, 5158] mm_r203_7 = true := by decide +kernel
theorem mm_k203_8 : mm_okc (mm_I 203) mm_r203 256 [0, 0, 0, 0, 0, 0, 0, 0, 0, 3147, 0, 0, 0, 0, 0, 0, 5178, 0, 0, 0, 0, 0, 0, 0, 0, 0, 0, 0, 0, 0, 0, 3155] mm_r203_8 = true := by decide +kernel
theorem mm_k203_9 : mm_okc (mm_I 203) mm_r203 288 [0, 0, 0, 0, 0, 0, 0, 0, 0, 0, 0, 5182, 0, 0, 0, 0, 0, 0, 0, 0, 0, 0, 0, 0, 0, 0, 3160, 0, 0, 0, 0, 0] mm_r203_9 = true := by decide +kernel
theorem mm_k203_10 : mm_okc (mm_I 203) mm_r203 320 [0, 0, 0, 0, 0, 0, 5186, 0, 0, 0, 0, 0, 0, 0, 0, 0, 3169, 0, 0, 0, 0, 0, 0, 5191, 0, 0, 0, 0, 0, 0, 0, 0] mm_r203_10 = true := by decide +kernel
theorem mm_k203_11 : mm_okc (mm_I 203) mm_r203 352 [0, 0, 0, 0, 0, 0, 0, 0, 0, 0, 0, 3173, 0, 0, 0, 0, 0, 0, 0, 0, 0, 0, 0, 0, 0, 0, 0, 0, 5196, 0, 0, 0] mm_r203_11 = true := by decide +kernel
theorem mm_k203_12 : mm_okc (mm_I 203) mm_r203 384 [0, 0, 0, 0, 0, 0, 0, 0, 0, 0, 0, 3185, 0, 0, 0, 0, 0, 0, 0, 0, 0, 0, 0, 5200, 0, 0, 0, 0, 0, 0, 0, 0] mm_r203_12 = true := by decide +kernel
theorem mm_k203_13 : mm_okc (mm_I 203) mm_r203 416 [0, 0, 0, 0, 0, 0, 0, 0, 0, 0, 0, 0, 0, 0, 0, 0, 3189, 0, 0, 0, 0, 0, 0, 0, 0, 0, 0, 0, 0, 0, 0, 0] mm_r203_13 = true := by decide +kernel
theorem mm_k203_14 : mm_okc (mm_I 203) mm_r203 448 [0, 0, 0, 0, 0, 0, 5204, 0, 0, 0, 0, 0, 0, 0, 0, 0, 0, 0, 0, 0, 0, 0, 3197, 0, 0, 0, 0, 0, 0, 0, 0, 0] mm_r203_14 = true := by decide +kernel
theorem mm_k203_15 : mm_okc (mm_I 203) mm_r203 480 [0, 0, 5216, 0, 0, 0, 0, 0, 0, 0, 0, 0, 0, 0, 0, 0, 0, 0, 3201, 0, 0, 0, 0, 0, 0, 0, 0, 0, 0, 0, 5221, 0] mm_r203_15 = true := by decide +kernel
theorem mm_k203_16 : mm_okc (mm_I 203) mm_r203 512 [0, 0, 0, 0, 0, 0, 0, 0, 3205, 0, 0, 0, 0, 0, 0, 5225, 0, 0, 0, 0, 0, 0, 0, 0, 0, 0, 0, 0, 0, 0, 3219, 0] mm_r203_16 = true := by decide +kernel
theorem mm_k203_17 : mm_okc (mm_I 203) mm_r203 544 [0, 0, 0, 0, 0, 0, 0, 0, 0, 0, 5233, 0, 0, 0, 0, 3223, 0, 5237, 0, 0, 0, 0, 0, 0, 0, 0, 0, 0, 0, 0, 0, 0] mm_r203_17 = true := by decide +kernel
theorem mm_k203_18 : mm_okc (mm_I 203) mm_r203 576 [3227, 0, 0, 0, 0, 0, 0, 0, 0, 0, 0, 0, 6001, 0, 0, 0, 0, 3234, 0, 6005, 0, 0, 0, 0, 4008, 0, 6009, 0, 0, 0, 0, 0] mm_r203_18 = true := by decide +kernel
theorem mm_k203_19 : mm_okc (mm_I 203) mm_r203 608 [0, 0, 0, 0, 0, 0, 0, 0, 0, 0, 0, 0, 0, 0, 4012, 0, 0, 0, 0, 0, 0, 0, 0, 0, 0, 0, 0, 0, 0, 0, 0, 6013] mm_r203_19 = true := by decide +kernel
theorem mm_k203_20 : mm_okc (mm_I 203) mm_r203 640 [0, 0, 0, 0, 0, 0, 0, 0, 0, 4036, 0, 0, 0, 0, 0, 0, 6036, 0, 0, 0, 0, 0, 0, 0, 0, 0, 0, 0, 0, 0, 0, 4045] mm_r203_20 = true := by decide +kernel
theorem mm_k203_21 : mm_okc (mm_I 203) mm_r203 672 [0, 0, 0, 0, 0, 0, 0, 0, 0, 0, 0, 6040, 0, 0, 0, 0, 0, 0, 0, 0, 0, 4050, 0, 0, 0, 0, 0, 0, 6044, 0, 0, 0] mm_r203_21 = true := by decide +kernel
theorem mm_k203_22 : mm_okc (mm_I 203) mm_r203 704 [0, 0, 0, 0, 0, 0, 0, 0, 0, 0, 0, 0, 0, 0, 0, 0, 4054, 0, 0, 0, 0, 0, 0, 0, 0, 0, 0, 0, 0, 0, 0, 0] mm_r203_22 = true := by decide +kernel
theorem mm_k203_23 : mm_okc (mm_I 203) mm_r203 736 [0, 6048, 0, 0, 0, 0, 0, 0, 0, 0, 0, 0, 0, 0, 0, 0, 0, 0, 0, 0, 0, 0, 0, 0, 0, 0, 0, 0, 0, 0, 6070, 0] mm_r203_23 = true := by decide +kernel
theorem mm_k203_24 : mm_okc (mm_I 203) mm_r203 768 [0, 4065, 0, 0, 0, 0, 0, 0, 0, 0, 0, 0, 0, 0, 0, 0, 0, 0, 0, 0, 0, 0, 0, 0, 0, 0, 0, 6070, 0, 0, 6055, 0] mm_r203_24 = true := by decide +kernel
theorem mm_k203_25 : mm_okc (mm_I 203) mm_r203 800 [0, 0, 0, 0, 0, 0, 0, 0, 0, 0, 0, 0, 0, 4073, 0, 0, 0, 0, 0, 0, 0, 0, 0, 0, 0, 6062, 0, 0, 0, 0, 0, 0] mm_r203_25 = true := by decide +kernel
theorem mm_k203_26 : mm_okc (mm_I 203) mm_r203 832 [0, 0, 0, 0, 0, 0, 0, 0, 0, 0, 0, 0, 0, 0, 0, 0, 0, 0, 0, 0, 0, 0, 0, 0, 4077, 0, 0, 0, 0, 0, 0, 0] mm_r203_26 = true := by decide +kernel
theorem mm_k203_27 : mm_okc (mm_I 203) mm_r203 864 [0, 0, 0, 0, 0, 0, 0, 0, 0, 0, 0, 0, 0, 0, 0, 0, 0, 0, 0, 6066, 0, 0, 0, 0, 0, 0, 0] mm_r203_27 = true := by decide +kernel
theorem mm_m0 : mm_okm 0 1042 1004 1041 0 = true := by decide +kernel
theorem mm_m1 : mm_okm 1 4064 1004 4063 0 = true := by decide +kernel
theorem mm_m5 : mm_okm 5 3127 1019 3126 0 = true := by decide +kernel
theorem mm_m6 : mm_okm 6 2196 1014 2194 2195 = true := by decide +kernel
theorem mm_m7 : mm_okm 7 2200 1014 2198 2199 = true := by decide +kernel
theorem mm_m8 : mm_okm 8 2206 1014 2204 2205 = true := by decide +kernel
theorem mm_m9 : mm_okm 9 2210 1014 2208 2209 = true := by decide +kernel
theorem mm_m10 : mm_okm 10 2216 1014 2215 0 = true := by decide +kernel
theorem mm_m11 : mm_okm 11 3031 1014 3029 3030 = true := by decide +kernel
theorem mm_m12 : mm_okm 12 3035 1014 3033 3034 = true := by decide +kernel
theorem mm_m13 : mm_okm 13 2213 1015 2212 0 = true := by decide +kernel
theorem mm_m14 : mm_okm 14 3039 1015 3038 0 = true := by decide +kernel
theorem mm_m15 : mm_okm 15 3042 1015 3041 0 = true := by decide +kernel
theorem mm_m16 : mm_okm 16 3047 1015 3046 0 = true := by decide +kernel
end
section
theorem mm_m17 : mm_okm 17 2221 1016 2220 0 = true := by decide +kernel
theorem mm_m18 : mm_okm 18 1175 1008 1174 0 = true := by decide +kernel
theorem mm_m19 : mm_okm 19 4019 1008 4017 4018 = true := by decide +kernel
theorem mm_m20 : mm_okm 20 4023 1008 4021 4022 = true := by decide +kernel
theorem mm_m21 : mm_okm 21 4027 1008 4026 20 = true := by decide +kernel
theorem mm_m22 : mm_okm 22 4035 1008 4034 21 = true := by decide +kernel
theorem mm_m23 : mm_okm 23 4043 1008 4041 4042 = true := by decide +kernel
theorem mm_m24 : mm_okm 24 1032 1002 1031 0 = true := by decide +kernel
theorem mm_m25 : mm_okm 25 4001 1002 3239 4000 = true := by decide +kernel
theorem mm_m26 : mm_okm 26 1038 1003 1037 0 = true := by decide +kernel
theorem mm_m27 : mm_okm 27 2043 1003 2041 2042 = true := by decide +kernel
theorem mm_m28 : mm_okm 28 2058 1003 2056 2057 = true := by decide +kernel
theorem mm_m29 : mm_okm 29 2062 1003 2060 2061 = true := by decide +kernel
theorem mm_m30 : mm_okm 30 2066 1003 2065 1 = true := by decide +kernel
theorem mm_m31 : mm_okm 31 2070 1003 2069 2 = true := by decide +kernel
theorem mm_m32 : mm_okm 32 2091 1003 2089 2090 = true := by decide +kernel
theorem mm_m33 : mm_okm 33 2095 1003 2094 3 = true := by decide +kernel
theorem mm_m34 : mm_okm 34 2099 1003 2097 2098 = true := by decide +kernel
theorem mm_m35 : mm_okm 35 2103 1003 2102 4 = true := by decide +kernel
theorem mm_m36 : mm_okm 36 2114 1003 2112 2113 = true := by decide +kernel
theorem mm_m37 : mm_okm 37 2121 1003 2119 2120 = true := by decide +kernel
theorem mm_m38 : mm_okm 38 2125 1003 2123 2124 = true := by decide +kernel
theorem mm_m39 : mm_okm 39 2142 1003 2140 2141 = true := by decide +kernel
theorem mm_m40 : mm_okm 40 2146 1003 2144 2145 = true := by decide +kernel
theorem mm_m41 : mm_okm 41 3105 1003 3103 3104 = true := by decide +kernel
theorem mm_m42 : mm_okm 42 3109 1003 3107 3108 = true := by decide +kernel
theorem mm_m43 : mm_okm 43 3113 1003 3111 3112 = true := by decide +kernel
theorem mm_m44 : mm_okm 44 3154 1003 3152 3153 = true := by decide +kernel
theorem mm_m45 : mm_okm 45 3168 1003 3166 3167 = true := by decide +kernel
theorem mm_m46 : mm_okm 46 3212 1003 3210 3211 = true := by decide +kernel
theorem mm_m47 : mm_okm 47 3218 1003 3216 3217 = true := by decide +kernel
theorem mm_m48 : mm_okm 48 1162 1007 1161 0 = true := by decide +kernel
theorem mm_m49 : mm_okm 49 3117 1007 3115 3116 = true := by decide +kernel
theorem mm_m50 : mm_okm 50 3121 1007 3120 16 = true := by decide +kernel
theorem mm_m51 : mm_okm 51 3134 1007 3133 17 = true := by decide +kernel
theorem mm_m52 : mm_okm 52 3138 1007 3137 18 = true := by decide +kernel
theorem mm_m53 : mm_okm 53 3142 1007 3140 3141 = true := by decide +kernel
theorem mm_m54 : mm_okm 54 3146 1007 3145 19 = true := by decide +kernel
theorem mm_m55 : mm_okm 55 1138 1006 1137 0 = true := by decide +kernel
theorem mm_m56 : mm_okm 56 2163 1006 2161 2162 = true := by decide +kernel
theorem mm_m57 : mm_okm 57 2171 1006 2169 2170 = true := by decide +kernel
theorem mm_m58 : mm_okm 58 2179 1006 2178 6 = true := by decide +kernel
theorem mm_m59 : mm_okm 59 2183 1006 2182 7 = true := by decide +kernel
theorem mm_m60 : mm_okm 60 2187 1006 2186 8 = true := by decide +kernel
theorem mm_m61 : mm_okm 61 2192 1006 2191 9 = true := by decide +kernel
theorem mm_m62 : mm_okm 62 3004 1006 3003 10 = true := by decide +kernel
theorem mm_m63 : mm_okm 63 3008 1006 3007 11 = true := by decide +kernel
theorem mm_m64 : mm_okm 64 3014 1006 3013 12 = true := by decide +kernel
theorem mm_m65 : mm_okm 65 3018 1006 3017 13 = true := by decide +kernel
theorem mm_m66 : mm_okm 66 3022 1006 3021 14 = true := by decide +kernel
theorem mm_m67 : mm_okm 67 3026 1006 3025 15 = true := by decide +kernel
theorem mm_m68 : mm_okm 68 3085 1006 3084 0 = true := by decide +kernel
theorem mm_m69 : mm_okm 69 1091 1005 1090 0 = true := by decide +kernel
theorem mm_m70 : mm_okm 70 3180 1005 3178 3179 = true := by decide +kernel
theorem mm_m71 : mm_okm 71 3184 1005 3182 3183 = true := by decide +kernel
theorem mm_m72 : mm_okm 72 4006 1005 4004 4005 = true := by decide +kernel
theorem mm_m73 : mm_okm 73 1200 1009 1199 0 = true := by decide +kernel
theorem mm_m74 : mm_okm 74 2074 1009 2072 2073 = true := by decide +kernel
theorem mm_m75 : mm_okm 75 2077 1009 2076 0 = true := by decide +kernel
theorem mm_m76 : mm_okm 76 2175 1009 2173 2174 = true := by decide +kernel
theorem mm_m77 : mm_okm 77 3088 1009 3087 0 = true := by decide +kernel
theorem mm_m78 : mm_okm 78 3092 1009 3090 3091 = true := by decide +kernel
theorem mm_m79 : mm_okm 79 3096 1009 3094 3095 = true := by decide +kernel
theorem mm_m80 : mm_okm 80 1226 1010 1225 0 = true := by decide +kernel
theorem mm_m81 : mm_okm 81 4061 1010 4059 4060 = true := by decide +kernel
theorem mm_m82 : mm_okm 82 4072 1010 4070 4071 = true := by decide +kernel
theorem mm_m83 : mm_okm 83 4084 1010 4082 4083 = true := by decide +kernel
theorem mm_m84 : mm_okm 84 1024 1001 1023 0 = true := by decide +kernel
theorem mm_m85 : mm_okm 85 2036 1001 2034 2035 = true := by decide +kernel
theorem mm_m86 : mm_okm 86 2039 1001 2038 0 = true := by decide +kernel
theorem mm_m87 : mm_okm 87 2047 1001 2045 2046 = true := by decide +kernel
theorem mm_m88 : mm_okm 88 2051 1001 2050 0 = true := by decide +kernel
theorem mm_m89 : mm_okm 89 2054 1001 2053 0 = true := by decide +kernel
theorem mm_m90 : mm_okm 90 2084 1001 2082 2083 = true := by decide +kernel
theorem mm_m91 : mm_okm 91 2087 1001 2086 0 = true := by decide +kernel
theorem mm_m92 : mm_okm 92 2110 1001 2109 5 = true := by decide +kernel
theorem mm_m93 : mm_okm 93 2130 1001 2128 2129 = true := by decide +kernel
theorem mm_m94 : mm_okm 94 2134 1001 2132 2133 = true := by decide +kernel
theorem mm_m95 : mm_okm 95 2138 1001 2136 2137 = true := by decide +kernel
theorem mm_m96 : mm_okm 96 2150 1001 2148 2149 = true := by decide +kernel
theorem mm_m97 : mm_okm 97 2155 1001 2153 2154 = true := by decide +kernel
theorem mm_m98 : mm_okm 98 2159 1001 2157 2158 = true := by decide +kernel
theorem mm_m99 : mm_okm 99 2167 1001 2165 2166 = true := by decide +kernel
theorem mm_m100 : mm_okm 100 3100 1001 3098 3099 = true := by decide +kernel
theorem mm_m101 : mm_okm 101 3150 1001 3148 3149 = true := by decide +kernel
theorem mm_m102 : mm_okm 102 3158 1001 3156 3157 = true := by decide +kernel
theorem mm_m103 : mm_okm 103 3163 1001 3161 3162 = true := by decide +kernel
theorem mm_m104 : mm_okm 104 3172 1001 3170 3171 = true := by decide +kernel
theorem mm_m105 : mm_okm 105 3176 1001 3174 3175 = true := by decide +kernel
theorem mm_m106 : mm_okm 106 3188 1001 3186 3187 = true := by decide +kernel
theorem mm_m107 : mm_okm 107 3192 1001 3190 3191 = true := by decide +kernel
theorem mm_m108 : mm_okm 108 3196 1001 3195 0 = true := by decide +kernel
theorem mm_m109 : mm_okm 109 3200 1001 3198 3199 = true := by decide +kernel
theorem mm_m110 : mm_okm 110 3204 1001 3202 3203 = true := by decide +kernel
theorem mm_m111 : mm_okm 111 3208 1001 3206 3207 = true := by decide +kernel
theorem mm_m112 : mm_okm 112 3222 1001 3220 3221 = true := by decide +kernel
theorem mm_m113 : mm_okm 113 3226 1001 3224 3225 = true := by decide +kernel
theorem mm_m114 : mm_okm 114 3230 1001 3228 3229 = true := by decide +kernel
theorem mm_m115 : mm_okm 115 3233 1001 3232 0 = true := by decide +kernel
theorem mm_m116 : mm_okm 116 3237 1001 3235 3236 = true := by decide +kernel
theorem mm_m117 : mm_okm 117 4011 1001 4009 4010 = true := by decide +kernel
theorem mm_m118 : mm_okm 118 4015 1001 4013 4014 = true := by decide +kernel
theorem mm_m119 : mm_okm 119 4039 1001 4037 4038 = true := by decide +kernel
theorem mm_m120 : mm_okm 120 4048 1001 4046 4047 = true := by decide +kernel
theorem mm_m121 : mm_okm 121 4053 1001 4051 4052 = true := by decide +kernel
theorem mm_m122 : mm_okm 122 4057 1001 4055 4056 = true := by decide +kernel
theorem mm_m123 : mm_okm 123 4068 1001 4066 4067 = true := by decide +kernel
theorem mm_m124 : mm_okm 124 4076 1001 4074 4075 = true := by decide +kernel
theorem mm_m125 : mm_okm 125 4080 1001 4078 4079 = true := by decide +kernel
theorem mm_m126 : mm_okm 126 4090 1011 4089 0 = true := by decide +kernel
theorem mm_m127 : mm_okm 127 4238 1011 4236 4237 = true := by decide +kernel
theorem mm_m128 : mm_okm 128 5001 1011 5000 0 = true := by decide +kernel
theorem mm_m129 : mm_okm 129 5005 1011 5003 5004 = true := by decide +kernel
theorem mm_m130 : mm_okm 130 5009 1011 5008 22 = true := by decide +kernel
theorem mm_m131 : mm_okm 131 5012 1011 5011 0 = true := by decide +kernel
theorem mm_m132 : mm_okm 132 5016 1011 5015 23 = true := by decide +kernel
theorem mm_m133 : mm_okm 133 5020 1011 5019 24 = true := by decide +kernel
theorem mm_m134 : mm_okm 134 5024 1011 5023 25 = true := by decide +kernel
theorem mm_m135 : mm_okm 135 5028 1011 5027 26 = true := by decide +kernel
theorem mm_m136 : mm_okm 136 5032 1011 5031 27 = true := by decide +kernel
theorem mm_m137 : mm_okm 137 5037 1011 5035 5036 = true := by decide +kernel
theorem mm_m138 : mm_okm 138 5041 1011 5040 28 = true := by decide +kernel
theorem mm_m139 : mm_okm 139 5045 1011 5044 29 = true := by decide +kernel
theorem mm_m140 : mm_okm 140 5049 1011 5048 30 = true := by decide +kernel
theorem mm_m141 : mm_okm 141 5053 1011 5052 31 = true := by decide +kernel
theorem mm_m142 : mm_okm 142 5058 1011 5057 32 = true := by decide +kernel
theorem mm_m143 : mm_okm 143 5062 1011 5061 33 = true := by decide +kernel
theorem mm_m144 : mm_okm 144 5066 1011 5065 34 = true := by decide +kernel
theorem mm_m145 : mm_okm 145 5070 1011 5068 5069 = true := by decide +kernel
theorem mm_m146 : mm_okm 146 5074 1011 5072 5073 = true := by decide +kernel
theorem mm_m147 : mm_okm 147 5077 1011 5076 0 = true := by decide +kernel
theorem mm_m148 : mm_okm 148 5081 1011 5079 5080 = true := by decide +kernel
theorem mm_m149 : mm_okm 149 5085 1011 5084 35 = true := by decide +kernel
theorem mm_m150 : mm_okm 150 5089 1011 5088 36 = true := by decide +kernel
theorem mm_m151 : mm_okm 151 5093 1011 5091 5092 = true := by decide +kernel
theorem mm_m152 : mm_okm 152 5097 1011 5095 5096 = true := by decide +kernel
theorem mm_m153 : mm_okm 153 5101 1011 5099 5100 = true := by decide +kernel
theorem mm_m154 : mm_okm 154 5105 1011 5103 5104 = true := by decide +kernel
theorem mm_m155 : mm_okm 155 5109 1011 5108 37 = true := by decide +kernel
theorem mm_m156 : mm_okm 156 5114 1011 5113 38 = true := by decide +kernel
theorem mm_m157 : mm_okm 157 5120 1011 5119 39 = true := by decide +kernel
theorem mm_m158 : mm_okm 158 5126 1011 5125 40 = true := by decide +kernel
theorem mm_m159 : mm_okm 159 5130 1011 5129 41 = true := by decide +kernel
theorem mm_m160 : mm_okm 160 5134 1011 5133 42 = true := by decide +kernel
theorem mm_m161 : mm_okm 161 5138 1011 5137 43 = true := by decide +kernel
theorem mm_m162 : mm_okm 162 5142 1011 5141 44 = true := by decide +kernel
theorem mm_m163 : mm_okm 163 5146 1011 5145 45 = true := by decide +kernel
theorem mm_m164 : mm_okm 164 5150 1011 5149 46 = true := by decide +kernel
theorem mm_m165 : mm_okm 165 5154 1011 5153 47 = true := by decide +kernel
theorem mm_m166 : mm_okm 166 5161 1011 5159 5160 = true := by decide +kernel
theorem mm_m167 : mm_okm 167 5165 1011 5164 48 = true := by decide +kernel
theorem mm_m168 : mm_okm 168 5169 1011 5168 49 = true := by decide +kernel
theorem mm_m169 : mm_okm 169 5173 1011 5172 50 = true := by decide +kernel
theorem mm_m170 : mm_okm 170 5177 1011 5176 51 = true := by decide +kernel
theorem mm_m171 : mm_okm 171 5181 1011 5179 5180 = true := by decide +kernel
theorem mm_m172 : mm_okm 172 5185 1011 5183 5184 = true := by decide +kernel
theorem mm_m173 : mm_okm 173 5189 1011 5187 5188 = true := by decide +kernel
theorem mm_m174 : mm_okm 174 5194 1011 5192 5193 = true := by decide +kernel
theorem mm_m175 : mm_okm 175 5199 1011 5197 5198 = true := by decide +kernel
theorem mm_m176 : mm_okm 176 5203 1011 5201 5202 = true := by decide +kernel
theorem mm_m177 : mm_okm 177 5207 1011 5205 5206 = true := by decide +kernel
theorem mm_m178 : mm_okm 178 5212 1011 5211 0 = true := by decide +kernel
theorem mm_m179 : mm_okm 179 5219 1011 5217 5218 = true := by decide +kernel
theorem mm_m180 : mm_okm 180 5224 1011 5222 5223 = true := by decide +kernel
theorem mm_m181 : mm_okm 181 5228 1011 5226 5227 = true := by decide +kernel
theorem mm_m182 : mm_okm 182 5232 1011 5231 52 = true := by decide +kernel
theorem mm_m183 : mm_okm 183 5236 1011 5234 5235 = true := by decide +kernel
theorem mm_m184 : mm_okm 184 6000 1011 5238 5239 = true := by decide +kernel
theorem mm_m185 : mm_okm 185 6004 1011 6002 6003 = true := by decide +kernel
theorem mm_m186 : mm_okm 186 6008 1011 6006 6007 = true := by decide +kernel
theorem mm_m187 : mm_okm 187 6012 1011 6010 6011 = true := by decide +kernel
theorem mm_m188 : mm_okm 188 6016 1011 6014 6015 = true := by decide +kernel
theorem mm_m189 : mm_okm 189 6020 1011 6019 53 = true := by decide +kernel
theorem mm_m190 : mm_okm 190 6024 1011 6023 54 = true := by decide +kernel
theorem mm_m191 : mm_okm 191 6027 1011 6026 0 = true := by decide +kernel
theorem mm_m192 : mm_okm 192 6031 1011 6030 55 = true := by decide +kernel
theorem mm_m193 : mm_okm 193 6035 1011 6034 56 = true := by decide +kernel
theorem mm_m194 : mm_okm 194 6039 1011 6037 6038 = true := by decide +kernel
theorem mm_m195 : mm_okm 195 6043 1011 6041 6042 = true := by decide +kernel
theorem mm_m196 : mm_okm 196 6047 1011 6045 6046 = true := by decide +kernel
theorem mm_m197 : mm_okm 197 6051 1011 6049 6050 = true := by decide +kernel
theorem mm_m198 : mm_okm 198 6054 1011 6053 0 = true := by decide +kernel
theorem mm_m199 : mm_okm 199 6058 1011 6056 6057 = true := by decide +kernel
theorem mm_m200 : mm_okm 200 6061 1011 6060 0 = true := by decide +kernel
theorem mm_m201 : mm_okm 201 6065 1011 6063 6064 = true := by decide +kernel
theorem mm_m202 : mm_okm 202 6069 1011 6067 6068 = true := by decide +kernel
end
section
/-- words by their places -/
def mm_all : List Nat → List Cond → Bool
  | _, [] => true
  | [], _ :: _ => false
  | h :: hs, w :: ws => mm_has h w && mm_all hs ws
theorem mm_all_mem : ∀ (hs : List Nat) (ws : List Cond), mm_all hs ws = true → ∀ w ∈ ws, w ∈ mm_good
  | _, [], _, w, hw => absurd hw List.not_mem_nil
  | [], _ :: _, h, _, _ => by cases h
  | h :: hs, v :: ws, e, w, hw => by
    rw [mm_all, Bool.and_eq_true] at e
    rcases List.mem_cons.mp hw with rfl | h1
    · exact mm_has_mem e.1
    · exact mm_all_mem hs ws e.2 w h1
/-- what the tables say of the kind a -/
def sm_cl (a : Nat) (C : String) (T : u_T) (N : Nat) : Prop := vwCl[a]? = some (C, T, N) ∧ mm_T1 a = (C, T, N) ∧ mm_N.getD a 0 = N ∧ (∀ w ∈ u_ws C T N, w ∈ mm_good) ∧ (∃ ty : Nat → FieldType, (∀ k, k < N → parseFieldDescriptor (T k).2.2.1 = some (ty k)) ∧ ∀ k, k < N → defaultValue (ty k) = (if mm_fc a k = 0 then .int 0 else .null)) ∧ (∀ x, x < N → ∀ y, y < N → x ≠ y → (T x).2.1 ≠ (T y).2.1) ∧ Cond.instantiable C N ∈ mm_good ∧ Cond.initialized C ∈ mm_good
theorem sm_cl0 : sm_cl 0 RX0 TX0 5 := ⟨rfl, rfl, rfl, mm_all_mem [1184, 1186, 1188, 1190, 1192] _ (by decide +kernel), ⟨tyX0, tyX0_ok, by decide +kernel⟩, nmX0, mm_has_mem (h := 1172) (by decide +kernel), mm_has_mem (h := 1008) (by decide +kernel)⟩
theorem sm_cl1 : sm_cl 1 RX1 TX1 4 := ⟨rfl, rfl, rfl, mm_all_mem [1121, 1123, 1125, 1127] _ (by decide +kernel), ⟨tyX1, tyX1_ok, by decide +kernel⟩, nmX1, mm_has_mem (h := 1029) (by decide +kernel), mm_has_mem (h := 1002) (by decide +kernel)⟩
theorem sm_cl2 : sm_cl 2 RX2 TX2 10 := ⟨rfl, rfl, rfl, mm_all_mem [1065, 1067, 1069, 1071, 1073, 1075, 1077, 1079, 1081, 1083] _ (by decide +kernel), ⟨tyX2, tyX2_ok, by decide +kernel⟩, nmX2, mm_has_mem (h := 1035) (by decide +kernel), mm_has_mem (h := 1003) (by decide +kernel)⟩
theorem sm_cl3 : sm_cl 3 RX3 TX3 2 := ⟨rfl, rfl, rfl, mm_all_mem [1166, 1168] _ (by decide +kernel), ⟨tyX3, tyX3_ok, by decide +kernel⟩, nmX3, mm_has_mem (h := 1159) (by decide +kernel), mm_has_mem (h := 1007) (by decide +kernel)⟩
theorem sm_cl4 : sm_cl 4 RX4 TX4 5 := ⟨rfl, rfl, rfl, mm_all_mem [1146, 1148, 1150, 1152, 1154] _ (by decide +kernel), ⟨tyX4, tyX4_ok, by decide +kernel⟩, nmX4, mm_has_mem (h := 1135) (by decide +kernel), mm_has_mem (h := 1006) (by decide +kernel)⟩
theorem sm_cl5 : sm_cl 5 RX5 TX5 4 := ⟨rfl, rfl, rfl, mm_all_mem [1104, 1106, 1108, 1110] _ (by decide +kernel), ⟨tyX5, tyX5_ok, by decide +kernel⟩, nmX5, mm_has_mem (h := 1088) (by decide +kernel), mm_has_mem (h := 1005) (by decide +kernel)⟩
theorem sm_cl6 : sm_cl 6 RX6 TX6 6 := ⟨rfl, rfl, rfl, mm_all_mem [1210, 1212, 1214, 1216, 1218, 1220] _ (by decide +kernel), ⟨tyX6, tyX6_ok, by decide +kernel⟩, nmX6, mm_has_mem (h := 1197) (by decide +kernel), mm_has_mem (h := 1009) (by decide +kernel)⟩
theorem sm_cl7 : sm_cl 7 RX7 TX7 3 := ⟨rfl, rfl, rfl, mm_all_mem [1234, 1236, 1238] _ (by decide +kernel), ⟨tyX7, tyX7_ok, by decide +kernel⟩, nmX7, mm_has_mem (h := 1223) (by decide +kernel), mm_has_mem (h := 1010) (by decide +kernel)⟩
theorem sm_cl8 : sm_cl 8 RX8 TX8 10 := ⟨rfl, rfl, rfl, mm_all_mem [2012, 2014, 2016, 2018, 2020, 2022, 2024, 2026, 2028, 2030] _ (by decide +kernel), ⟨tyX8, tyX8_ok, by decide +kernel⟩, nmX8, mm_has_mem (h := 1021) (by decide +kernel), mm_has_mem (h := 1001) (by decide +kernel)⟩
theorem sm_cl9 : sm_cl 9 RX9 TX9 47 := ⟨rfl, rfl, rfl, mm_all_mem [4139, 4141, 4143, 4145, 4147, 4149, 4151, 4153, 4155, 4157, 4159, 4161, 4163, 4165, 4167, 4169, 4171, 4173, 4175, 4177, 4179, 4181, 4183, 4185, 4187, 4189, 4191, 4193, 4195, 4197, 4199, 4201, 4203, 4205, 4207, 4209, 4211, 4213, 4215, 4217, 4219, 4221, 4223, 4225, 4227, 4229, 4231] _ (by decide +kernel), ⟨tyX9, tyX9_ok, by decide +kernel⟩, nmX9, mm_has_mem (h := 4087) (by decide +kernel), mm_has_mem (h := 1011) (by decide +kernel)⟩
theorem sm_cls : ∀ a, a < 10 → ∃ C T N, sm_cl a C T N := by
  intro a h
  match a, h with
  | 0, _ => exact ⟨_, _, _, sm_cl0⟩
  | 1, _ => exact ⟨_, _, _, sm_cl1⟩
  | 2, _ => exact ⟨_, _, _, sm_cl2⟩
  | 3, _ => exact ⟨_, _, _, sm_cl3⟩
  | 4, _ => exact ⟨_, _, _, sm_cl4⟩
  | 5, _ => exact ⟨_, _, _, sm_cl5⟩
  | 6, _ => exact ⟨_, _, _, sm_cl6⟩
  | 7, _ => exact ⟨_, _, _, sm_cl7⟩
  | 8, _ => exact ⟨_, _, _, sm_cl8⟩
  | 9, _ => exact ⟨_, _, _, sm_cl9⟩
/-- every row of every method is the code's -/
theorem mm_a0 : ∀ (i : Nat) (r : mm_R), mm_rw (mm_rows 0) i = some r → ∃ h, mm_ok (mm_I 0) (mm_rows 0) i h r = true := by
  intro i r hr
  have e : mm_rows 0 = mm_r0 := rfl
  rw [e] at hr ⊢
  unfold mm_rw at hr
  have hd : i = 32 * (i / 32) + i % 32 := by omega
  generalize i / 32 = a at hr hd
  generalize i % 32 = b at hr hd
  subst hd
  match a with
  | 0 => exact mm_okc_at _ _ _ mm_k0_0 b r hr
  | a + 1 => exact absurd hr (by simp [mm_r0])
theorem mm_a1 : ∀ (i : Nat) (r : mm_R), mm_rw (mm_rows 1) i = some r → ∃ h, mm_ok (mm_I 1) (mm_rows 1) i h r = true := by
  intro i r hr
  have e : mm_rows 1 = mm_r1 := rfl
  rw [e] at hr ⊢
  unfold mm_rw at hr
  have hd : i = 32 * (i / 32) + i % 32 := by omega
  generalize i / 32 = a at hr hd
  generalize i % 32 = b at hr hd
  subst hd
  match a with
  | 0 => exact mm_okc_at _ _ _ mm_k1_0 b r hr
  | a + 1 => exact absurd hr (by simp [mm_r1])
theorem mm_a2 : ∀ (i : Nat) (r : mm_R), mm_rw (mm_rows 2) i = some r → ∃ h, mm_ok (mm_I 2) (mm_rows 2) i h r = true := by
  intro i r hr
  have e : mm_rows 2 = mm_r2 := rfl
  rw [e] at hr ⊢
  unfold mm_rw at hr
  have hd : i = 32 * (i / 32) + i % 32 := by omega
  generalize i / 32 = a at hr hd
  generalize i % 32 = b at hr hd
  subst hd
  match a with
  | 0 => exact mm_okc_at _ _ _ mm_k2_0 b r hr
  | a + 1 => exact absurd hr (by simp [mm_r2])
theorem mm_a3 : ∀ (i : Nat) (r : mm_R), mm_rw (mm_rows 3) i = some r → ∃ h, mm_ok (mm_I 3) (mm_rows 3) i h r = true := by
  intro i r hr
  have e : mm_rows 3 = mm_r3 := rfl
  rw [e] at hr ⊢
  unfold mm_rw at hr
  have hd : i = 32 * (i / 32) + i % 32 := by omega
  generalize i / 32 = a at hr hd
  generalize i % 32 = b at hr hd
  subst hd
  match a with
  | 0 => exact mm_okc_at _ _ _ mm_k3_0 b r hr
  | a + 1 => exact absurd hr (by simp [mm_r3])
theorem mm_a4 : ∀ (i : Nat) (r : mm_R), mm_rw (mm_rows 4) i = some r → ∃ h, mm_ok (mm_I 4) (mm_rows 4) i h r = true := by
  intro i r hr
  have e : mm_rows 4 = mm_r4 := rfl
  rw [e] at hr ⊢
  unfold mm_rw at hr
  have hd : i = 32 * (i / 32) + i % 32 := by omega
  generalize i / 32 = a at hr hd
  generalize i % 32 = b at hr hd
  subst hd
  match a with
  | 0 => exact mm_okc_at _ _ _ mm_k4_0 b r hr
  | a + 1 => exact absurd hr (by simp [mm_r4])
theorem mm_a5 : ∀ (i : Nat) (r : mm_R), mm_rw (mm_rows 5) i = some r → ∃ h, mm_ok (mm_I 5) (mm_rows 5) i h r = true := by
  intro i r hr
  have e : mm_rows 5 = mm_r5 := rfl
  rw [e] at hr ⊢
  unfold mm_rw at hr
  have hd : i = 32 * (i / 32) + i % 32 := by omega
  generalize i / 32 = a at hr hd
  generalize i % 32 = b at hr hd
  subst hd
  match a with
  | 0 => exact mm_okc_at _ _ _ mm_k5_0 b r hr
  | 1 => exact mm_okc_at _ _ _ mm_k5_1 b r hr
  | a + 2 => exact absurd hr (by simp [mm_r5])
theorem mm_a6 : ∀ (i : Nat) (r : mm_R), mm_rw (mm_rows 6) i = some r → ∃ h, mm_ok (mm_I 6) (mm_rows 6) i h r = true := by
  intro i r hr
  have e : mm_rows 6 = mm_r6 := rfl
  rw [e] at hr ⊢
  unfold mm_rw at hr
  have hd : i = 32 * (i / 32) + i % 32 := by omega
  generalize i / 32 = a at hr hd
  generalize i % 32 = b at hr hd
  subst hd
  match a with
  | 0 => exact mm_okc_at _ _ _ mm_k6_0 b r hr
  | a + 1 => exact absurd hr (by simp [mm_r6])
theorem mm_a7 : ∀ (i : Nat) (r : mm_R), mm_rw (mm_rows 7) i = some r → ∃ h, mm_ok (mm_I 7) (mm_rows 7) i h r = true := by
  intro i r hr
  have e : mm_rows 7 = mm_r7 := rfl
  rw [e] at hr ⊢
  unfold mm_rw at hr
  have hd : i = 32 * (i / 32) + i % 32 := by omega
  generalize i / 32 = a at hr hd
  generalize i % 32 = b at hr hd
  subst hd
  match a with
  | 0 => exact mm_okc_at _ _ _ mm_k7_0 b r hr
  | a + 1 => exact absurd hr (by simp [mm_r7])
theorem mm_a8 : ∀ (i : Nat) (r : mm_R), mm_rw (mm_rows 8) i = some r → ∃ h, mm_ok (mm_I 8) (mm_rows 8) i h r = true := by
  intro i r hr
  have e : mm_rows 8 = mm_r8 := rfl
  rw [e] at hr ⊢
  unfold mm_rw at hr
  have hd : i = 32 * (i / 32) + i % 32 := by omega
  generalize i / 32 = a at hr hd
  generalize i % 32 = b at hr hd
  subst hd
  match a with
  | 0 => exact mm_okc_at _ _ _ mm_k8_0 b r hr
  | a + 1 => exact absurd hr (by simp [mm_r8])
theorem mm_a9 : ∀ (i : Nat) (r : mm_R), mm_rw (mm_rows 9) i = some r → ∃ h, mm_ok (mm_I 9) (mm_rows 9) i h r = true := by
  intro i r hr
  have e : mm_rows 9 = mm_r9 := rfl
  rw [e] at hr ⊢
  unfold mm_rw at hr
  have hd : i = 32 * (i / 32) + i % 32 := by omega
  generalize i / 32 = a at hr hd
  generalize i % 32 = b at hr hd
  subst hd
  match a with
  | 0 => exact mm_okc_at _ _ _ mm_k9_0 b r hr
  | a + 1 => exact absurd hr (by simp [mm_r9])
theorem mm_a10 : ∀ (i : Nat) (r : mm_R), mm_rw (mm_rows 10) i = some r → ∃ h, mm_ok (mm_I 10) (mm_rows 10) i h r = true := by
  intro i r hr
  have e : mm_rows 10 = mm_r10 := rfl
  rw [e] at hr ⊢
  unfold mm_rw at hr
  have hd : i = 32 * (i / 32) + i % 32 := by omega
  generalize i / 32 = a at hr hd
  generalize i % 32 = b at hr hd
  subst hd
  match a with
  | 0 => exact mm_okc_at _ _ _ mm_k10_0 b r hr
  | a + 1 => exact absurd hr (by simp [mm_r10])
theorem mm_a11 : ∀ (i : Nat) (r : mm_R), mm_rw (mm_rows 11) i = some r → ∃ h, mm_ok (mm_I 11) (mm_rows 11) i h r = true := by
  intro i r hr
  have e : mm_rows 11 = mm_r11 := rfl
  rw [e] at hr ⊢
  unfold mm_rw at hr
  have hd : i = 32 * (i / 32) + i % 32 := by omega
  generalize i / 32 = a at hr hd
  generalize i % 32 = b at hr hd
  subst hd
  match a with
  | 0 => exact mm_okc_at _ _ _ mm_k11_0 b r hr
  | a + 1 => exact absurd hr (by simp [mm_r11])
theorem mm_a12 : ∀ (i : Nat) (r : mm_R), mm_rw (mm_rows 12) i = some r → ∃ h, mm_ok (mm_I 12) (mm_rows 12) i h r = true := by
  intro i r hr
  have e : mm_rows 12 = mm_r12 := rfl
  rw [e] at hr ⊢
  unfold mm_rw at hr
  have hd : i = 32 * (i / 32) + i % 32 := by omega
  generalize i / 32 = a at hr hd
  generalize i % 32 = b at hr hd
  subst hd
  match a with
  | 0 => exact mm_okc_at _ _ _ mm_k12_0 b r hr
  | a + 1 => exact absurd hr (by simp [mm_r12])
theorem mm_a13 : ∀ (i : Nat) (r : mm_R), mm_rw (mm_rows 13) i = some r → ∃ h, mm_ok (mm_I 13) (mm_rows 13) i h r = true := by
  intro i r hr
  have e : mm_rows 13 = mm_r13 := rfl
  rw [e] at hr ⊢
  unfold mm_rw at hr
  have hd : i = 32 * (i / 32) + i % 32 := by omega
  generalize i / 32 = a at hr hd
  generalize i % 32 = b at hr hd
  subst hd
  match a with
  | 0 => exact mm_okc_at _ _ _ mm_k13_0 b r hr
  | a + 1 => exact absurd hr (by simp [mm_r13])
theorem mm_a14 : ∀ (i : Nat) (r : mm_R), mm_rw (mm_rows 14) i = some r → ∃ h, mm_ok (mm_I 14) (mm_rows 14) i h r = true := by
  intro i r hr
  have e : mm_rows 14 = mm_r14 := rfl
  rw [e] at hr ⊢
  unfold mm_rw at hr
  have hd : i = 32 * (i / 32) + i % 32 := by omega
  generalize i / 32 = a at hr hd
  generalize i % 32 = b at hr hd
  subst hd
  match a with
  | 0 => exact mm_okc_at _ _ _ mm_k14_0 b r hr
  | a + 1 => exact absurd hr (by simp [mm_r14])
theorem mm_a15 : ∀ (i : Nat) (r : mm_R), mm_rw (mm_rows 15) i = some r → ∃ h, mm_ok (mm_I 15) (mm_rows 15) i h r = true := by
  intro i r hr
  have e : mm_rows 15 = mm_r15 := rfl
  rw [e] at hr ⊢
  unfold mm_rw at hr
  have hd : i = 32 * (i / 32) + i % 32 := by omega
  generalize i / 32 = a at hr hd
  generalize i % 32 = b at hr hd
  subst hd
  match a with
  | 0 => exact mm_okc_at _ _ _ mm_k15_0 b r hr
  | a + 1 => exact absurd hr (by simp [mm_r15])
theorem mm_a16 : ∀ (i : Nat) (r : mm_R), mm_rw (mm_rows 16) i = some r → ∃ h, mm_ok (mm_I 16) (mm_rows 16) i h r = true := by
  intro i r hr
  have e : mm_rows 16 = mm_r16 := rfl
  rw [e] at hr ⊢
  unfold mm_rw at hr
  have hd : i = 32 * (i / 32) + i % 32 := by omega
  generalize i / 32 = a at hr hd
  generalize i % 32 = b at hr hd
  subst hd
  match a with
  | 0 => exact mm_okc_at _ _ _ mm_k16_0 b r hr
  | a + 1 => exact absurd hr (by simp [mm_r16])
theorem mm_a17 : ∀ (i : Nat) (r : mm_R), mm_rw (mm_rows 17) i = some r → ∃ h, mm_ok (mm_I 17) (mm_rows 17) i h r = true := by
  intro i r hr
  have e : mm_rows 17 = mm_r17 := rfl
  rw [e] at hr ⊢
  unfold mm_rw at hr
  have hd : i = 32 * (i / 32) + i % 32 := by omega
  generalize i / 32 = a at hr hd
  generalize i % 32 = b at hr hd
  subst hd
  match a with
  | 0 => exact mm_okc_at _ _ _ mm_k17_0 b r hr
  | a + 1 => exact absurd hr (by simp [mm_r17])
theorem mm_a18 : ∀ (i : Nat) (r : mm_R), mm_rw (mm_rows 18) i = some r → ∃ h, mm_ok (mm_I 18) (mm_rows 18) i h r = true := by
  intro i r hr
  have e : mm_rows 18 = mm_r18 := rfl
  rw [e] at hr ⊢
  unfold mm_rw at hr
  have hd : i = 32 * (i / 32) + i % 32 := by omega
  generalize i / 32 = a at hr hd
  generalize i % 32 = b at hr hd
  subst hd
  match a with
  | 0 => exact mm_okc_at _ _ _ mm_k18_0 b r hr
  | a + 1 => exact absurd hr (by simp [mm_r18])
theorem mm_a19 : ∀ (i : Nat) (r : mm_R), mm_rw (mm_rows 19) i = some r → ∃ h, mm_ok (mm_I 19) (mm_rows 19) i h r = true := by
  intro i r hr
  have e : mm_rows 19 = mm_r19 := rfl
  rw [e] at hr ⊢
  unfold mm_rw at hr
  have hd : i = 32 * (i / 32) + i % 32 := by omega
  generalize i / 32 = a at hr hd
  generalize i % 32 = b at hr hd
  subst hd
  match a with
  | 0 => exact mm_okc_at _ _ _ mm_k19_0 b r hr
  | a + 1 => exact absurd hr (by simp [mm_r19])
theorem mm_a20 : ∀ (i : Nat) (r : mm_R), mm_rw (mm_rows 20) i = some r → ∃ h, mm_ok (mm_I 20) (mm_rows 20) i h r = true := by
  intro i r hr
  have e : mm_rows 20 = mm_r20 := rfl
  rw [e] at hr ⊢
  unfold mm_rw at hr
  have hd : i = 32 * (i / 32) + i % 32 := by omega
  generalize i / 32 = a at hr hd
  generalize i % 32 = b at hr hd
  subst hd
  match a with
  | 0 => exact mm_okc_at _ _ _ mm_k20_0 b r hr
  | a + 1 => exact absurd hr (by simp [mm_r20])
theorem mm_a21 : ∀ (i : Nat) (r : mm_R), mm_rw (mm_rows 21) i = some r → ∃ h, mm_ok (mm_I 21) (mm_rows 21) i h r = true := by
  intro i r hr
  have e : mm_rows 21 = mm_r21 := rfl
  rw [e] at hr ⊢
  unfold mm_rw at hr
  have hd : i = 32 * (i / 32) + i % 32 := by omega
  generalize i / 32 = a at hr hd
  generalize i % 32 = b at hr hd
  subst hd
  match a with
  | 0 => exact mm_okc_at _ _ _ mm_k21_0 b r hr
  | 1 => exact mm_okc_at _ _ _ mm_k21_1 b r hr
  | 2 => exact mm_okc_at _ _ _ mm_k21_2 b r hr
  | a + 3 => exact absurd hr (by simp [mm_r21])
theorem mm_a22 : ∀ (i : Nat) (r : mm_R), mm_rw (mm_rows 22) i = some r → ∃ h, mm_ok (mm_I 22) (mm_rows 22) i h r = true := by
  intro i r hr
  have e : mm_rows 22 = mm_r22 := rfl
  rw [e] at hr ⊢
  unfold mm_rw at hr
  have hd : i = 32 * (i / 32) + i % 32 := by omega
  generalize i / 32 = a at hr hd
  generalize i % 32 = b at hr hd
  subst hd
  match a with
  | 0 => exact mm_okc_at _ _ _ mm_k22_0 b r hr
  | 1 => exact mm_okc_at _ _ _ mm_k22_1 b r hr
  | 2 => exact mm_okc_at _ _ _ mm_k22_2 b r hr
  | 3 => exact mm_okc_at _ _ _ mm_k22_3 b r hr
  | a + 4 => exact absurd hr (by simp [mm_r22])
theorem mm_a23 : ∀ (i : Nat) (r : mm_R), mm_rw (mm_rows 23) i = some r → ∃ h, mm_ok (mm_I 23) (mm_rows 23) i h r = true := by
  intro i r hr
  have e : mm_rows 23 = mm_r23 := rfl
  rw [e] at hr ⊢
  unfold mm_rw at hr
  have hd : i = 32 * (i / 32) + i % 32 := by omega
  generalize i / 32 = a at hr hd
  generalize i % 32 = b at hr hd
  subst hd
  match a with
  | 0 => exact mm_okc_at _ _ _ mm_k23_0 b r hr
  | a + 1 => exact absurd hr (by simp [mm_r23])
theorem mm_a24 : ∀ (i : Nat) (r : mm_R), mm_rw (mm_rows 24) i = some r → ∃ h, mm_ok (mm_I 24) (mm_rows 24) i h r = true := by
  intro i r hr
  have e : mm_rows 24 = mm_r24 := rfl
  rw [e] at hr ⊢
  unfold mm_rw at hr
  have hd : i = 32 * (i / 32) + i % 32 := by omega
  generalize i / 32 = a at hr hd
  generalize i % 32 = b at hr hd
  subst hd
  match a with
  | 0 => exact mm_okc_at _ _ _ mm_k24_0 b r hr
  | a + 1 => exact absurd hr (by simp [mm_r24])
theorem mm_a25 : ∀ (i : Nat) (r : mm_R), mm_rw (mm_rows 25) i = some r → ∃ h, mm_ok (mm_I 25) (mm_rows 25) i h r = true := by
  intro i r hr
  have e : mm_rows 25 = mm_r25 := rfl
  rw [e] at hr ⊢
  unfold mm_rw at hr
  have hd : i = 32 * (i / 32) + i % 32 := by omega
  generalize i / 32 = a at hr hd
  generalize i % 32 = b at hr hd
  subst hd
  match a with
  | 0 => exact mm_okc_at _ _ _ mm_k25_0 b r hr
  | a + 1 => exact absurd hr (by simp [mm_r25])
theorem mm_a26 : ∀ (i : Nat) (r : mm_R), mm_rw (mm_rows 26) i = some r → ∃ h, mm_ok (mm_I 26) (mm_rows 26) i h r = true := by
  intro i r hr
  have e : mm_rows 26 = mm_r26 := rfl
  rw [e] at hr ⊢
  unfold mm_rw at hr
  have hd : i = 32 * (i / 32) + i % 32 := by omega
  generalize i / 32 = a at hr hd
  generalize i % 32 = b at hr hd
  subst hd
  match a with
  | 0 => exact mm_okc_at _ _ _ mm_k26_0 b r hr
  | 1 => exact mm_okc_at _ _ _ mm_k26_1 b r hr
  | a + 2 => exact absurd hr (by simp [mm_r26])
theorem mm_a27 : ∀ (i : Nat) (r : mm_R), mm_rw (mm_rows 27) i = some r → ∃ h, mm_ok (mm_I 27) (mm_rows 27) i h r = true := by
  intro i r hr
  have e : mm_rows 27 = mm_r27 := rfl
  rw [e] at hr ⊢
  unfold mm_rw at hr
  have hd : i = 32 * (i / 32) + i % 32 := by omega
  generalize i / 32 = a at hr hd
  generalize i % 32 = b at hr hd
  subst hd
  match a with
  | 0 => exact mm_okc_at _ _ _ mm_k27_0 b r hr
  | 1 => exact mm_okc_at _ _ _ mm_k27_1 b r hr
  | a + 2 => exact absurd hr (by simp [mm_r27])
theorem mm_a28 : ∀ (i : Nat) (r : mm_R), mm_rw (mm_rows 28) i = some r → ∃ h, mm_ok (mm_I 28) (mm_rows 28) i h r = true := by
  intro i r hr
  have e : mm_rows 28 = mm_r28 := rfl
  rw [e] at hr ⊢
  unfold mm_rw at hr
  have hd : i = 32 * (i / 32) + i % 32 := by omega
  generalize i / 32 = a at hr hd
  generalize i % 32 = b at hr hd
  subst hd
  match a with
  | 0 => exact mm_okc_at _ _ _ mm_k28_0 b r hr
  | a + 1 => exact absurd hr (by simp [mm_r28])
theorem mm_a29 : ∀ (i : Nat) (r : mm_R), mm_rw (mm_rows 29) i = some r → ∃ h, mm_ok (mm_I 29) (mm_rows 29) i h r = true := by
  intro i r hr
  have e : mm_rows 29 = mm_r29 := rfl
  rw [e] at hr ⊢
  unfold mm_rw at hr
  have hd : i = 32 * (i / 32) + i % 32 := by omega
  generalize i / 32 = a at hr hd
  generalize i % 32 = b at hr hd
  subst hd
  match a with
  | 0 => exact mm_okc_at _ _ _ mm_k29_0 b r hr
  | a + 1 => exact absurd hr (by simp [mm_r29])
theorem mm_a30 : ∀ (i : Nat) (r : mm_R), mm_rw (mm_rows 30) i = some r → ∃ h, mm_ok (mm_I 30) (mm_rows 30) i h r = true := by
  intro i r hr
  have e : mm_rows 30 = mm_r30 := rfl
  rw [e] at hr ⊢
  unfold mm_rw at hr
  have hd : i = 32 * (i / 32) + i % 32 := by omega
  generalize i / 32 = a at hr hd
  generalize i % 32 = b at hr hd
  subst hd
  match a with
  | 0 => exact mm_okc_at _ _ _ mm_k30_0 b r hr
  | 1 => exact mm_okc_at _ _ _ mm_k30_1 b r hr
  | 2 => exact mm_okc_at _ _ _ mm_k30_2 b r hr
  | a + 3 => exact absurd hr (by simp [mm_r30])
theorem mm_a31 : ∀ (i : Nat) (r : mm_R), mm_rw (mm_rows 31) i = some r → ∃ h, mm_ok (mm_I 31) (mm_rows 31) i h r = true := by
  intro i r hr
  have e : mm_rows 31 = mm_r31 := rfl
  rw [e] at hr ⊢
  unfold mm_rw at hr
  have hd : i = 32 * (i / 32) + i % 32 := by omega
  generalize i / 32 = a at hr hd
  generalize i % 32 = b at hr hd
  subst hd
  match a with
  | 0 => exact mm_okc_at _ _ _ mm_k31_0 b r hr
  | 1 => exact mm_okc_at _ _ _ mm_k31_1 b r hr
  | a + 2 => exact absurd hr (by simp [mm_r31])
theorem mm_a32 : ∀ (i : Nat) (r : mm_R), mm_rw (mm_rows 32) i = some r → ∃ h, mm_ok (mm_I 32) (mm_rows 32) i h r = true := by
  intro i r hr
  have e : mm_rows 32 = mm_r32 := rfl
  rw [e] at hr ⊢
  unfold mm_rw at hr
  have hd : i = 32 * (i / 32) + i % 32 := by omega
  generalize i / 32 = a at hr hd
  generalize i % 32 = b at hr hd
  subst hd
  match a with
  | 0 => exact mm_okc_at _ _ _ mm_k32_0 b r hr
  | a + 1 => exact absurd hr (by simp [mm_r32])
theorem mm_a33 : ∀ (i : Nat) (r : mm_R), mm_rw (mm_rows 33) i = some r → ∃ h, mm_ok (mm_I 33) (mm_rows 33) i h r = true := by
  intro i r hr
  have e : mm_rows 33 = mm_r33 := rfl
  rw [e] at hr ⊢
  unfold mm_rw at hr
  have hd : i = 32 * (i / 32) + i % 32 := by omega
  generalize i / 32 = a at hr hd
  generalize i % 32 = b at hr hd
  subst hd
  match a with
  | 0 => exact mm_okc_at _ _ _ mm_k33_0 b r hr
  | 1 => exact mm_okc_at _ _ _ mm_k33_1 b r hr
  | a + 2 => exact absurd hr (by simp [mm_r33])
theorem mm_a34 : ∀ (i : Nat) (r : mm_R), mm_rw (mm_rows 34) i = some r → ∃ h, mm_ok (mm_I 34) (mm_rows 34) i h r = true := by
  intro i r hr
  have e : mm_rows 34 = mm_r34 := rfl
  rw [e] at hr ⊢
  unfold mm_rw at hr
  have hd : i = 32 * (i / 32) + i % 32 := by omega
  generalize i / 32 = a at hr hd
  generalize i % 32 = b at hr hd
  subst hd
  match a with
  | 0 => exact mm_okc_at _ _ _ mm_k34_0 b r hr
  | a + 1 => exact absurd hr (by simp [mm_r34])
theorem mm_a35 : ∀ (i : Nat) (r : mm_R), mm_rw (mm_rows 35) i = some r → ∃ h, mm_ok (mm_I 35) (mm_rows 35) i h r = true := by
  intro i r hr
  have e : mm_rows 35 = mm_r35 := rfl
  rw [e] at hr ⊢
  unfold mm_rw at hr
  have hd : i = 32 * (i / 32) + i % 32 := by omega
  generalize i / 32 = a at hr hd
  generalize i % 32 = b at hr hd
  subst hd
  match a with
  | 0 => exact mm_okc_at _ _ _ mm_k35_0 b r hr
  | a + 1 => exact absurd hr (by simp [mm_r35])
theorem mm_a36 : ∀ (i : Nat) (r : mm_R), mm_rw (mm_rows 36) i = some r → ∃ h, mm_ok (mm_I 36) (mm_rows 36) i h r = true := by
  intro i r hr
  have e : mm_rows 36 = mm_r36 := rfl
  rw [e] at hr ⊢
  unfold mm_rw at hr
  have hd : i = 32 * (i / 32) + i % 32 := by omega
  generalize i / 32 = a at hr hd
  generalize i % 32 = b at hr hd
  subst hd
  match a with
  | 0 => exact mm_okc_at _ _ _ mm_k36_0 b r hr
  | 1 => exact mm_okc_at _ _ _ mm_k36_1 b r hr
  | a + 2 => exact absurd hr (by simp [mm_r36])
theorem mm_a37 : ∀ (i : Nat) (r : mm_R), mm_rw (mm_rows 37) i = some r → ∃ h, mm_ok (mm_I 37) (mm_rows 37) i h r = true := by
  intro i r hr
  have e : mm_rows 37 = mm_r37 := rfl
  rw [e] at hr ⊢
  unfold mm_rw at hr
  have hd : i = 32 * (i / 32) + i % 32 := by omega
  generalize i / 32 = a at hr hd
  generalize i % 32 = b at hr hd
  subst hd
  match a with
  | 0 => exact mm_okc_at _ _ _ mm_k37_0 b r hr
  | a + 1 => exact absurd hr (by simp [mm_r37])
theorem mm_a38 : ∀ (i : Nat) (r : mm_R), mm_rw (mm_rows 38) i = some r → ∃ h, mm_ok (mm_I 38) (mm_rows 38) i h r = true := by
  intro i r hr
  have e : mm_rows 38 = mm_r38 := rfl
  rw [e] at hr ⊢
  unfold mm_rw at hr
  have hd : i = 32 * (i / 32) + i % 32 := by omega
  generalize i / 32 = a at hr hd
  generalize i % 32 = b at hr hd
  subst hd
  match a with
  | 0 => exact mm_okc_at _ _ _ mm_k38_0 b r hr
  | 1 => exact mm_okc_at _ _ _ mm_k38_1 b r hr
  | 2 => exact mm_okc_at _ _ _ mm_k38_2 b r hr
  | a + 3 => exact absurd hr (by simp [mm_r38])
theorem mm_a39 : ∀ (i : Nat) (r : mm_R), mm_rw (mm_rows 39) i = some r → ∃ h, mm_ok (mm_I 39) (mm_rows 39) i h r = true := by
  intro i r hr
  have e : mm_rows 39 = mm_r39 := rfl
  rw [e] at hr ⊢
  unfold mm_rw at hr
  have hd : i = 32 * (i / 32) + i % 32 := by omega
  generalize i / 32 = a at hr hd
  generalize i % 32 = b at hr hd
  subst hd
  match a with
  | 0 => exact mm_okc_at _ _ _ mm_k39_0 b r hr
  | a + 1 => exact absurd hr (by simp [mm_r39])
theorem mm_a40 : ∀ (i : Nat) (r : mm_R), mm_rw (mm_rows 40) i = some r → ∃ h, mm_ok (mm_I 40) (mm_rows 40) i h r = true := by
  intro i r hr
  have e : mm_rows 40 = mm_r40 := rfl
  rw [e] at hr ⊢
  unfold mm_rw at hr
  have hd : i = 32 * (i / 32) + i % 32 := by omega
  generalize i / 32 = a at hr hd
  generalize i % 32 = b at hr hd
  subst hd
  match a with
  | 0 => exact mm_okc_at _ _ _ mm_k40_0 b r hr
  | a + 1 => exact absurd hr (by simp [mm_r40])
theorem mm_a41 : ∀ (i : Nat) (r : mm_R), mm_rw (mm_rows 41) i = some r → ∃ h, mm_ok (mm_I 41) (mm_rows 41) i h r = true := by
  intro i r hr
  have e : mm_rows 41 = mm_r41 := rfl
  rw [e] at hr ⊢
  unfold mm_rw at hr
  have hd : i = 32 * (i / 32) + i % 32 := by omega
  generalize i / 32 = a at hr hd
  generalize i % 32 = b at hr hd
  subst hd
  match a with
  | 0 => exact mm_okc_at _ _ _ mm_k41_0 b r hr
  | a + 1 => exact absurd hr (by simp [mm_r41])
theorem mm_a42 : ∀ (i : Nat) (r : mm_R), mm_rw (mm_rows 42) i = some r → ∃ h, mm_ok (mm_I 42) (mm_rows 42) i h r = true := by
  intro i r hr
  have e : mm_rows 42 = mm_r42 := rfl
  rw [e] at hr ⊢
  unfold mm_rw at hr
  have hd : i = 32 * (i / 32) + i % 32 := by omega
  generalize i / 32 = a at hr hd
  generalize i % 32 = b at hr hd
  subst hd
  match a with
  | 0 => exact mm_okc_at _ _ _ mm_k42_0 b r hr
  | a + 1 => exact absurd hr (by simp [mm_r42])
theorem mm_a43 : ∀ (i : Nat) (r : mm_R), mm_rw (mm_rows 43) i = some r → ∃ h, mm_ok (mm_I 43) (mm_rows 43) i h r = true := by
  intro i r hr
  have e : mm_rows 43 = mm_r43 := rfl
  rw [e] at hr ⊢
  unfold mm_rw at hr
  have hd : i = 32 * (i / 32) + i % 32 := by omega
  generalize i / 32 = a at hr hd
  generalize i % 32 = b at hr hd
  subst hd
  match a with
  | 0 => exact mm_okc_at _ _ _ mm_k43_0 b r hr
  | a + 1 => exact absurd hr (by simp [mm_r43])
theorem mm_a44 : ∀ (i : Nat) (r : mm_R), mm_rw (mm_rows 44) i = some r → ∃ h, mm_ok (mm_I 44) (mm_rows 44) i h r = true := by
  intro i r hr
  have e : mm_rows 44 = mm_r44 := rfl
  rw [e] at hr ⊢
  unfold mm_rw at hr
  have hd : i = 32 * (i / 32) + i % 32 := by omega
  generalize i / 32 = a at hr hd
  generalize i % 32 = b at hr hd
  subst hd
  match a with
  | 0 => exact mm_okc_at _ _ _ mm_k44_0 b r hr
  | 1 => exact mm_okc_at _ _ _ mm_k44_1 b r hr
  | a + 2 => exact absurd hr (by simp [mm_r44])
theorem mm_a45 : ∀ (i : Nat) (r : mm_R), mm_rw (mm_rows 45) i = some r → ∃ h, mm_ok (mm_I 45) (mm_rows 45) i h r = true := by
  intro i r hr
  have e : mm_rows 45 = mm_r45 := rfl
  rw [e] at hr ⊢
  unfold mm_rw at hr
  have hd : i = 32 * (i / 32) + i % 32 := by omega
  generalize i / 32 = a at hr hd
  generalize i % 32 = b at hr hd
  subst hd
  match a with
  | 0 => exact mm_okc_at _ _ _ mm_k45_0 b r hr
  | a + 1 => exact absurd hr (by simp [mm_r45])
theorem mm_a46 : ∀ (i : Nat) (r : mm_R), mm_rw (mm_rows 46) i = some r → ∃ h, mm_ok (mm_I 46) (mm_rows 46) i h r = true := by
  intro i r hr
  have e : mm_rows 46 = mm_r46 := rfl
  rw [e] at hr ⊢
  unfold mm_rw at hr
  have hd : i = 32 * (i / 32) + i % 32 := by omega
  generalize i / 32 = a at hr hd
  generalize i % 32 = b at hr hd
  subst hd
  match a with
  | 0 => exact mm_okc_at _ _ _ mm_k46_0 b r hr
  | a + 1 => exact absurd hr (by simp [mm_r46])
theorem mm_a47 : ∀ (i : Nat) (r : mm_R), mm_rw (mm_rows 47) i = some r → ∃ h, mm_ok (mm_I 47) (mm_rows 47) i h r = true := by
  intro i r hr
  have e : mm_rows 47 = mm_r47 := rfl
  rw [e] at hr ⊢
  unfold mm_rw at hr
  have hd : i = 32 * (i / 32) + i % 32 := by omega
  generalize i / 32 = a at hr hd
  generalize i % 32 = b at hr hd
  subst hd
  match a with
  | 0 => exact mm_okc_at _ _ _ mm_k47_0 b r hr
  | a + 1 => exact absurd hr (by simp [mm_r47])
theorem mm_a48 : ∀ (i : Nat) (r : mm_R), mm_rw (mm_rows 48) i = some r → ∃ h, mm_ok (mm_I 48) (mm_rows 48) i h r = true := by
  intro i r hr
  have e : mm_rows 48 = mm_r48 := rfl
  rw [e] at hr ⊢
  unfold mm_rw at hr
  have hd : i = 32 * (i / 32) + i % 32 := by omega
  generalize i / 32 = a at hr hd
  generalize i % 32 = b at hr hd
  subst hd
  match a with
  | 0 => exact mm_okc_at _ _ _ mm_k48_0 b r hr
  | a + 1 => exact absurd hr (by simp [mm_r48])
theorem mm_a49 : ∀ (i : Nat) (r : mm_R), mm_rw (mm_rows 49) i = some r → ∃ h, mm_ok (mm_I 49) (mm_rows 49) i h r = true := by
  intro i r hr
  have e : mm_rows 49 = mm_r49 := rfl
  rw [e] at hr ⊢
  unfold mm_rw at hr
  have hd : i = 32 * (i / 32) + i % 32 := by omega
  generalize i / 32 = a at hr hd
  generalize i % 32 = b at hr hd
  subst hd
  match a with
  | 0 => exact mm_okc_at _ _ _ mm_k49_0 b r hr
  | a + 1 => exact absurd hr (by simp [mm_r49])
theorem mm_a50 : ∀ (i : Nat) (r : mm_R), mm_rw (mm_rows 50) i = some r → ∃ h, mm_ok (mm_I 50) (mm_rows 50) i h r = true := by
  intro i r hr
  have e : mm_rows 50 = mm_r50 := rfl
  rw [e] at hr ⊢
  unfold mm_rw at hr
  have hd : i = 32 * (i / 32) + i % 32 := by omega
  generalize i / 32 = a at hr hd
  generalize i % 32 = b at hr hd
  subst hd
  match a with
  | 0 => exact mm_okc_at _ _ _ mm_k50_0 b r hr
  | 1 => exact mm_okc_at _ _ _ mm_k50_1 b r hr
  | 2 => exact mm_okc_at _ _ _ mm_k50_2 b r hr
  | a + 3 => exact absurd hr (by simp [mm_r50])
theorem mm_a51 : ∀ (i : Nat) (r : mm_R), mm_rw (mm_rows 51) i = some r → ∃ h, mm_ok (mm_I 51) (mm_rows 51) i h r = true := by
  intro i r hr
  have e : mm_rows 51 = mm_r51 := rfl
  rw [e] at hr ⊢
  unfold mm_rw at hr
  have hd : i = 32 * (i / 32) + i % 32 := by omega
  generalize i / 32 = a at hr hd
  generalize i % 32 = b at hr hd
  subst hd
  match a with
  | 0 => exact mm_okc_at _ _ _ mm_k51_0 b r hr
  | a + 1 => exact absurd hr (by simp [mm_r51])
theorem mm_a52 : ∀ (i : Nat) (r : mm_R), mm_rw (mm_rows 52) i = some r → ∃ h, mm_ok (mm_I 52) (mm_rows 52) i h r = true := by
  intro i r hr
  have e : mm_rows 52 = mm_r52 := rfl
  rw [e] at hr ⊢
  unfold mm_rw at hr
  have hd : i = 32 * (i / 32) + i % 32 := by omega
  generalize i / 32 = a at hr hd
  generalize i % 32 = b at hr hd
  subst hd
  match a with
  | 0 => exact mm_okc_at _ _ _ mm_k52_0 b r hr
  | a + 1 => exact absurd hr (by simp [mm_r52])
theorem mm_a53 : ∀ (i : Nat) (r : mm_R), mm_rw (mm_rows 53) i = some r → ∃ h, mm_ok (mm_I 53) (mm_rows 53) i h r = true := by
  intro i r hr
  have e : mm_rows 53 = mm_r53 := rfl
  rw [e] at hr ⊢
  unfold mm_rw at hr
  have hd : i = 32 * (i / 32) + i % 32 := by omega
  generalize i / 32 = a at hr hd
  generalize i % 32 = b at hr hd
  subst hd
  match a with
  | 0 => exact mm_okc_at _ _ _ mm_k53_0 b r hr
  | a + 1 => exact absurd hr (by simp [mm_r53])
theorem mm_a54 : ∀ (i : Nat) (r : mm_R), mm_rw (mm_rows 54) i = some r → ∃ h, mm_ok (mm_I 54) (mm_rows 54) i h r = true := by
  intro i r hr
  have e : mm_rows 54 = mm_r54 := rfl
  rw [e] at hr ⊢
  unfold mm_rw at hr
  have hd : i = 32 * (i / 32) + i % 32 := by omega
  generalize i / 32 = a at hr hd
  generalize i % 32 = b at hr hd
  subst hd
  match a with
  | 0 => exact mm_okc_at _ _ _ mm_k54_0 b r hr
  | a + 1 => exact absurd hr (by simp [mm_r54])
theorem mm_a55 : ∀ (i : Nat) (r : mm_R), mm_rw (mm_rows 55) i = some r → ∃ h, mm_ok (mm_I 55) (mm_rows 55) i h r = true := by
  intro i r hr
  have e : mm_rows 55 = mm_r55 := rfl
  rw [e] at hr ⊢
  unfold mm_rw at hr
  have hd : i = 32 * (i / 32) + i % 32 := by omega
  generalize i / 32 = a at hr hd
  generalize i % 32 = b at hr hd
  subst hd
  match a with
  | 0 => exact mm_okc_at _ _ _ mm_k55_0 b r hr
  | a + 1 => exact absurd hr (by simp [mm_r55])
theorem mm_a56 : ∀ (i : Nat) (r : mm_R), mm_rw (mm_rows 56) i = some r → ∃ h, mm_ok (mm_I 56) (mm_rows 56) i h r = true := by
  intro i r hr
  have e : mm_rows 56 = mm_r56 := rfl
  rw [e] at hr ⊢
  unfold mm_rw at hr
  have hd : i = 32 * (i / 32) + i % 32 := by omega
  generalize i / 32 = a at hr hd
  generalize i % 32 = b at hr hd
  subst hd
  match a with
  | 0 => exact mm_okc_at _ _ _ mm_k56_0 b r hr
  | a + 1 => exact absurd hr (by simp [mm_r56])
theorem mm_a57 : ∀ (i : Nat) (r : mm_R), mm_rw (mm_rows 57) i = some r → ∃ h, mm_ok (mm_I 57) (mm_rows 57) i h r = true := by
  intro i r hr
  have e : mm_rows 57 = mm_r57 := rfl
  rw [e] at hr ⊢
  unfold mm_rw at hr
  have hd : i = 32 * (i / 32) + i % 32 := by omega
  generalize i / 32 = a at hr hd
  generalize i % 32 = b at hr hd
  subst hd
  match a with
  | 0 => exact mm_okc_at _ _ _ mm_k57_0 b r hr
  | 1 => exact mm_okc_at _ _ _ mm_k57_1 b r hr
  | a + 2 => exact absurd hr (by simp [mm_r57])
theorem mm_a58 : ∀ (i : Nat) (r : mm_R), mm_rw (mm_rows 58) i = some r → ∃ h, mm_ok (mm_I 58) (mm_rows 58) i h r = true := by
  intro i r hr
  have e : mm_rows 58 = mm_r58 := rfl
  rw [e] at hr ⊢
  unfold mm_rw at hr
  have hd : i = 32 * (i / 32) + i % 32 := by omega
  generalize i / 32 = a at hr hd
  generalize i % 32 = b at hr hd
  subst hd
  match a with
  | 0 => exact mm_okc_at _ _ _ mm_k58_0 b r hr
  | 1 => exact mm_okc_at _ _ _ mm_k58_1 b r hr
  | a + 2 => exact absurd hr (by simp [mm_r58])
theorem mm_a59 : ∀ (i : Nat) (r : mm_R), mm_rw (mm_rows 59) i = some r → ∃ h, mm_ok (mm_I 59) (mm_rows 59) i h r = true := by
  intro i r hr
  have e : mm_rows 59 = mm_r59 := rfl
  rw [e] at hr ⊢
  unfold mm_rw at hr
  have hd : i = 32 * (i / 32) + i % 32 := by omega
  generalize i / 32 = a at hr hd
  generalize i % 32 = b at hr hd
  subst hd
  match a with
  | 0 => exact mm_okc_at _ _ _ mm_k59_0 b r hr
  | a + 1 => exact absurd hr (by simp [mm_r59])
theorem mm_a60 : ∀ (i : Nat) (r : mm_R), mm_rw (mm_rows 60) i = some r → ∃ h, mm_ok (mm_I 60) (mm_rows 60) i h r = true := by
  intro i r hr
  have e : mm_rows 60 = mm_r60 := rfl
  rw [e] at hr ⊢
  unfold mm_rw at hr
  have hd : i = 32 * (i / 32) + i % 32 := by omega
  generalize i / 32 = a at hr hd
  generalize i % 32 = b at hr hd
  subst hd
  match a with
  | 0 => exact mm_okc_at _ _ _ mm_k60_0 b r hr
  | a + 1 => exact absurd hr (by simp [mm_r60])
theorem mm_a61 : ∀ (i : Nat) (r : mm_R), mm_rw (mm_rows 61) i = some r → ∃ h, mm_ok (mm_I 61) (mm_rows 61) i h r = true := by
  intro i r hr
  have e : mm_rows 61 = mm_r61 := rfl
  rw [e] at hr ⊢
  unfold mm_rw at hr
  have hd : i = 32 * (i / 32) + i % 32 := by omega
  generalize i / 32 = a at hr hd
  generalize i % 32 = b at hr hd
  subst hd
  match a with
  | 0 => exact mm_okc_at _ _ _ mm_k61_0 b r hr
  | a + 1 => exact absurd hr (by simp [mm_r61])
theorem mm_a62 : ∀ (i : Nat) (r : mm_R), mm_rw (mm_rows 62) i = some r → ∃ h, mm_ok (mm_I 62) (mm_rows 62) i h r = true := by
  intro i r hr
  have e : mm_rows 62 = mm_r62 := rfl
  rw [e] at hr ⊢
  unfold mm_rw at hr
  have hd : i = 32 * (i / 32) + i % 32 := by omega
  generalize i / 32 = a at hr hd
  generalize i % 32 = b at hr hd
  subst hd
  match a with
  | 0 => exact mm_okc_at _ _ _ mm_k62_0 b r hr
  | a + 1 => exact absurd hr (by simp [mm_r62])
theorem mm_a63 : ∀ (i : Nat) (r : mm_R), mm_rw (mm_rows 63) i = some r → ∃ h, mm_ok (mm_I 63) (mm_rows 63) i h r = true := by
  intro i r hr
  have e : mm_rows 63 = mm_r63 := rfl
  rw [e] at hr ⊢
  unfold mm_rw at hr
  have hd : i = 32 * (i / 32) + i % 32 := by omega
  generalize i / 32 = a at hr hd
  generalize i % 32 = b at hr hd
  subst hd
  match a with
  | 0 => exact mm_okc_at _ _ _ mm_k63_0 b r hr
  | 1 => exact mm_okc_at _ _ _ mm_k63_1 b r hr
  | a + 2 => exact absurd hr (by simp [mm_r63])
theorem mm_a64 : ∀ (i : Nat) (r : mm_R), mm_rw (mm_rows 64) i = some r → ∃ h, mm_ok (mm_I 64) (mm_rows 64) i h r = true := by
  intro i r hr
  have e : mm_rows 64 = mm_r64 := rfl
  rw [e] at hr ⊢
  unfold mm_rw at hr
  have hd : i = 32 * (i / 32) + i % 32 := by omega
  generalize i / 32 = a at hr hd
  generalize i % 32 = b at hr hd
  subst hd
  match a with
  | 0 => exact mm_okc_at _ _ _ mm_k64_0 b r hr
  | 1 => exact mm_okc_at _ _ _ mm_k64_1 b r hr
  | a + 2 => exact absurd hr (by simp [mm_r64])
theorem mm_a65 : ∀ (i : Nat) (r : mm_R), mm_rw (mm_rows 65) i = some r → ∃ h, mm_ok (mm_I 65) (mm_rows 65) i h r = true := by
  intro i r hr
  have e : mm_rows 65 = mm_r65 := rfl
  rw [e] at hr ⊢
  unfold mm_rw at hr
  have hd : i = 32 * (i / 32) + i % 32 := by omega
  generalize i / 32 = a at hr hd
  generalize i % 32 = b at hr hd
  subst hd
  match a with
  | 0 => exact mm_okc_at _ _ _ mm_k65_0 b r hr
  | 1 => exact mm_okc_at _ _ _ mm_k65_1 b r hr
  | a + 2 => exact absurd hr (by simp [mm_r65])
theorem mm_a66 : ∀ (i : Nat) (r : mm_R), mm_rw (mm_rows 66) i = some r → ∃ h, mm_ok (mm_I 66) (mm_rows 66) i h r = true := by
  intro i r hr
  have e : mm_rows 66 = mm_r66 := rfl
  rw [e] at hr ⊢
  unfold mm_rw at hr
  have hd : i = 32 * (i / 32) + i % 32 := by omega
  generalize i / 32 = a at hr hd
  generalize i % 32 = b at hr hd
  subst hd
  match a with
  | 0 => exact mm_okc_at _ _ _ mm_k66_0 b r hr
  | 1 => exact mm_okc_at _ _ _ mm_k66_1 b r hr
  | a + 2 => exact absurd hr (by simp [mm_r66])
theorem mm_a67 : ∀ (i : Nat) (r : mm_R), mm_rw (mm_rows 67) i = some r → ∃ h, mm_ok (mm_I 67) (mm_rows 67) i h r = true := by
  intro i r hr
  have e : mm_rows 67 = mm_r67 := rfl
  rw [e] at hr ⊢
  unfold mm_rw at hr
  have hd : i = 32 * (i / 32) + i % 32 := by omega
  generalize i / 32 = a at hr hd
  generalize i % 32 = b at hr hd
  subst hd
  match a with
  | 0 => exact mm_okc_at _ _ _ mm_k67_0 b r hr
  | 1 => exact mm_okc_at _ _ _ mm_k67_1 b r hr
  | a + 2 => exact absurd hr (by simp [mm_r67])
theorem mm_a68 : ∀ (i : Nat) (r : mm_R), mm_rw (mm_rows 68) i = some r → ∃ h, mm_ok (mm_I 68) (mm_rows 68) i h r = true := by
  intro i r hr
  have e : mm_rows 68 = mm_r68 := rfl
  rw [e] at hr ⊢
  unfold mm_rw at hr
  have hd : i = 32 * (i / 32) + i % 32 := by omega
  generalize i / 32 = a at hr hd
  generalize i % 32 = b at hr hd
  subst hd
  match a with
  | 0 => exact mm_okc_at _ _ _ mm_k68_0 b r hr
  | a + 1 => exact absurd hr (by simp [mm_r68])
theorem mm_a69 : ∀ (i : Nat) (r : mm_R), mm_rw (mm_rows 69) i = some r → ∃ h, mm_ok (mm_I 69) (mm_rows 69) i h r = true := by
  intro i r hr
  have e : mm_rows 69 = mm_r69 := rfl
  rw [e] at hr ⊢
  unfold mm_rw at hr
  have hd : i = 32 * (i / 32) + i % 32 := by omega
  generalize i / 32 = a at hr hd
  generalize i % 32 = b at hr hd
  subst hd
  match a with
  | 0 => exact mm_okc_at _ _ _ mm_k69_0 b r hr
  | a + 1 => exact absurd hr (by simp [mm_r69])
theorem mm_a70 : ∀ (i : Nat) (r : mm_R), mm_rw (mm_rows 70) i = some r → ∃ h, mm_ok (mm_I 70) (mm_rows 70) i h r = true := by
  intro i r hr
  have e : mm_rows 70 = mm_r70 := rfl
  rw [e] at hr ⊢
  unfold mm_rw at hr
  have hd : i = 32 * (i / 32) + i % 32 := by omega
  generalize i / 32 = a at hr hd
  generalize i % 32 = b at hr hd
  subst hd
  match a with
  | 0 => exact mm_okc_at _ _ _ mm_k70_0 b r hr
  | a + 1 => exact absurd hr (by simp [mm_r70])
theorem mm_a71 : ∀ (i : Nat) (r : mm_R), mm_rw (mm_rows 71) i = some r → ∃ h, mm_ok (mm_I 71) (mm_rows 71) i h r = true := by
  intro i r hr
  have e : mm_rows 71 = mm_r71 := rfl
  rw [e] at hr ⊢
  unfold mm_rw at hr
  have hd : i = 32 * (i / 32) + i % 32 := by omega
  generalize i / 32 = a at hr hd
  generalize i % 32 = b at hr hd
  subst hd
  match a with
  | 0 => exact mm_okc_at _ _ _ mm_k71_0 b r hr
  | 1 => exact mm_okc_at _ _ _ mm_k71_1 b r hr
  | a + 2 => exact absurd hr (by simp [mm_r71])
theorem mm_a72 : ∀ (i : Nat) (r : mm_R), mm_rw (mm_rows 72) i = some r → ∃ h, mm_ok (mm_I 72) (mm_rows 72) i h r = true := by
  intro i r hr
  have e : mm_rows 72 = mm_r72 := rfl
  rw [e] at hr ⊢
  unfold mm_rw at hr
  have hd : i = 32 * (i / 32) + i % 32 := by omega
  generalize i / 32 = a at hr hd
  generalize i % 32 = b at hr hd
  subst hd
  match a with
  | 0 => exact mm_okc_at _ _ _ mm_k72_0 b r hr
  | 1 => exact mm_okc_at _ _ _ mm_k72_1 b r hr
  | a + 2 => exact absurd hr (by simp [mm_r72])
theorem mm_a73 : ∀ (i : Nat) (r : mm_R), mm_rw (mm_rows 73) i = some r → ∃ h, mm_ok (mm_I 73) (mm_rows 73) i h r = true := by
  intro i r hr
  have e : mm_rows 73 = mm_r73 := rfl
  rw [e] at hr ⊢
  unfold mm_rw at hr
  have hd : i = 32 * (i / 32) + i % 32 := by omega
  generalize i / 32 = a at hr hd
  generalize i % 32 = b at hr hd
  subst hd
  match a with
  | 0 => exact mm_okc_at _ _ _ mm_k73_0 b r hr
  | a + 1 => exact absurd hr (by simp [mm_r73])
theorem mm_a74 : ∀ (i : Nat) (r : mm_R), mm_rw (mm_rows 74) i = some r → ∃ h, mm_ok (mm_I 74) (mm_rows 74) i h r = true := by
  intro i r hr
  have e : mm_rows 74 = mm_r74 := rfl
  rw [e] at hr ⊢
  unfold mm_rw at hr
  have hd : i = 32 * (i / 32) + i % 32 := by omega
  generalize i / 32 = a at hr hd
  generalize i % 32 = b at hr hd
  subst hd
  match a with
  | 0 => exact mm_okc_at _ _ _ mm_k74_0 b r hr
  | 1 => exact mm_okc_at _ _ _ mm_k74_1 b r hr
  | a + 2 => exact absurd hr (by simp [mm_r74])
theorem mm_a75 : ∀ (i : Nat) (r : mm_R), mm_rw (mm_rows 75) i = some r → ∃ h, mm_ok (mm_I 75) (mm_rows 75) i h r = true := by
  intro i r hr
  have e : mm_rows 75 = mm_r75 := rfl
  rw [e] at hr ⊢
  unfold mm_rw at hr
  have hd : i = 32 * (i / 32) + i % 32 := by omega
  generalize i / 32 = a at hr hd
  generalize i % 32 = b at hr hd
  subst hd
  match a with
  | 0 => exact mm_okc_at _ _ _ mm_k75_0 b r hr
  | 1 => exact mm_okc_at _ _ _ mm_k75_1 b r hr
  | 2 => exact mm_okc_at _ _ _ mm_k75_2 b r hr
  | 3 => exact mm_okc_at _ _ _ mm_k75_3 b r hr
  | a + 4 => exact absurd hr (by simp [mm_r75])
theorem mm_a76 : ∀ (i : Nat) (r : mm_R), mm_rw (mm_rows 76) i = some r → ∃ h, mm_ok (mm_I 76) (mm_rows 76) i h r = true := by
  intro i r hr
  have e : mm_rows 76 = mm_r76 := rfl
  rw [e] at hr ⊢
  unfold mm_rw at hr
  have hd : i = 32 * (i / 32) + i % 32 := by omega
  generalize i / 32 = a at hr hd
  generalize i % 32 = b at hr hd
  subst hd
  match a with
  | 0 => exact mm_okc_at _ _ _ mm_k76_0 b r hr
  | a + 1 => exact absurd hr (by simp [mm_r76])
theorem mm_a77 : ∀ (i : Nat) (r : mm_R), mm_rw (mm_rows 77) i = some r → ∃ h, mm_ok (mm_I 77) (mm_rows 77) i h r = true := by
  intro i r hr
  have e : mm_rows 77 = mm_r77 := rfl
  rw [e] at hr ⊢
  unfold mm_rw at hr
  have hd : i = 32 * (i / 32) + i % 32 := by omega
  generalize i / 32 = a at hr hd
  generalize i % 32 = b at hr hd
  subst hd
  match a with
  | 0 => exact mm_okc_at _ _ _ mm_k77_0 b r hr
  | a + 1 => exact absurd hr (by simp [mm_r77])
theorem mm_a78 : ∀ (i : Nat) (r : mm_R), mm_rw (mm_rows 78) i = some r → ∃ h, mm_ok (mm_I 78) (mm_rows 78) i h r = true := by
  intro i r hr
  have e : mm_rows 78 = mm_r78 := rfl
  rw [e] at hr ⊢
  unfold mm_rw at hr
  have hd : i = 32 * (i / 32) + i % 32 := by omega
  generalize i / 32 = a at hr hd
  generalize i % 32 = b at hr hd
  subst hd
  match a with
  | 0 => exact mm_okc_at _ _ _ mm_k78_0 b r hr
  | a + 1 => exact absurd hr (by simp [mm_r78])
theorem mm_a79 : ∀ (i : Nat) (r : mm_R), mm_rw (mm_rows 79) i = some r → ∃ h, mm_ok (mm_I 79) (mm_rows 79) i h r = true := by
  intro i r hr
  have e : mm_rows 79 = mm_r79 := rfl
  rw [e] at hr ⊢
  unfold mm_rw at hr
  have hd : i = 32 * (i / 32) + i % 32 := by omega
  generalize i / 32 = a at hr hd
  generalize i % 32 = b at hr hd
  subst hd
  match a with
  | 0 => exact mm_okc_at _ _ _ mm_k79_0 b r hr
  | a + 1 => exact absurd hr (by simp [mm_r79])
theorem mm_a80 : ∀ (i : Nat) (r : mm_R), mm_rw (mm_rows 80) i = some r → ∃ h, mm_ok (mm_I 80) (mm_rows 80) i h r = true := by
  intro i r hr
  have e : mm_rows 80 = mm_r80 := rfl
  rw [e] at hr ⊢
  unfold mm_rw at hr
  have hd : i = 32 * (i / 32) + i % 32 := by omega
  generalize i / 32 = a at hr hd
  generalize i % 32 = b at hr hd
  subst hd
  match a with
  | 0 => exact mm_okc_at _ _ _ mm_k80_0 b r hr
  | a + 1 => exact absurd hr (by simp [mm_r80])
theorem mm_a81 : ∀ (i : Nat) (r : mm_R), mm_rw (mm_rows 81) i = some r → ∃ h, mm_ok (mm_I 81) (mm_rows 81) i h r = true := by
  intro i r hr
  have e : mm_rows 81 = mm_r81 := rfl
  rw [e] at hr ⊢
  unfold mm_rw at hr
  have hd : i = 32 * (i / 32) + i % 32 := by omega
  generalize i / 32 = a at hr hd
  generalize i % 32 = b at hr hd
  subst hd
  match a with
  | 0 => exact mm_okc_at _ _ _ mm_k81_0 b r hr
  | a + 1 => exact absurd hr (by simp [mm_r81])
theorem mm_a82 : ∀ (i : Nat) (r : mm_R), mm_rw (mm_rows 82) i = some r → ∃ h, mm_ok (mm_I 82) (mm_rows 82) i h r = true := by
  intro i r hr
  have e : mm_rows 82 = mm_r82 := rfl
  rw [e] at hr ⊢
  unfold mm_rw at hr
  have hd : i = 32 * (i / 32) + i % 32 := by omega
  generalize i / 32 = a at hr hd
  generalize i % 32 = b at hr hd
  subst hd
  match a with
  | 0 => exact mm_okc_at _ _ _ mm_k82_0 b r hr
  | a + 1 => exact absurd hr (by simp [mm_r82])
theorem mm_a83 : ∀ (i : Nat) (r : mm_R), mm_rw (mm_rows 83) i = some r → ∃ h, mm_ok (mm_I 83) (mm_rows 83) i h r = true := by
  intro i r hr
  have e : mm_rows 83 = mm_r83 := rfl
  rw [e] at hr ⊢
  unfold mm_rw at hr
  have hd : i = 32 * (i / 32) + i % 32 := by omega
  generalize i / 32 = a at hr hd
  generalize i % 32 = b at hr hd
  subst hd
  match a with
  | 0 => exact mm_okc_at _ _ _ mm_k83_0 b r hr
  | a + 1 => exact absurd hr (by simp [mm_r83])
theorem mm_a84 : ∀ (i : Nat) (r : mm_R), mm_rw (mm_rows 84) i = some r → ∃ h, mm_ok (mm_I 84) (mm_rows 84) i h r = true := by
  intro i r hr
  have e : mm_rows 84 = mm_r84 := rfl
  rw [e] at hr ⊢
  unfold mm_rw at hr
  have hd : i = 32 * (i / 32) + i % 32 := by omega
  generalize i / 32 = a at hr hd
  generalize i % 32 = b at hr hd
  subst hd
  match a with
  | 0 => exact mm_okc_at _ _ _ mm_k84_0 b r hr
  | 1 => exact mm_okc_at _ _ _ mm_k84_1 b r hr
  | 2 => exact mm_okc_at _ _ _ mm_k84_2 b r hr
  | a + 3 => exact absurd hr (by simp [mm_r84])
theorem mm_a85 : ∀ (i : Nat) (r : mm_R), mm_rw (mm_rows 85) i = some r → ∃ h, mm_ok (mm_I 85) (mm_rows 85) i h r = true := by
  intro i r hr
  have e : mm_rows 85 = mm_r85 := rfl
  rw [e] at hr ⊢
  unfold mm_rw at hr
  have hd : i = 32 * (i / 32) + i % 32 := by omega
  generalize i / 32 = a at hr hd
  generalize i % 32 = b at hr hd
  subst hd
  match a with
  | 0 => exact mm_okc_at _ _ _ mm_k85_0 b r hr
  | a + 1 => exact absurd hr (by simp [mm_r85])
theorem mm_a86 : ∀ (i : Nat) (r : mm_R), mm_rw (mm_rows 86) i = some r → ∃ h, mm_ok (mm_I 86) (mm_rows 86) i h r = true := by
  intro i r hr
  have e : mm_rows 86 = mm_r86 := rfl
  rw [e] at hr ⊢
  unfold mm_rw at hr
  have hd : i = 32 * (i / 32) + i % 32 := by omega
  generalize i / 32 = a at hr hd
  generalize i % 32 = b at hr hd
  subst hd
  match a with
  | 0 => exact mm_okc_at _ _ _ mm_k86_0 b r hr
  | a + 1 => exact absurd hr (by simp [mm_r86])
theorem mm_a87 : ∀ (i : Nat) (r : mm_R), mm_rw (mm_rows 87) i = some r → ∃ h, mm_ok (mm_I 87) (mm_rows 87) i h r = true := by
  intro i r hr
  have e : mm_rows 87 = mm_r87 := rfl
  rw [e] at hr ⊢
  unfold mm_rw at hr
  have hd : i = 32 * (i / 32) + i % 32 := by omega
  generalize i / 32 = a at hr hd
  generalize i % 32 = b at hr hd
  subst hd
  match a with
  | 0 => exact mm_okc_at _ _ _ mm_k87_0 b r hr
  | 1 => exact mm_okc_at _ _ _ mm_k87_1 b r hr
  | a + 2 => exact absurd hr (by simp [mm_r87])
theorem mm_a88 : ∀ (i : Nat) (r : mm_R), mm_rw (mm_rows 88) i = some r → ∃ h, mm_ok (mm_I 88) (mm_rows 88) i h r = true := by
  intro i r hr
  have e : mm_rows 88 = mm_r88 := rfl
  rw [e] at hr ⊢
  unfold mm_rw at hr
  have hd : i = 32 * (i / 32) + i % 32 := by omega
  generalize i / 32 = a at hr hd
  generalize i % 32 = b at hr hd
  subst hd
  match a with
  | 0 => exact mm_okc_at _ _ _ mm_k88_0 b r hr
  | a + 1 => exact absurd hr (by simp [mm_r88])
theorem mm_a89 : ∀ (i : Nat) (r : mm_R), mm_rw (mm_rows 89) i = some r → ∃ h, mm_ok (mm_I 89) (mm_rows 89) i h r = true := by
  intro i r hr
  have e : mm_rows 89 = mm_r89 := rfl
  rw [e] at hr ⊢
  unfold mm_rw at hr
  have hd : i = 32 * (i / 32) + i % 32 := by omega
  generalize i / 32 = a at hr hd
  generalize i % 32 = b at hr hd
  subst hd
  match a with
  | 0 => exact mm_okc_at _ _ _ mm_k89_0 b r hr
  | a + 1 => exact absurd hr (by simp [mm_r89])
theorem mm_a90 : ∀ (i : Nat) (r : mm_R), mm_rw (mm_rows 90) i = some r → ∃ h, mm_ok (mm_I 90) (mm_rows 90) i h r = true := by
  intro i r hr
  have e : mm_rows 90 = mm_r90 := rfl
  rw [e] at hr ⊢
  unfold mm_rw at hr
  have hd : i = 32 * (i / 32) + i % 32 := by omega
  generalize i / 32 = a at hr hd
  generalize i % 32 = b at hr hd
  subst hd
  match a with
  | 0 => exact mm_okc_at _ _ _ mm_k90_0 b r hr
  | a + 1 => exact absurd hr (by simp [mm_r90])
theorem mm_a91 : ∀ (i : Nat) (r : mm_R), mm_rw (mm_rows 91) i = some r → ∃ h, mm_ok (mm_I 91) (mm_rows 91) i h r = true := by
  intro i r hr
  have e : mm_rows 91 = mm_r91 := rfl
  rw [e] at hr ⊢
  unfold mm_rw at hr
  have hd : i = 32 * (i / 32) + i % 32 := by omega
  generalize i / 32 = a at hr hd
  generalize i % 32 = b at hr hd
  subst hd
  match a with
  | 0 => exact mm_okc_at _ _ _ mm_k91_0 b r hr
  | a + 1 => exact absurd hr (by simp [mm_r91])
theorem mm_a92 : ∀ (i : Nat) (r : mm_R), mm_rw (mm_rows 92) i = some r → ∃ h, mm_ok (mm_I 92) (mm_rows 92) i h r = true := by
  intro i r hr
  have e : mm_rows 92 = mm_r92 := rfl
  rw [e] at hr ⊢
  unfold mm_rw at hr
  have hd : i = 32 * (i / 32) + i % 32 := by omega
  generalize i / 32 = a at hr hd
  generalize i % 32 = b at hr hd
  subst hd
  match a with
  | 0 => exact mm_okc_at _ _ _ mm_k92_0 b r hr
  | 1 => exact mm_okc_at _ _ _ mm_k92_1 b r hr
  | a + 2 => exact absurd hr (by simp [mm_r92])
theorem mm_a93 : ∀ (i : Nat) (r : mm_R), mm_rw (mm_rows 93) i = some r → ∃ h, mm_ok (mm_I 93) (mm_rows 93) i h r = true := by
  intro i r hr
  have e : mm_rows 93 = mm_r93 := rfl
  rw [e] at hr ⊢
  unfold mm_rw at hr
  have hd : i = 32 * (i / 32) + i % 32 := by omega
  generalize i / 32 = a at hr hd
  generalize i % 32 = b at hr hd
  subst hd
  match a with
  | 0 => exact mm_okc_at _ _ _ mm_k93_0 b r hr
  | 1 => exact mm_okc_at _ _ _ mm_k93_1 b r hr
  | a + 2 => exact absurd hr (by simp [mm_r93])
theorem mm_a94 : ∀ (i : Nat) (r : mm_R), mm_rw (mm_rows 94) i = some r → ∃ h, mm_ok (mm_I 94) (mm_rows 94) i h r = true := by
  intro i r hr
  have e : mm_rows 94 = mm_r94 := rfl
  rw [e] at hr ⊢
  unfold mm_rw at hr
  have hd : i = 32 * (i / 32) + i % 32 := by omega
  generalize i / 32 = a at hr hd
  generalize i % 32 = b at hr hd
  subst hd
  match a with
  | 0 => exact mm_okc_at _ _ _ mm_k94_0 b r hr
  | a + 1 => exact absurd hr (by simp [mm_r94])
theorem mm_a95 : ∀ (i : Nat) (r : mm_R), mm_rw (mm_rows 95) i = some r → ∃ h, mm_ok (mm_I 95) (mm_rows 95) i h r = true := by
  intro i r hr
  have e : mm_rows 95 = mm_r95 := rfl
  rw [e] at hr ⊢
  unfold mm_rw at hr
  have hd : i = 32 * (i / 32) + i % 32 := by omega
  generalize i / 32 = a at hr hd
  generalize i % 32 = b at hr hd
  subst hd
  match a with
  | 0 => exact mm_okc_at _ _ _ mm_k95_0 b r hr
  | a + 1 => exact absurd hr (by simp [mm_r95])
theorem mm_a96 : ∀ (i : Nat) (r : mm_R), mm_rw (mm_rows 96) i = some r → ∃ h, mm_ok (mm_I 96) (mm_rows 96) i h r = true := by
  intro i r hr
  have e : mm_rows 96 = mm_r96 := rfl
  rw [e] at hr ⊢
  unfold mm_rw at hr
  have hd : i = 32 * (i / 32) + i % 32 := by omega
  generalize i / 32 = a at hr hd
  generalize i % 32 = b at hr hd
  subst hd
  match a with
  | 0 => exact mm_okc_at _ _ _ mm_k96_0 b r hr
  | a + 1 => exact absurd hr (by simp [mm_r96])
theorem mm_a97 : ∀ (i : Nat) (r : mm_R), mm_rw (mm_rows 97) i = some r → ∃ h, mm_ok (mm_I 97) (mm_rows 97) i h r = true := by
  intro i r hr
  have e : mm_rows 97 = mm_r97 := rfl
  rw [e] at hr ⊢
  unfold mm_rw at hr
  have hd : i = 32 * (i / 32) + i % 32 := by omega
  generalize i / 32 = a at hr hd
  generalize i % 32 = b at hr hd
  subst hd
  match a with
  | 0 => exact mm_okc_at _ _ _ mm_k97_0 b r hr
  | 1 => exact mm_okc_at _ _ _ mm_k97_1 b r hr
  | a + 2 => exact absurd hr (by simp [mm_r97])
theorem mm_a98 : ∀ (i : Nat) (r : mm_R), mm_rw (mm_rows 98) i = some r → ∃ h, mm_ok (mm_I 98) (mm_rows 98) i h r = true := by
  intro i r hr
  have e : mm_rows 98 = mm_r98 := rfl
  rw [e] at hr ⊢
  unfold mm_rw at hr
  have hd : i = 32 * (i / 32) + i % 32 := by omega
  generalize i / 32 = a at hr hd
  generalize i % 32 = b at hr hd
  subst hd
  match a with
  | 0 => exact mm_okc_at _ _ _ mm_k98_0 b r hr
  | a + 1 => exact absurd hr (by simp [mm_r98])
theorem mm_a99 : ∀ (i : Nat) (r : mm_R), mm_rw (mm_rows 99) i = some r → ∃ h, mm_ok (mm_I 99) (mm_rows 99) i h r = true := by
  intro i r hr
  have e : mm_rows 99 = mm_r99 := rfl
  rw [e] at hr ⊢
  unfold mm_rw at hr
  have hd : i = 32 * (i / 32) + i % 32 := by omega
  generalize i / 32 = a at hr hd
  generalize i % 32 = b at hr hd
  subst hd
  match a with
  | 0 => exact mm_okc_at _ _ _ mm_k99_0 b r hr
  | 1 => exact mm_okc_at _ _ _ mm_k99_1 b r hr
  | a + 2 => exact absurd hr (by simp [mm_r99])
theorem mm_a100 : ∀ (i : Nat) (r : mm_R), mm_rw (mm_rows 100) i = some r → ∃ h, mm_ok (mm_I 100) (mm_rows 100) i h r = true := by
  intro i r hr
  have e : mm_rows 100 = mm_r100 := rfl
  rw [e] at hr ⊢
  unfold mm_rw at hr
  have hd : i = 32 * (i / 32) + i % 32 := by omega
  generalize i / 32 = a at hr hd
  generalize i % 32 = b at hr hd
  subst hd
  match a with
  | 0 => exact mm_okc_at _ _ _ mm_k100_0 b r hr
  | 1 => exact mm_okc_at _ _ _ mm_k100_1 b r hr
  | a + 2 => exact absurd hr (by simp [mm_r100])
theorem mm_a101 : ∀ (i : Nat) (r : mm_R), mm_rw (mm_rows 101) i = some r → ∃ h, mm_ok (mm_I 101) (mm_rows 101) i h r = true := by
  intro i r hr
  have e : mm_rows 101 = mm_r101 := rfl
  rw [e] at hr ⊢
  unfold mm_rw at hr
  have hd : i = 32 * (i / 32) + i % 32 := by omega
  generalize i / 32 = a at hr hd
  generalize i % 32 = b at hr hd
  subst hd
  match a with
  | 0 => exact mm_okc_at _ _ _ mm_k101_0 b r hr
  | 1 => exact mm_okc_at _ _ _ mm_k101_1 b r hr
  | a + 2 => exact absurd hr (by simp [mm_r101])
theorem mm_a102 : ∀ (i : Nat) (r : mm_R), mm_rw (mm_rows 102) i = some r → ∃ h, mm_ok (mm_I 102) (mm_rows 102) i h r = true := by
  intro i r hr
  have e : mm_rows 102 = mm_r102 := rfl
  rw [e] at hr ⊢
  unfold mm_rw at hr
  have hd : i = 32 * (i / 32) + i % 32 := by omega
  generalize i / 32 = a at hr hd
  generalize i % 32 = b at hr hd
  subst hd
  match a with
  | 0 => exact mm_okc_at _ _ _ mm_k102_0 b r hr
  | 1 => exact mm_okc_at _ _ _ mm_k102_1 b r hr
  | a + 2 => exact absurd hr (by simp [mm_r102])
theorem mm_a103 : ∀ (i : Nat) (r : mm_R), mm_rw (mm_rows 103) i = some r → ∃ h, mm_ok (mm_I 103) (mm_rows 103) i h r = true := by
  intro i r hr
  have e : mm_rows 103 = mm_r103 := rfl
  rw [e] at hr ⊢
  unfold mm_rw at hr
  have hd : i = 32 * (i / 32) + i % 32 := by omega
  generalize i / 32 = a at hr hd
  generalize i % 32 = b at hr hd
  subst hd
  match a with
  | 0 => exact mm_okc_at _ _ _ mm_k103_0 b r hr
  | 1 => exact mm_okc_at _ _ _ mm_k103_1 b r hr
  | a + 2 => exact absurd hr (by simp [mm_r103])
theorem mm_a104 : ∀ (i : Nat) (r : mm_R), mm_rw (mm_rows 104) i = some r → ∃ h, mm_ok (mm_I 104) (mm_rows 104) i h r = true := by
  intro i r hr
  have e : mm_rows 104 = mm_r104 := rfl
  rw [e] at hr ⊢
  unfold mm_rw at hr
  have hd : i = 32 * (i / 32) + i % 32 := by omega
  generalize i / 32 = a at hr hd
  generalize i % 32 = b at hr hd
  subst hd
  match a with
  | 0 => exact mm_okc_at _ _ _ mm_k104_0 b r hr
  | 1 => exact mm_okc_at _ _ _ mm_k104_1 b r hr
  | a + 2 => exact absurd hr (by simp [mm_r104])
theorem mm_a105 : ∀ (i : Nat) (r : mm_R), mm_rw (mm_rows 105) i = some r → ∃ h, mm_ok (mm_I 105) (mm_rows 105) i h r = true := by
  intro i r hr
  have e : mm_rows 105 = mm_r105 := rfl
  rw [e] at hr ⊢
  unfold mm_rw at hr
  have hd : i = 32 * (i / 32) + i % 32 := by omega
  generalize i / 32 = a at hr hd
  generalize i % 32 = b at hr hd
  subst hd
  match a with
  | 0 => exact mm_okc_at _ _ _ mm_k105_0 b r hr
  | 1 => exact mm_okc_at _ _ _ mm_k105_1 b r hr
  | a + 2 => exact absurd hr (by simp [mm_r105])
theorem mm_a106 : ∀ (i : Nat) (r : mm_R), mm_rw (mm_rows 106) i = some r → ∃ h, mm_ok (mm_I 106) (mm_rows 106) i h r = true := by
  intro i r hr
  have e : mm_rows 106 = mm_r106 := rfl
  rw [e] at hr ⊢
  unfold mm_rw at hr
  have hd : i = 32 * (i / 32) + i % 32 := by omega
  generalize i / 32 = a at hr hd
  generalize i % 32 = b at hr hd
  subst hd
  match a with
  | 0 => exact mm_okc_at _ _ _ mm_k106_0 b r hr
  | 1 => exact mm_okc_at _ _ _ mm_k106_1 b r hr
  | a + 2 => exact absurd hr (by simp [mm_r106])
theorem mm_a107 : ∀ (i : Nat) (r : mm_R), mm_rw (mm_rows 107) i = some r → ∃ h, mm_ok (mm_I 107) (mm_rows 107) i h r = true := by
  intro i r hr
  have e : mm_rows 107 = mm_r107 := rfl
  rw [e] at hr ⊢
  unfold mm_rw at hr
  have hd : i = 32 * (i / 32) + i % 32 := by omega
  generalize i / 32 = a at hr hd
  generalize i % 32 = b at hr hd
  subst hd
  match a with
  | 0 => exact mm_okc_at _ _ _ mm_k107_0 b r hr
  | 1 => exact mm_okc_at _ _ _ mm_k107_1 b r hr
  | a + 2 => exact absurd hr (by simp [mm_r107])
theorem mm_a108 : ∀ (i : Nat) (r : mm_R), mm_rw (mm_rows 108) i = some r → ∃ h, mm_ok (mm_I 108) (mm_rows 108) i h r = true := by
  intro i r hr
  have e : mm_rows 108 = mm_r108 := rfl
  rw [e] at hr ⊢
  unfold mm_rw at hr
  have hd : i = 32 * (i / 32) + i % 32 := by omega
  generalize i / 32 = a at hr hd
  generalize i % 32 = b at hr hd
  subst hd
  match a with
  | 0 => exact mm_okc_at _ _ _ mm_k108_0 b r hr
  | a + 1 => exact absurd hr (by simp [mm_r108])
theorem mm_a109 : ∀ (i : Nat) (r : mm_R), mm_rw (mm_rows 109) i = some r → ∃ h, mm_ok (mm_I 109) (mm_rows 109) i h r = true := by
  intro i r hr
  have e : mm_rows 109 = mm_r109 := rfl
  rw [e] at hr ⊢
  unfold mm_rw at hr
  have hd : i = 32 * (i / 32) + i % 32 := by omega
  generalize i / 32 = a at hr hd
  generalize i % 32 = b at hr hd
  subst hd
  match a with
  | 0 => exact mm_okc_at _ _ _ mm_k109_0 b r hr
  | a + 1 => exact absurd hr (by simp [mm_r109])
theorem mm_a110 : ∀ (i : Nat) (r : mm_R), mm_rw (mm_rows 110) i = some r → ∃ h, mm_ok (mm_I 110) (mm_rows 110) i h r = true := by
  intro i r hr
  have e : mm_rows 110 = mm_r110 := rfl
  rw [e] at hr ⊢
  unfold mm_rw at hr
  have hd : i = 32 * (i / 32) + i % 32 := by omega
  generalize i / 32 = a at hr hd
  generalize i % 32 = b at hr hd
  subst hd
  match a with
  | 0 => exact mm_okc_at _ _ _ mm_k110_0 b r hr
  | 1 => exact mm_okc_at _ _ _ mm_k110_1 b r hr
  | a + 2 => exact absurd hr (by simp [mm_r110])
theorem mm_a111 : ∀ (i : Nat) (r : mm_R), mm_rw (mm_rows 111) i = some r → ∃ h, mm_ok (mm_I 111) (mm_rows 111) i h r = true := by
  intro i r hr
  have e : mm_rows 111 = mm_r111 := rfl
  rw [e] at hr ⊢
  unfold mm_rw at hr
  have hd : i = 32 * (i / 32) + i % 32 := by omega
  generalize i / 32 = a at hr hd
  generalize i % 32 = b at hr hd
  subst hd
  match a with
  | 0 => exact mm_okc_at _ _ _ mm_k111_0 b r hr
  | 1 => exact mm_okc_at _ _ _ mm_k111_1 b r hr
  | a + 2 => exact absurd hr (by simp [mm_r111])
theorem mm_a112 : ∀ (i : Nat) (r : mm_R), mm_rw (mm_rows 112) i = some r → ∃ h, mm_ok (mm_I 112) (mm_rows 112) i h r = true := by
  intro i r hr
  have e : mm_rows 112 = mm_r112 := rfl
  rw [e] at hr ⊢
  unfold mm_rw at hr
  have hd : i = 32 * (i / 32) + i % 32 := by omega
  generalize i / 32 = a at hr hd
  generalize i % 32 = b at hr hd
  subst hd
  match a with
  | 0 => exact mm_okc_at _ _ _ mm_k112_0 b r hr
  | a + 1 => exact absurd hr (by simp [mm_r112])
theorem mm_a113 : ∀ (i : Nat) (r : mm_R), mm_rw (mm_rows 113) i = some r → ∃ h, mm_ok (mm_I 113) (mm_rows 113) i h r = true := by
  intro i r hr
  have e : mm_rows 113 = mm_r113 := rfl
  rw [e] at hr ⊢
  unfold mm_rw at hr
  have hd : i = 32 * (i / 32) + i % 32 := by omega
  generalize i / 32 = a at hr hd
  generalize i % 32 = b at hr hd
  subst hd
  match a with
  | 0 => exact mm_okc_at _ _ _ mm_k113_0 b r hr
  | a + 1 => exact absurd hr (by simp [mm_r113])
theorem mm_a114 : ∀ (i : Nat) (r : mm_R), mm_rw (mm_rows 114) i = some r → ∃ h, mm_ok (mm_I 114) (mm_rows 114) i h r = true := by
  intro i r hr
  have e : mm_rows 114 = mm_r114 := rfl
  rw [e] at hr ⊢
  unfold mm_rw at hr
  have hd : i = 32 * (i / 32) + i % 32 := by omega
  generalize i / 32 = a at hr hd
  generalize i % 32 = b at hr hd
  subst hd
  match a with
  | 0 => exact mm_okc_at _ _ _ mm_k114_0 b r hr
  | 1 => exact mm_okc_at _ _ _ mm_k114_1 b r hr
  | a + 2 => exact absurd hr (by simp [mm_r114])
theorem mm_a115 : ∀ (i : Nat) (r : mm_R), mm_rw (mm_rows 115) i = some r → ∃ h, mm_ok (mm_I 115) (mm_rows 115) i h r = true := by
  intro i r hr
  have e : mm_rows 115 = mm_r115 := rfl
  rw [e] at hr ⊢
  unfold mm_rw at hr
  have hd : i = 32 * (i / 32) + i % 32 := by omega
  generalize i / 32 = a at hr hd
  generalize i % 32 = b at hr hd
  subst hd
  match a with
  | 0 => exact mm_okc_at _ _ _ mm_k115_0 b r hr
  | a + 1 => exact absurd hr (by simp [mm_r115])
theorem mm_a116 : ∀ (i : Nat) (r : mm_R), mm_rw (mm_rows 116) i = some r → ∃ h, mm_ok (mm_I 116) (mm_rows 116) i h r = true := by
  intro i r hr
  have e : mm_rows 116 = mm_r116 := rfl
  rw [e] at hr ⊢
  unfold mm_rw at hr
  have hd : i = 32 * (i / 32) + i % 32 := by omega
  generalize i / 32 = a at hr hd
  generalize i % 32 = b at hr hd
  subst hd
  match a with
  | 0 => exact mm_okc_at _ _ _ mm_k116_0 b r hr
  | a + 1 => exact absurd hr (by simp [mm_r116])
theorem mm_a117 : ∀ (i : Nat) (r : mm_R), mm_rw (mm_rows 117) i = some r → ∃ h, mm_ok (mm_I 117) (mm_rows 117) i h r = true := by
  intro i r hr
  have e : mm_rows 117 = mm_r117 := rfl
  rw [e] at hr ⊢
  unfold mm_rw at hr
  have hd : i = 32 * (i / 32) + i % 32 := by omega
  generalize i / 32 = a at hr hd
  generalize i % 32 = b at hr hd
  subst hd
  match a with
  | 0 => exact mm_okc_at _ _ _ mm_k117_0 b r hr
  | a + 1 => exact absurd hr (by simp [mm_r117])
theorem mm_a118 : ∀ (i : Nat) (r : mm_R), mm_rw (mm_rows 118) i = some r → ∃ h, mm_ok (mm_I 118) (mm_rows 118) i h r = true := by
  intro i r hr
  have e : mm_rows 118 = mm_r118 := rfl
  rw [e] at hr ⊢
  unfold mm_rw at hr
  have hd : i = 32 * (i / 32) + i % 32 := by omega
  generalize i / 32 = a at hr hd
  generalize i % 32 = b at hr hd
  subst hd
  match a with
  | 0 => exact mm_okc_at _ _ _ mm_k118_0 b r hr
  | a + 1 => exact absurd hr (by simp [mm_r118])
theorem mm_a119 : ∀ (i : Nat) (r : mm_R), mm_rw (mm_rows 119) i = some r → ∃ h, mm_ok (mm_I 119) (mm_rows 119) i h r = true := by
  intro i r hr
  have e : mm_rows 119 = mm_r119 := rfl
  rw [e] at hr ⊢
  unfold mm_rw at hr
  have hd : i = 32 * (i / 32) + i % 32 := by omega
  generalize i / 32 = a at hr hd
  generalize i % 32 = b at hr hd
  subst hd
  match a with
  | 0 => exact mm_okc_at _ _ _ mm_k119_0 b r hr
  | a + 1 => exact absurd hr (by simp [mm_r119])
theorem mm_a120 : ∀ (i : Nat) (r : mm_R), mm_rw (mm_rows 120) i = some r → ∃ h, mm_ok (mm_I 120) (mm_rows 120) i h r = true := by
  intro i r hr
  have e : mm_rows 120 = mm_r120 := rfl
  rw [e] at hr ⊢
  unfold mm_rw at hr
  have hd : i = 32 * (i / 32) + i % 32 := by omega
  generalize i / 32 = a at hr hd
  generalize i % 32 = b at hr hd
  subst hd
  match a with
  | 0 => exact mm_okc_at _ _ _ mm_k120_0 b r hr
  | 1 => exact mm_okc_at _ _ _ mm_k120_1 b r hr
  | a + 2 => exact absurd hr (by simp [mm_r120])
theorem mm_a121 : ∀ (i : Nat) (r : mm_R), mm_rw (mm_rows 121) i = some r → ∃ h, mm_ok (mm_I 121) (mm_rows 121) i h r = true := by
  intro i r hr
  have e : mm_rows 121 = mm_r121 := rfl
  rw [e] at hr ⊢
  unfold mm_rw at hr
  have hd : i = 32 * (i / 32) + i % 32 := by omega
  generalize i / 32 = a at hr hd
  generalize i % 32 = b at hr hd
  subst hd
  match a with
  | 0 => exact mm_okc_at _ _ _ mm_k121_0 b r hr
  | 1 => exact mm_okc_at _ _ _ mm_k121_1 b r hr
  | a + 2 => exact absurd hr (by simp [mm_r121])
theorem mm_a122 : ∀ (i : Nat) (r : mm_R), mm_rw (mm_rows 122) i = some r → ∃ h, mm_ok (mm_I 122) (mm_rows 122) i h r = true := by
  intro i r hr
  have e : mm_rows 122 = mm_r122 := rfl
  rw [e] at hr ⊢
  unfold mm_rw at hr
  have hd : i = 32 * (i / 32) + i % 32 := by omega
  generalize i / 32 = a at hr hd
  generalize i % 32 = b at hr hd
  subst hd
  match a with
  | 0 => exact mm_okc_at _ _ _ mm_k122_0 b r hr
  | 1 => exact mm_okc_at _ _ _ mm_k122_1 b r hr
  | a + 2 => exact absurd hr (by simp [mm_r122])
theorem mm_a123 : ∀ (i : Nat) (r : mm_R), mm_rw (mm_rows 123) i = some r → ∃ h, mm_ok (mm_I 123) (mm_rows 123) i h r = true := by
  intro i r hr
  have e : mm_rows 123 = mm_r123 := rfl
  rw [e] at hr ⊢
  unfold mm_rw at hr
  have hd : i = 32 * (i / 32) + i % 32 := by omega
  generalize i / 32 = a at hr hd
  generalize i % 32 = b at hr hd
  subst hd
  match a with
  | 0 => exact mm_okc_at _ _ _ mm_k123_0 b r hr
  | 1 => exact mm_okc_at _ _ _ mm_k123_1 b r hr
  | a + 2 => exact absurd hr (by simp [mm_r123])
theorem mm_a124 : ∀ (i : Nat) (r : mm_R), mm_rw (mm_rows 124) i = some r → ∃ h, mm_ok (mm_I 124) (mm_rows 124) i h r = true := by
  intro i r hr
  have e : mm_rows 124 = mm_r124 := rfl
  rw [e] at hr ⊢
  unfold mm_rw at hr
  have hd : i = 32 * (i / 32) + i % 32 := by omega
  generalize i / 32 = a at hr hd
  generalize i % 32 = b at hr hd
  subst hd
  match a with
  | 0 => exact mm_okc_at _ _ _ mm_k124_0 b r hr
  | a + 1 => exact absurd hr (by simp [mm_r124])
theorem mm_a125 : ∀ (i : Nat) (r : mm_R), mm_rw (mm_rows 125) i = some r → ∃ h, mm_ok (mm_I 125) (mm_rows 125) i h r = true := by
  intro i r hr
  have e : mm_rows 125 = mm_r125 := rfl
  rw [e] at hr ⊢
  unfold mm_rw at hr
  have hd : i = 32 * (i / 32) + i % 32 := by omega
  generalize i / 32 = a at hr hd
  generalize i % 32 = b at hr hd
  subst hd
  match a with
  | 0 => exact mm_okc_at _ _ _ mm_k125_0 b r hr
  | 1 => exact mm_okc_at _ _ _ mm_k125_1 b r hr
  | a + 2 => exact absurd hr (by simp [mm_r125])
theorem mm_a126 : ∀ (i : Nat) (r : mm_R), mm_rw (mm_rows 126) i = some r → ∃ h, mm_ok (mm_I 126) (mm_rows 126) i h r = true := by
  intro i r hr
  have e : mm_rows 126 = mm_r126 := rfl
  rw [e] at hr ⊢
  unfold mm_rw at hr
  have hd : i = 32 * (i / 32) + i % 32 := by omega
  generalize i / 32 = a at hr hd
  generalize i % 32 = b at hr hd
  subst hd
  match a with
  | 0 => exact mm_okc_at _ _ _ mm_k126_0 b r hr
  | 1 => exact mm_okc_at _ _ _ mm_k126_1 b r hr
  | 2 => exact mm_okc_at _ _ _ mm_k126_2 b r hr
  | 3 => exact mm_okc_at _ _ _ mm_k126_3 b r hr
  | 4 => exact mm_okc_at _ _ _ mm_k126_4 b r hr
  | a + 5 => exact absurd hr (by simp [mm_r126])
theorem mm_a127 : ∀ (i : Nat) (r : mm_R), mm_rw (mm_rows 127) i = some r → ∃ h, mm_ok (mm_I 127) (mm_rows 127) i h r = true := by
  intro i r hr
  have e : mm_rows 127 = mm_r127 := rfl
  rw [e] at hr ⊢
  unfold mm_rw at hr
  have hd : i = 32 * (i / 32) + i % 32 := by omega
  generalize i / 32 = a at hr hd
  generalize i % 32 = b at hr hd
  subst hd
  match a with
  | 0 => exact mm_okc_at _ _ _ mm_k127_0 b r hr
  | 1 => exact mm_okc_at _ _ _ mm_k127_1 b r hr
  | 2 => exact mm_okc_at _ _ _ mm_k127_2 b r hr
  | a + 3 => exact absurd hr (by simp [mm_r127])
theorem mm_a128 : ∀ (i : Nat) (r : mm_R), mm_rw (mm_rows 128) i = some r → ∃ h, mm_ok (mm_I 128) (mm_rows 128) i h r = true := by
  intro i r hr
  have e : mm_rows 128 = mm_r128 := rfl
  rw [e] at hr ⊢
  unfold mm_rw at hr
  have hd : i = 32 * (i / 32) + i % 32 := by omega
  generalize i / 32 = a at hr hd
  generalize i % 32 = b at hr hd
  subst hd
  match a with
  | 0 => exact mm_okc_at _ _ _ mm_k128_0 b r hr
  | a + 1 => exact absurd hr (by simp [mm_r128])
theorem mm_a129 : ∀ (i : Nat) (r : mm_R), mm_rw (mm_rows 129) i = some r → ∃ h, mm_ok (mm_I 129) (mm_rows 129) i h r = true := by
  intro i r hr
  have e : mm_rows 129 = mm_r129 := rfl
  rw [e] at hr ⊢
  unfold mm_rw at hr
  have hd : i = 32 * (i / 32) + i % 32 := by omega
  generalize i / 32 = a at hr hd
  generalize i % 32 = b at hr hd
  subst hd
  match a with
  | 0 => exact mm_okc_at _ _ _ mm_k129_0 b r hr
  | 1 => exact mm_okc_at _ _ _ mm_k129_1 b r hr
  | a + 2 => exact absurd hr (by simp [mm_r129])
theorem mm_a130 : ∀ (i : Nat) (r : mm_R), mm_rw (mm_rows 130) i = some r → ∃ h, mm_ok (mm_I 130) (mm_rows 130) i h r = true := by
  intro i r hr
  have e : mm_rows 130 = mm_r130 := rfl
  rw [e] at hr ⊢
  unfold mm_rw at hr
  have hd : i = 32 * (i / 32) + i % 32 := by omega
  generalize i / 32 = a at hr hd
  generalize i % 32 = b at hr hd
  subst hd
  match a with
  | 0 => exact mm_okc_at _ _ _ mm_k130_0 b r hr
  | a + 1 => exact absurd hr (by simp [mm_r130])
theorem mm_a131 : ∀ (i : Nat) (r : mm_R), mm_rw (mm_rows 131) i = some r → ∃ h, mm_ok (mm_I 131) (mm_rows 131) i h r = true := by
  intro i r hr
  have e : mm_rows 131 = mm_r131 := rfl
  rw [e] at hr ⊢
  unfold mm_rw at hr
  have hd : i = 32 * (i / 32) + i % 32 := by omega
  generalize i / 32 = a at hr hd
  generalize i % 32 = b at hr hd
  subst hd
  match a with
  | 0 => exact mm_okc_at _ _ _ mm_k131_0 b r hr
  | a + 1 => exact absurd hr (by simp [mm_r131])
theorem mm_a132 : ∀ (i : Nat) (r : mm_R), mm_rw (mm_rows 132) i = some r → ∃ h, mm_ok (mm_I 132) (mm_rows 132) i h r = true := by
  intro i r hr
  have e : mm_rows 132 = mm_r132 := rfl
  rw [e] at hr ⊢
  unfold mm_rw at hr
  have hd : i = 32 * (i / 32) + i % 32 := by omega
  generalize i / 32 = a at hr hd
  generalize i % 32 = b at hr hd
  subst hd
  match a with
  | 0 => exact mm_okc_at _ _ _ mm_k132_0 b r hr
  | a + 1 => exact absurd hr (by simp [mm_r132])
theorem mm_a133 : ∀ (i : Nat) (r : mm_R), mm_rw (mm_rows 133) i = some r → ∃ h, mm_ok (mm_I 133) (mm_rows 133) i h r = true := by
  intro i r hr
  have e : mm_rows 133 = mm_r133 := rfl
  rw [e] at hr ⊢
  unfold mm_rw at hr
  have hd : i = 32 * (i / 32) + i % 32 := by omega
  generalize i / 32 = a at hr hd
  generalize i % 32 = b at hr hd
  subst hd
  match a with
  | 0 => exact mm_okc_at _ _ _ mm_k133_0 b r hr
  | 1 => exact mm_okc_at _ _ _ mm_k133_1 b r hr
  | 2 => exact mm_okc_at _ _ _ mm_k133_2 b r hr
  | a + 3 => exact absurd hr (by simp [mm_r133])
theorem mm_a134 : ∀ (i : Nat) (r : mm_R), mm_rw (mm_rows 134) i = some r → ∃ h, mm_ok (mm_I 134) (mm_rows 134) i h r = true := by
  intro i r hr
  have e : mm_rows 134 = mm_r134 := rfl
  rw [e] at hr ⊢
  unfold mm_rw at hr
  have hd : i = 32 * (i / 32) + i % 32 := by omega
  generalize i / 32 = a at hr hd
  generalize i % 32 = b at hr hd
  subst hd
  match a with
  | 0 => exact mm_okc_at _ _ _ mm_k134_0 b r hr
  | 1 => exact mm_okc_at _ _ _ mm_k134_1 b r hr
  | a + 2 => exact absurd hr (by simp [mm_r134])
theorem mm_a135 : ∀ (i : Nat) (r : mm_R), mm_rw (mm_rows 135) i = some r → ∃ h, mm_ok (mm_I 135) (mm_rows 135) i h r = true := by
  intro i r hr
  have e : mm_rows 135 = mm_r135 := rfl
  rw [e] at hr ⊢
  unfold mm_rw at hr
  have hd : i = 32 * (i / 32) + i % 32 := by omega
  generalize i / 32 = a at hr hd
  generalize i % 32 = b at hr hd
  subst hd
  match a with
  | 0 => exact mm_okc_at _ _ _ mm_k135_0 b r hr
  | 1 => exact mm_okc_at _ _ _ mm_k135_1 b r hr
  | 2 => exact mm_okc_at _ _ _ mm_k135_2 b r hr
  | 3 => exact mm_okc_at _ _ _ mm_k135_3 b r hr
  | 4 => exact mm_okc_at _ _ _ mm_k135_4 b r hr
  | a + 5 => exact absurd hr (by simp [mm_r135])
theorem mm_a136 : ∀ (i : Nat) (r : mm_R), mm_rw (mm_rows 136) i = some r → ∃ h, mm_ok (mm_I 136) (mm_rows 136) i h r = true := by
  intro i r hr
  have e : mm_rows 136 = mm_r136 := rfl
  rw [e] at hr ⊢
  unfold mm_rw at hr
  have hd : i = 32 * (i / 32) + i % 32 := by omega
  generalize i / 32 = a at hr hd
  generalize i % 32 = b at hr hd
  subst hd
  match a with
  | 0 => exact mm_okc_at _ _ _ mm_k136_0 b r hr
  | a + 1 => exact absurd hr (by simp [mm_r136])
theorem mm_a137 : ∀ (i : Nat) (r : mm_R), mm_rw (mm_rows 137) i = some r → ∃ h, mm_ok (mm_I 137) (mm_rows 137) i h r = true := by
  intro i r hr
  have e : mm_rows 137 = mm_r137 := rfl
  rw [e] at hr ⊢
  unfold mm_rw at hr
  have hd : i = 32 * (i / 32) + i % 32 := by omega
  generalize i / 32 = a at hr hd
  generalize i % 32 = b at hr hd
  subst hd
  match a with
  | 0 => exact mm_okc_at _ _ _ mm_k137_0 b r hr
  | a + 1 => exact absurd hr (by simp [mm_r137])
theorem mm_a138 : ∀ (i : Nat) (r : mm_R), mm_rw (mm_rows 138) i = some r → ∃ h, mm_ok (mm_I 138) (mm_rows 138) i h r = true := by
  intro i r hr
  have e : mm_rows 138 = mm_r138 := rfl
  rw [e] at hr ⊢
  unfold mm_rw at hr
  have hd : i = 32 * (i / 32) + i % 32 := by omega
  generalize i / 32 = a at hr hd
  generalize i % 32 = b at hr hd
  subst hd
  match a with
  | 0 => exact mm_okc_at _ _ _ mm_k138_0 b r hr
  | 1 => exact mm_okc_at _ _ _ mm_k138_1 b r hr
  | a + 2 => exact absurd hr (by simp [mm_r138])
theorem mm_a139 : ∀ (i : Nat) (r : mm_R), mm_rw (mm_rows 139) i = some r → ∃ h, mm_ok (mm_I 139) (mm_rows 139) i h r = true := by
  intro i r hr
  have e : mm_rows 139 = mm_r139 := rfl
  rw [e] at hr ⊢
  unfold mm_rw at hr
  have hd : i = 32 * (i / 32) + i % 32 := by omega
  generalize i / 32 = a at hr hd
  generalize i % 32 = b at hr hd
  subst hd
  match a with
  | 0 => exact mm_okc_at _ _ _ mm_k139_0 b r hr
  | 1 => exact mm_okc_at _ _ _ mm_k139_1 b r hr
  | 2 => exact mm_okc_at _ _ _ mm_k139_2 b r hr
  | 3 => exact mm_okc_at _ _ _ mm_k139_3 b r hr
  | 4 => exact mm_okc_at _ _ _ mm_k139_4 b r hr
  | 5 => exact mm_okc_at _ _ _ mm_k139_5 b r hr
  | a + 6 => exact absurd hr (by simp [mm_r139])
theorem mm_a140 : ∀ (i : Nat) (r : mm_R), mm_rw (mm_rows 140) i = some r → ∃ h, mm_ok (mm_I 140) (mm_rows 140) i h r = true := by
  intro i r hr
  have e : mm_rows 140 = mm_r140 := rfl
  rw [e] at hr ⊢
  unfold mm_rw at hr
  have hd : i = 32 * (i / 32) + i % 32 := by omega
  generalize i / 32 = a at hr hd
  generalize i % 32 = b at hr hd
  subst hd
  match a with
  | 0 => exact mm_okc_at _ _ _ mm_k140_0 b r hr
  | 1 => exact mm_okc_at _ _ _ mm_k140_1 b r hr
  | 2 => exact mm_okc_at _ _ _ mm_k140_2 b r hr
  | 3 => exact mm_okc_at _ _ _ mm_k140_3 b r hr
  | a + 4 => exact absurd hr (by simp [mm_r140])
theorem mm_a141 : ∀ (i : Nat) (r : mm_R), mm_rw (mm_rows 141) i = some r → ∃ h, mm_ok (mm_I 141) (mm_rows 141) i h r = true := by
  intro i r hr
  have e : mm_rows 141 = mm_r141 := rfl
  rw [e] at hr ⊢
  unfold mm_rw at hr
  have hd : i = 32 * (i / 32) + i % 32 := by omega
  generalize i / 32 = a at hr hd
  generalize i % 32 = b at hr hd
  subst hd
  match a with
  | 0 => exact mm_okc_at _ _ _ mm_k141_0 b r hr
  | 1 => exact mm_okc_at _ _ _ mm_k141_1 b r hr
  | a + 2 => exact absurd hr (by simp [mm_r141])
theorem mm_a142 : ∀ (i : Nat) (r : mm_R), mm_rw (mm_rows 142) i = some r → ∃ h, mm_ok (mm_I 142) (mm_rows 142) i h r = true := by
  intro i r hr
  have e : mm_rows 142 = mm_r142 := rfl
  rw [e] at hr ⊢
  unfold mm_rw at hr
  have hd : i = 32 * (i / 32) + i % 32 := by omega
  generalize i / 32 = a at hr hd
  generalize i % 32 = b at hr hd
  subst hd
  match a with
  | 0 => exact mm_okc_at _ _ _ mm_k142_0 b r hr
  | 1 => exact mm_okc_at _ _ _ mm_k142_1 b r hr
  | 2 => exact mm_okc_at _ _ _ mm_k142_2 b r hr
  | 3 => exact mm_okc_at _ _ _ mm_k142_3 b r hr
  | 4 => exact mm_okc_at _ _ _ mm_k142_4 b r hr
  | 5 => exact mm_okc_at _ _ _ mm_k142_5 b r hr
  | a + 6 => exact absurd hr (by simp [mm_r142])
theorem mm_a143 : ∀ (i : Nat) (r : mm_R), mm_rw (mm_rows 143) i = some r → ∃ h, mm_ok (mm_I 143) (mm_rows 143) i h r = true := by
  intro i r hr
  have e : mm_rows 143 = mm_r143 := rfl
  rw [e] at hr ⊢
  unfold mm_rw at hr
  have hd : i = 32 * (i / 32) + i % 32 := by omega
  generalize i / 32 = a at hr hd
  generalize i % 32 = b at hr hd
  subst hd
  match a with
  | 0 => exact mm_okc_at _ _ _ mm_k143_0 b r hr
  | 1 => exact mm_okc_at _ _ _ mm_k143_1 b r hr
  | a + 2 => exact absurd hr (by simp [mm_r143])
theorem mm_a144 : ∀ (i : Nat) (r : mm_R), mm_rw (mm_rows 144) i = some r → ∃ h, mm_ok (mm_I 144) (mm_rows 144) i h r = true := by
  intro i r hr
  have e : mm_rows 144 = mm_r144 := rfl
  rw [e] at hr ⊢
  unfold mm_rw at hr
  have hd : i = 32 * (i / 32) + i % 32 := by omega
  generalize i / 32 = a at hr hd
  generalize i % 32 = b at hr hd
  subst hd
  match a with
  | 0 => exact mm_okc_at _ _ _ mm_k144_0 b r hr
  | 1 => exact mm_okc_at _ _ _ mm_k144_1 b r hr
  | a + 2 => exact absurd hr (by simp [mm_r144])
theorem mm_a145 : ∀ (i : Nat) (r : mm_R), mm_rw (mm_rows 145) i = some r → ∃ h, mm_ok (mm_I 145) (mm_rows 145) i h r = true := by
  intro i r hr
  have e : mm_rows 145 = mm_r145 := rfl
  rw [e] at hr ⊢
  unfold mm_rw at hr
  have hd : i = 32 * (i / 32) + i % 32 := by omega
  generalize i / 32 = a at hr hd
  generalize i % 32 = b at hr hd
  subst hd
  match a with
  | 0 => exact mm_okc_at _ _ _ mm_k145_0 b r hr
  | a + 1 => exact absurd hr (by simp [mm_r145])
theorem mm_a146 : ∀ (i : Nat) (r : mm_R), mm_rw (mm_rows 146) i = some r → ∃ h, mm_ok (mm_I 146) (mm_rows 146) i h r = true := by
  intro i r hr
  have e : mm_rows 146 = mm_r146 := rfl
  rw [e] at hr ⊢
  unfold mm_rw at hr
  have hd : i = 32 * (i / 32) + i % 32 := by omega
  generalize i / 32 = a at hr hd
  generalize i % 32 = b at hr hd
  subst hd
  match a with
  | 0 => exact mm_okc_at _ _ _ mm_k146_0 b r hr
  | a + 1 => exact absurd hr (by simp [mm_r146])
theorem mm_a147 : ∀ (i : Nat) (r : mm_R), mm_rw (mm_rows 147) i = some r → ∃ h, mm_ok (mm_I 147) (mm_rows 147) i h r = true := by
  intro i r hr
  have e : mm_rows 147 = mm_r147 := rfl
  rw [e] at hr ⊢
  unfold mm_rw at hr
  have hd : i = 32 * (i / 32) + i % 32 := by omega
  generalize i / 32 = a at hr hd
  generalize i % 32 = b at hr hd
  subst hd
  match a with
  | 0 => exact mm_okc_at _ _ _ mm_k147_0 b r hr
  | a + 1 => exact absurd hr (by simp [mm_r147])
theorem mm_a148 : ∀ (i : Nat) (r : mm_R), mm_rw (mm_rows 148) i = some r → ∃ h, mm_ok (mm_I 148) (mm_rows 148) i h r = true := by
  intro i r hr
  have e : mm_rows 148 = mm_r148 := rfl
  rw [e] at hr ⊢
  unfold mm_rw at hr
  have hd : i = 32 * (i / 32) + i % 32 := by omega
  generalize i / 32 = a at hr hd
  generalize i % 32 = b at hr hd
  subst hd
  match a with
  | 0 => exact mm_okc_at _ _ _ mm_k148_0 b r hr
  | a + 1 => exact absurd hr (by simp [mm_r148])
theorem mm_a149 : ∀ (i : Nat) (r : mm_R), mm_rw (mm_rows 149) i = some r → ∃ h, mm_ok (mm_I 149) (mm_rows 149) i h r = true := by
  intro i r hr
  have e : mm_rows 149 = mm_r149 := rfl
  rw [e] at hr ⊢
  unfold mm_rw at hr
  have hd : i = 32 * (i / 32) + i % 32 := by omega
  generalize i / 32 = a at hr hd
  generalize i % 32 = b at hr hd
  subst hd
  match a with
  | 0 => exact mm_okc_at _ _ _ mm_k149_0 b r hr
  | a + 1 => exact absurd hr (by simp [mm_r149])
theorem mm_a150 : ∀ (i : Nat) (r : mm_R), mm_rw (mm_rows 150) i = some r → ∃ h, mm_ok (mm_I 150) (mm_rows 150) i h r = true := by
  intro i r hr
  have e : mm_rows 150 = mm_r150 := rfl
  rw [e] at hr ⊢
  unfold mm_rw at hr
  have hd : i = 32 * (i / 32) + i % 32 := by omega
  generalize i / 32 = a at hr hd
  generalize i % 32 = b at hr hd
  subst hd
  match a with
  | 0 => exact mm_okc_at _ _ _ mm_k150_0 b r hr
  | a + 1 => exact absurd hr (by simp [mm_r150])
theorem mm_a151 : ∀ (i : Nat) (r : mm_R), mm_rw (mm_rows 151) i = some r → ∃ h, mm_ok (mm_I 151) (mm_rows 151) i h r = true := by
  intro i r hr
  have e : mm_rows 151 = mm_r151 := rfl
  rw [e] at hr ⊢
  unfold mm_rw at hr
  have hd : i = 32 * (i / 32) + i % 32 := by omega
  generalize i / 32 = a at hr hd
  generalize i % 32 = b at hr hd
  subst hd
  match a with
  | 0 => exact mm_okc_at _ _ _ mm_k151_0 b r hr
  | a + 1 => exact absurd hr (by simp [mm_r151])
theorem mm_a152 : ∀ (i : Nat) (r : mm_R), mm_rw (mm_rows 152) i = some r → ∃ h, mm_ok (mm_I 152) (mm_rows 152) i h r = true := by
  intro i r hr
  have e : mm_rows 152 = mm_r152 := rfl
  rw [e] at hr ⊢
  unfold mm_rw at hr
  have hd : i = 32 * (i / 32) + i % 32 := by omega
  generalize i / 32 = a at hr hd
  generalize i % 32 = b at hr hd
  subst hd
  match a with
  | 0 => exact mm_okc_at _ _ _ mm_k152_0 b r hr
  | 1 => exact mm_okc_at _ _ _ mm_k152_1 b r hr
  | a + 2 => exact absurd hr (by simp [mm_r152])
theorem mm_a153 : ∀ (i : Nat) (r : mm_R), mm_rw (mm_rows 153) i = some r → ∃ h, mm_ok (mm_I 153) (mm_rows 153) i h r = true := by
  intro i r hr
  have e : mm_rows 153 = mm_r153 := rfl
  rw [e] at hr ⊢
  unfold mm_rw at hr
  have hd : i = 32 * (i / 32) + i % 32 := by omega
  generalize i / 32 = a at hr hd
  generalize i % 32 = b at hr hd
  subst hd
  match a with
  | 0 => exact mm_okc_at _ _ _ mm_k153_0 b r hr
  | a + 1 => exact absurd hr (by simp [mm_r153])
theorem mm_a154 : ∀ (i : Nat) (r : mm_R), mm_rw (mm_rows 154) i = some r → ∃ h, mm_ok (mm_I 154) (mm_rows 154) i h r = true := by
  intro i r hr
  have e : mm_rows 154 = mm_r154 := rfl
  rw [e] at hr ⊢
  unfold mm_rw at hr
  have hd : i = 32 * (i / 32) + i % 32 := by omega
  generalize i / 32 = a at hr hd
  generalize i % 32 = b at hr hd
  subst hd
  match a with
  | 0 => exact mm_okc_at _ _ _ mm_k154_0 b r hr
  | 1 => exact mm_okc_at _ _ _ mm_k154_1 b r hr
  | 2 => exact mm_okc_at _ _ _ mm_k154_2 b r hr
  | a + 3 => exact absurd hr (by simp [mm_r154])
theorem mm_a155 : ∀ (i : Nat) (r : mm_R), mm_rw (mm_rows 155) i = some r → ∃ h, mm_ok (mm_I 155) (mm_rows 155) i h r = true := by
  intro i r hr
  have e : mm_rows 155 = mm_r155 := rfl
  rw [e] at hr ⊢
  unfold mm_rw at hr
  have hd : i = 32 * (i / 32) + i % 32 := by omega
  generalize i / 32 = a at hr hd
  generalize i % 32 = b at hr hd
  subst hd
  match a with
  | 0 => exact mm_okc_at _ _ _ mm_k155_0 b r hr
  | 1 => exact mm_okc_at _ _ _ mm_k155_1 b r hr
  | 2 => exact mm_okc_at _ _ _ mm_k155_2 b r hr
  | 3 => exact mm_okc_at _ _ _ mm_k155_3 b r hr
  | a + 4 => exact absurd hr (by simp [mm_r155])
theorem mm_a156 : ∀ (i : Nat) (r : mm_R), mm_rw (mm_rows 156) i = some r → ∃ h, mm_ok (mm_I 156) (mm_rows 156) i h r = true := by
  intro i r hr
  have e : mm_rows 156 = mm_r156 := rfl
  rw [e] at hr ⊢
  unfold mm_rw at hr
  have hd : i = 32 * (i / 32) + i % 32 := by omega
  generalize i / 32 = a at hr hd
  generalize i % 32 = b at hr hd
  subst hd
  match a with
  | 0 => exact mm_okc_at _ _ _ mm_k156_0 b r hr
  | a + 1 => exact absurd hr (by simp [mm_r156])
theorem mm_a157 : ∀ (i : Nat) (r : mm_R), mm_rw (mm_rows 157) i = some r → ∃ h, mm_ok (mm_I 157) (mm_rows 157) i h r = true := by
  intro i r hr
  have e : mm_rows 157 = mm_r157 := rfl
  rw [e] at hr ⊢
  unfold mm_rw at hr
  have hd : i = 32 * (i / 32) + i % 32 := by omega
  generalize i / 32 = a at hr hd
  generalize i % 32 = b at hr hd
  subst hd
  match a with
  | 0 => exact mm_okc_at _ _ _ mm_k157_0 b r hr
  | a + 1 => exact absurd hr (by simp [mm_r157])
theorem mm_a158 : ∀ (i : Nat) (r : mm_R), mm_rw (mm_rows 158) i = some r → ∃ h, mm_ok (mm_I 158) (mm_rows 158) i h r = true := by
  intro i r hr
  have e : mm_rows 158 = mm_r158 := rfl
  rw [e] at hr ⊢
  unfold mm_rw at hr
  have hd : i = 32 * (i / 32) + i % 32 := by omega
  generalize i / 32 = a at hr hd
  generalize i % 32 = b at hr hd
  subst hd
  match a with
  | 0 => exact mm_okc_at _ _ _ mm_k158_0 b r hr
  | 1 => exact mm_okc_at _ _ _ mm_k158_1 b r hr
  | a + 2 => exact absurd hr (by simp [mm_r158])
theorem mm_a159 : ∀ (i : Nat) (r : mm_R), mm_rw (mm_rows 159) i = some r → ∃ h, mm_ok (mm_I 159) (mm_rows 159) i h r = true := by
  intro i r hr
  have e : mm_rows 159 = mm_r159 := rfl
  rw [e] at hr ⊢
  unfold mm_rw at hr
  have hd : i = 32 * (i / 32) + i % 32 := by omega
  generalize i / 32 = a at hr hd
  generalize i % 32 = b at hr hd
  subst hd
  match a with
  | 0 => exact mm_okc_at _ _ _ mm_k159_0 b r hr
  | a + 1 => exact absurd hr (by simp [mm_r159])
theorem mm_a160 : ∀ (i : Nat) (r : mm_R), mm_rw (mm_rows 160) i = some r → ∃ h, mm_ok (mm_I 160) (mm_rows 160) i h r = true := by
  intro i r hr
  have e : mm_rows 160 = mm_r160 := rfl
  rw [e] at hr ⊢
  unfold mm_rw at hr
  have hd : i = 32 * (i / 32) + i % 32 := by omega
  generalize i / 32 = a at hr hd
  generalize i % 32 = b at hr hd
  subst hd
  match a with
  | 0 => exact mm_okc_at _ _ _ mm_k160_0 b r hr
  | a + 1 => exact absurd hr (by simp [mm_r160])
theorem mm_a161 : ∀ (i : Nat) (r : mm_R), mm_rw (mm_rows 161) i = some r → ∃ h, mm_ok (mm_I 161) (mm_rows 161) i h r = true := by
  intro i r hr
  have e : mm_rows 161 = mm_r161 := rfl
  rw [e] at hr ⊢
  unfold mm_rw at hr
  have hd : i = 32 * (i / 32) + i % 32 := by omega
  generalize i / 32 = a at hr hd
  generalize i % 32 = b at hr hd
  subst hd
  match a with
  | 0 => exact mm_okc_at _ _ _ mm_k161_0 b r hr
  | a + 1 => exact absurd hr (by simp [mm_r161])
theorem mm_a162 : ∀ (i : Nat) (r : mm_R), mm_rw (mm_rows 162) i = some r → ∃ h, mm_ok (mm_I 162) (mm_rows 162) i h r = true := by
  intro i r hr
  have e : mm_rows 162 = mm_r162 := rfl
  rw [e] at hr ⊢
  unfold mm_rw at hr
  have hd : i = 32 * (i / 32) + i % 32 := by omega
  generalize i / 32 = a at hr hd
  generalize i % 32 = b at hr hd
  subst hd
  match a with
  | 0 => exact mm_okc_at _ _ _ mm_k162_0 b r hr
  | 1 => exact mm_okc_at _ _ _ mm_k162_1 b r hr
  | a + 2 => exact absurd hr (by simp [mm_r162])
theorem mm_a163 : ∀ (i : Nat) (r : mm_R), mm_rw (mm_rows 163) i = some r → ∃ h, mm_ok (mm_I 163) (mm_rows 163) i h r = true := by
  intro i r hr
  have e : mm_rows 163 = mm_r163 := rfl
  rw [e] at hr ⊢
  unfold mm_rw at hr
  have hd : i = 32 * (i / 32) + i % 32 := by omega
  generalize i / 32 = a at hr hd
  generalize i % 32 = b at hr hd
  subst hd
  match a with
  | 0 => exact mm_okc_at _ _ _ mm_k163_0 b r hr
  | a + 1 => exact absurd hr (by simp [mm_r163])
theorem mm_a164 : ∀ (i : Nat) (r : mm_R), mm_rw (mm_rows 164) i = some r → ∃ h, mm_ok (mm_I 164) (mm_rows 164) i h r = true := by
  intro i r hr
  have e : mm_rows 164 = mm_r164 := rfl
  rw [e] at hr ⊢
  unfold mm_rw at hr
  have hd : i = 32 * (i / 32) + i % 32 := by omega
  generalize i / 32 = a at hr hd
  generalize i % 32 = b at hr hd
  subst hd
  match a with
  | 0 => exact mm_okc_at _ _ _ mm_k164_0 b r hr
  | a + 1 => exact absurd hr (by simp [mm_r164])
theorem mm_a165 : ∀ (i : Nat) (r : mm_R), mm_rw (mm_rows 165) i = some r → ∃ h, mm_ok (mm_I 165) (mm_rows 165) i h r = true := by
  intro i r hr
  have e : mm_rows 165 = mm_r165 := rfl
  rw [e] at hr ⊢
  unfold mm_rw at hr
  have hd : i = 32 * (i / 32) + i % 32 := by omega
  generalize i / 32 = a at hr hd
  generalize i % 32 = b at hr hd
  subst hd
  match a with
  | 0 => exact mm_okc_at _ _ _ mm_k165_0 b r hr
  | 1 => exact mm_okc_at _ _ _ mm_k165_1 b r hr
  | 2 => exact mm_okc_at _ _ _ mm_k165_2 b r hr
  | a + 3 => exact absurd hr (by simp [mm_r165])
theorem mm_a166 : ∀ (i : Nat) (r : mm_R), mm_rw (mm_rows 166) i = some r → ∃ h, mm_ok (mm_I 166) (mm_rows 166) i h r = true := by
  intro i r hr
  have e : mm_rows 166 = mm_r166 := rfl
  rw [e] at hr ⊢
  unfold mm_rw at hr
  have hd : i = 32 * (i / 32) + i % 32 := by omega
  generalize i / 32 = a at hr hd
  generalize i % 32 = b at hr hd
  subst hd
  match a with
  | 0 => exact mm_okc_at _ _ _ mm_k166_0 b r hr
  | 1 => exact mm_okc_at _ _ _ mm_k166_1 b r hr
  | a + 2 => exact absurd hr (by simp [mm_r166])
theorem mm_a167 : ∀ (i : Nat) (r : mm_R), mm_rw (mm_rows 167) i = some r → ∃ h, mm_ok (mm_I 167) (mm_rows 167) i h r = true := by
  intro i r hr
  have e : mm_rows 167 = mm_r167 := rfl
  rw [e] at hr ⊢
  unfold mm_rw at hr
  have hd : i = 32 * (i / 32) + i % 32 := by omega
  generalize i / 32 = a at hr hd
  generalize i % 32 = b at hr hd
  subst hd
  match a with
  | 0 => exact mm_okc_at _ _ _ mm_k167_0 b r hr
  | 1 => exact mm_okc_at _ _ _ mm_k167_1 b r hr
  | a + 2 => exact absurd hr (by simp [mm_r167])
theorem mm_a168 : ∀ (i : Nat) (r : mm_R), mm_rw (mm_rows 168) i = some r → ∃ h, mm_ok (mm_I 168) (mm_rows 168) i h r = true := by
  intro i r hr
  have e : mm_rows 168 = mm_r168 := rfl
  rw [e] at hr ⊢
  unfold mm_rw at hr
  have hd : i = 32 * (i / 32) + i % 32 := by omega
  generalize i / 32 = a at hr hd
  generalize i % 32 = b at hr hd
  subst hd
  match a with
  | 0 => exact mm_okc_at _ _ _ mm_k168_0 b r hr
  | 1 => exact mm_okc_at _ _ _ mm_k168_1 b r hr
  | 2 => exact mm_okc_at _ _ _ mm_k168_2 b r hr
  | a + 3 => exact absurd hr (by simp [mm_r168])
theorem mm_a169 : ∀ (i : Nat) (r : mm_R), mm_rw (mm_rows 169) i = some r → ∃ h, mm_ok (mm_I 169) (mm_rows 169) i h r = true := by
  intro i r hr
  have e : mm_rows 169 = mm_r169 := rfl
  rw [e] at hr ⊢
  unfold mm_rw at hr
  have hd : i = 32 * (i / 32) + i % 32 := by omega
  generalize i / 32 = a at hr hd
  generalize i % 32 = b at hr hd
  subst hd
  match a with
  | 0 => exact mm_okc_at _ _ _ mm_k169_0 b r hr
  | a + 1 => exact absurd hr (by simp [mm_r169])
theorem mm_a170 : ∀ (i : Nat) (r : mm_R), mm_rw (mm_rows 170) i = some r → ∃ h, mm_ok (mm_I 170) (mm_rows 170) i h r = true := by
  intro i r hr
  have e : mm_rows 170 = mm_r170 := rfl
  rw [e] at hr ⊢
  unfold mm_rw at hr
  have hd : i = 32 * (i / 32) + i % 32 := by omega
  generalize i / 32 = a at hr hd
  generalize i % 32 = b at hr hd
  subst hd
  match a with
  | 0 => exact mm_okc_at _ _ _ mm_k170_0 b r hr
  | a + 1 => exact absurd hr (by simp [mm_r170])
theorem mm_a171 : ∀ (i : Nat) (r : mm_R), mm_rw (mm_rows 171) i = some r → ∃ h, mm_ok (mm_I 171) (mm_rows 171) i h r = true := by
  intro i r hr
  have e : mm_rows 171 = mm_r171 := rfl
  rw [e] at hr ⊢
  unfold mm_rw at hr
  have hd : i = 32 * (i / 32) + i % 32 := by omega
  generalize i / 32 = a at hr hd
  generalize i % 32 = b at hr hd
  subst hd
  match a with
  | 0 => exact mm_okc_at _ _ _ mm_k171_0 b r hr
  | 1 => exact mm_okc_at _ _ _ mm_k171_1 b r hr
  | a + 2 => exact absurd hr (by simp [mm_r171])
theorem mm_a172 : ∀ (i : Nat) (r : mm_R), mm_rw (mm_rows 172) i = some r → ∃ h, mm_ok (mm_I 172) (mm_rows 172) i h r = true := by
  intro i r hr
  have e : mm_rows 172 = mm_r172 := rfl
  rw [e] at hr ⊢
  unfold mm_rw at hr
  have hd : i = 32 * (i / 32) + i % 32 := by omega
  generalize i / 32 = a at hr hd
  generalize i % 32 = b at hr hd
  subst hd
  match a with
  | 0 => exact mm_okc_at _ _ _ mm_k172_0 b r hr
  | 1 => exact mm_okc_at _ _ _ mm_k172_1 b r hr
  | a + 2 => exact absurd hr (by simp [mm_r172])
theorem mm_a173 : ∀ (i : Nat) (r : mm_R), mm_rw (mm_rows 173) i = some r → ∃ h, mm_ok (mm_I 173) (mm_rows 173) i h r = true := by
  intro i r hr
  have e : mm_rows 173 = mm_r173 := rfl
  rw [e] at hr ⊢
  unfold mm_rw at hr
  have hd : i = 32 * (i / 32) + i % 32 := by omega
  generalize i / 32 = a at hr hd
  generalize i % 32 = b at hr hd
  subst hd
  match a with
  | 0 => exact mm_okc_at _ _ _ mm_k173_0 b r hr
  | 1 => exact mm_okc_at _ _ _ mm_k173_1 b r hr
  | 2 => exact mm_okc_at _ _ _ mm_k173_2 b r hr
  | a + 3 => exact absurd hr (by simp [mm_r173])
theorem mm_a174 : ∀ (i : Nat) (r : mm_R), mm_rw (mm_rows 174) i = some r → ∃ h, mm_ok (mm_I 174) (mm_rows 174) i h r = true := by
  intro i r hr
  have e : mm_rows 174 = mm_r174 := rfl
  rw [e] at hr ⊢
  unfold mm_rw at hr
  have hd : i = 32 * (i / 32) + i % 32 := by omega
  generalize i / 32 = a at hr hd
  generalize i % 32 = b at hr hd
  subst hd
  match a with
  | 0 => exact mm_okc_at _ _ _ mm_k174_0 b r hr
  | 1 => exact mm_okc_at _ _ _ mm_k174_1 b r hr
  | a + 2 => exact absurd hr (by simp [mm_r174])
theorem mm_a175 : ∀ (i : Nat) (r : mm_R), mm_rw (mm_rows 175) i = some r → ∃ h, mm_ok (mm_I 175) (mm_rows 175) i h r = true := by
  intro i r hr
  have e : mm_rows 175 = mm_r175 := rfl
  rw [e] at hr ⊢
  unfold mm_rw at hr
  have hd : i = 32 * (i / 32) + i % 32 := by omega
  generalize i / 32 = a at hr hd
  generalize i % 32 = b at hr hd
  subst hd
  match a with
  | 0 => exact mm_okc_at _ _ _ mm_k175_0 b r hr
  | 1 => exact mm_okc_at _ _ _ mm_k175_1 b r hr
  | a + 2 => exact absurd hr (by simp [mm_r175])
theorem mm_a176 : ∀ (i : Nat) (r : mm_R), mm_rw (mm_rows 176) i = some r → ∃ h, mm_ok (mm_I 176) (mm_rows 176) i h r = true := by
  intro i r hr
  have e : mm_rows 176 = mm_r176 := rfl
  rw [e] at hr ⊢
  unfold mm_rw at hr
  have hd : i = 32 * (i / 32) + i % 32 := by omega
  generalize i / 32 = a at hr hd
  generalize i % 32 = b at hr hd
  subst hd
  match a with
  | 0 => exact mm_okc_at _ _ _ mm_k176_0 b r hr
  | 1 => exact mm_okc_at _ _ _ mm_k176_1 b r hr
  | a + 2 => exact absurd hr (by simp [mm_r176])
theorem mm_a177 : ∀ (i : Nat) (r : mm_R), mm_rw (mm_rows 177) i = some r → ∃ h, mm_ok (mm_I 177) (mm_rows 177) i h r = true := by
  intro i r hr
  have e : mm_rows 177 = mm_r177 := rfl
  rw [e] at hr ⊢
  unfold mm_rw at hr
  have hd : i = 32 * (i / 32) + i % 32 := by omega
  generalize i / 32 = a at hr hd
  generalize i % 32 = b at hr hd
  subst hd
  match a with
  | 0 => exact mm_okc_at _ _ _ mm_k177_0 b r hr
  | 1 => exact mm_okc_at _ _ _ mm_k177_1 b r hr
  | a + 2 => exact absurd hr (by simp [mm_r177])
theorem mm_a178 : ∀ (i : Nat) (r : mm_R), mm_rw (mm_rows 178) i = some r → ∃ h, mm_ok (mm_I 178) (mm_rows 178) i h r = true := by
  intro i r hr
  have e : mm_rows 178 = mm_r178 := rfl
  rw [e] at hr ⊢
  unfold mm_rw at hr
  have hd : i = 32 * (i / 32) + i % 32 := by omega
  generalize i / 32 = a at hr hd
  generalize i % 32 = b at hr hd
  subst hd
  match a with
  | 0 => exact mm_okc_at _ _ _ mm_k178_0 b r hr
  | a + 1 => exact absurd hr (by simp [mm_r178])
theorem mm_a179 : ∀ (i : Nat) (r : mm_R), mm_rw (mm_rows 179) i = some r → ∃ h, mm_ok (mm_I 179) (mm_rows 179) i h r = true := by
  intro i r hr
  have e : mm_rows 179 = mm_r179 := rfl
  rw [e] at hr ⊢
  unfold mm_rw at hr
  have hd : i = 32 * (i / 32) + i % 32 := by omega
  generalize i / 32 = a at hr hd
  generalize i % 32 = b at hr hd
  subst hd
  match a with
  | 0 => exact mm_okc_at _ _ _ mm_k179_0 b r hr
  | a + 1 => exact absurd hr (by simp [mm_r179])
theorem mm_a180 : ∀ (i : Nat) (r : mm_R), mm_rw (mm_rows 180) i = some r → ∃ h, mm_ok (mm_I 180) (mm_rows 180) i h r = true := by
  intro i r hr
  have e : mm_rows 180 = mm_r180 := rfl
  rw [e] at hr ⊢
  unfold mm_rw at hr
  have hd : i = 32 * (i / 32) + i % 32 := by omega
  generalize i / 32 = a at hr hd
  generalize i % 32 = b at hr hd
  subst hd
  match a with
  | 0 => exact mm_okc_at _ _ _ mm_k180_0 b r hr
  | 1 => exact mm_okc_at _ _ _ mm_k180_1 b r hr
  | 2 => exact mm_okc_at _ _ _ mm_k180_2 b r hr
  | a + 3 => exact absurd hr (by simp [mm_r180])
theorem mm_a181 : ∀ (i : Nat) (r : mm_R), mm_rw (mm_rows 181) i = some r → ∃ h, mm_ok (mm_I 181) (mm_rows 181) i h r = true := by
  intro i r hr
  have e : mm_rows 181 = mm_r181 := rfl
  rw [e] at hr ⊢
  unfold mm_rw at hr
  have hd : i = 32 * (i / 32) + i % 32 := by omega
  generalize i / 32 = a at hr hd
  generalize i % 32 = b at hr hd
  subst hd
  match a with
  | 0 => exact mm_okc_at _ _ _ mm_k181_0 b r hr
  | 1 => exact mm_okc_at _ _ _ mm_k181_1 b r hr
  | 2 => exact mm_okc_at _ _ _ mm_k181_2 b r hr
  | a + 3 => exact absurd hr (by simp [mm_r181])
theorem mm_a182 : ∀ (i : Nat) (r : mm_R), mm_rw (mm_rows 182) i = some r → ∃ h, mm_ok (mm_I 182) (mm_rows 182) i h r = true := by
  intro i r hr
  have e : mm_rows 182 = mm_r182 := rfl
  rw [e] at hr ⊢
  unfold mm_rw at hr
  have hd : i = 32 * (i / 32) + i % 32 := by omega
  generalize i / 32 = a at hr hd
  generalize i % 32 = b at hr hd
  subst hd
  match a with
  | 0 => exact mm_okc_at _ _ _ mm_k182_0 b r hr
  | a + 1 => exact absurd hr (by simp [mm_r182])
theorem mm_a183 : ∀ (i : Nat) (r : mm_R), mm_rw (mm_rows 183) i = some r → ∃ h, mm_ok (mm_I 183) (mm_rows 183) i h r = true := by
  intro i r hr
  have e : mm_rows 183 = mm_r183 := rfl
  rw [e] at hr ⊢
  unfold mm_rw at hr
  have hd : i = 32 * (i / 32) + i % 32 := by omega
  generalize i / 32 = a at hr hd
  generalize i % 32 = b at hr hd
  subst hd
  match a with
  | 0 => exact mm_okc_at _ _ _ mm_k183_0 b r hr
  | 1 => exact mm_okc_at _ _ _ mm_k183_1 b r hr
  | a + 2 => exact absurd hr (by simp [mm_r183])
theorem mm_a184 : ∀ (i : Nat) (r : mm_R), mm_rw (mm_rows 184) i = some r → ∃ h, mm_ok (mm_I 184) (mm_rows 184) i h r = true := by
  intro i r hr
  have e : mm_rows 184 = mm_r184 := rfl
  rw [e] at hr ⊢
  unfold mm_rw at hr
  have hd : i = 32 * (i / 32) + i % 32 := by omega
  generalize i / 32 = a at hr hd
  generalize i % 32 = b at hr hd
  subst hd
  match a with
  | 0 => exact mm_okc_at _ _ _ mm_k184_0 b r hr
  | a + 1 => exact absurd hr (by simp [mm_r184])
theorem mm_a185 : ∀ (i : Nat) (r : mm_R), mm_rw (mm_rows 185) i = some r → ∃ h, mm_ok (mm_I 185) (mm_rows 185) i h r = true := by
  intro i r hr
  have e : mm_rows 185 = mm_r185 := rfl
  rw [e] at hr ⊢
  unfold mm_rw at hr
  have hd : i = 32 * (i / 32) + i % 32 := by omega
  generalize i / 32 = a at hr hd
  generalize i % 32 = b at hr hd
  subst hd
  match a with
  | 0 => exact mm_okc_at _ _ _ mm_k185_0 b r hr
  | 1 => exact mm_okc_at _ _ _ mm_k185_1 b r hr
  | 2 => exact mm_okc_at _ _ _ mm_k185_2 b r hr
  | a + 3 => exact absurd hr (by simp [mm_r185])
theorem mm_a186 : ∀ (i : Nat) (r : mm_R), mm_rw (mm_rows 186) i = some r → ∃ h, mm_ok (mm_I 186) (mm_rows 186) i h r = true := by
  intro i r hr
  have e : mm_rows 186 = mm_r186 := rfl
  rw [e] at hr ⊢
  unfold mm_rw at hr
  have hd : i = 32 * (i / 32) + i % 32 := by omega
  generalize i / 32 = a at hr hd
  generalize i % 32 = b at hr hd
  subst hd
  match a with
  | 0 => exact mm_okc_at _ _ _ mm_k186_0 b r hr
  | a + 1 => exact absurd hr (by simp [mm_r186])
theorem mm_a187 : ∀ (i : Nat) (r : mm_R), mm_rw (mm_rows 187) i = some r → ∃ h, mm_ok (mm_I 187) (mm_rows 187) i h r = true := by
  intro i r hr
  have e : mm_rows 187 = mm_r187 := rfl
  rw [e] at hr ⊢
  unfold mm_rw at hr
  have hd : i = 32 * (i / 32) + i % 32 := by omega
  generalize i / 32 = a at hr hd
  generalize i % 32 = b at hr hd
  subst hd
  match a with
  | 0 => exact mm_okc_at _ _ _ mm_k187_0 b r hr
  | a + 1 => exact absurd hr (by simp [mm_r187])
theorem mm_a188 : ∀ (i : Nat) (r : mm_R), mm_rw (mm_rows 188) i = some r → ∃ h, mm_ok (mm_I 188) (mm_rows 188) i h r = true := by
  intro i r hr
  have e : mm_rows 188 = mm_r188 := rfl
  rw [e] at hr ⊢
  unfold mm_rw at hr
  have hd : i = 32 * (i / 32) + i % 32 := by omega
  generalize i / 32 = a at hr hd
  generalize i % 32 = b at hr hd
  subst hd
  match a with
  | 0 => exact mm_okc_at _ _ _ mm_k188_0 b r hr
  | 1 => exact mm_okc_at _ _ _ mm_k188_1 b r hr
  | a + 2 => exact absurd hr (by simp [mm_r188])
theorem mm_a189 : ∀ (i : Nat) (r : mm_R), mm_rw (mm_rows 189) i = some r → ∃ h, mm_ok (mm_I 189) (mm_rows 189) i h r = true := by
  intro i r hr
  have e : mm_rows 189 = mm_r189 := rfl
  rw [e] at hr ⊢
  unfold mm_rw at hr
  have hd : i = 32 * (i / 32) + i % 32 := by omega
  generalize i / 32 = a at hr hd
  generalize i % 32 = b at hr hd
  subst hd
  match a with
  | 0 => exact mm_okc_at _ _ _ mm_k189_0 b r hr
  | 1 => exact mm_okc_at _ _ _ mm_k189_1 b r hr
  | a + 2 => exact absurd hr (by simp [mm_r189])
theorem mm_a190 : ∀ (i : Nat) (r : mm_R), mm_rw (mm_rows 190) i = some r → ∃ h, mm_ok (mm_I 190) (mm_rows 190) i h r = true := by
  intro i r hr
  have e : mm_rows 190 = mm_r190 := rfl
  rw [e] at hr ⊢
  unfold mm_rw at hr
  have hd : i = 32 * (i / 32) + i % 32 := by omega
  generalize i / 32 = a at hr hd
  generalize i % 32 = b at hr hd
  subst hd
  match a with
  | 0 => exact mm_okc_at _ _ _ mm_k190_0 b r hr
  | a + 1 => exact absurd hr (by simp [mm_r190])
theorem mm_a191 : ∀ (i : Nat) (r : mm_R), mm_rw (mm_rows 191) i = some r → ∃ h, mm_ok (mm_I 191) (mm_rows 191) i h r = true := by
  intro i r hr
  have e : mm_rows 191 = mm_r191 := rfl
  rw [e] at hr ⊢
  unfold mm_rw at hr
  have hd : i = 32 * (i / 32) + i % 32 := by omega
  generalize i / 32 = a at hr hd
  generalize i % 32 = b at hr hd
  subst hd
  match a with
  | 0 => exact mm_okc_at _ _ _ mm_k191_0 b r hr
  | a + 1 => exact absurd hr (by simp [mm_r191])
theorem mm_a192 : ∀ (i : Nat) (r : mm_R), mm_rw (mm_rows 192) i = some r → ∃ h, mm_ok (mm_I 192) (mm_rows 192) i h r = true := by
  intro i r hr
  have e : mm_rows 192 = mm_r192 := rfl
  rw [e] at hr ⊢
  unfold mm_rw at hr
  have hd : i = 32 * (i / 32) + i % 32 := by omega
  generalize i / 32 = a at hr hd
  generalize i % 32 = b at hr hd
  subst hd
  match a with
  | 0 => exact mm_okc_at _ _ _ mm_k192_0 b r hr
  | 1 => exact mm_okc_at _ _ _ mm_k192_1 b r hr
  | 2 => exact mm_okc_at _ _ _ mm_k192_2 b r hr
  | a + 3 => exact absurd hr (by simp [mm_r192])
theorem mm_a193 : ∀ (i : Nat) (r : mm_R), mm_rw (mm_rows 193) i = some r → ∃ h, mm_ok (mm_I 193) (mm_rows 193) i h r = true := by
  intro i r hr
  have e : mm_rows 193 = mm_r193 := rfl
  rw [e] at hr ⊢
  unfold mm_rw at hr
  have hd : i = 32 * (i / 32) + i % 32 := by omega
  generalize i / 32 = a at hr hd
  generalize i % 32 = b at hr hd
  subst hd
  match a with
  | 0 => exact mm_okc_at _ _ _ mm_k193_0 b r hr
  | 1 => exact mm_okc_at _ _ _ mm_k193_1 b r hr
  | a + 2 => exact absurd hr (by simp [mm_r193])
theorem mm_a194 : ∀ (i : Nat) (r : mm_R), mm_rw (mm_rows 194) i = some r → ∃ h, mm_ok (mm_I 194) (mm_rows 194) i h r = true := by
  intro i r hr
  have e : mm_rows 194 = mm_r194 := rfl
  rw [e] at hr ⊢
  unfold mm_rw at hr
  have hd : i = 32 * (i / 32) + i % 32 := by omega
  generalize i / 32 = a at hr hd
  generalize i % 32 = b at hr hd
  subst hd
  match a with
  | 0 => exact mm_okc_at _ _ _ mm_k194_0 b r hr
  | a + 1 => exact absurd hr (by simp [mm_r194])
theorem mm_a195 : ∀ (i : Nat) (r : mm_R), mm_rw (mm_rows 195) i = some r → ∃ h, mm_ok (mm_I 195) (mm_rows 195) i h r = true := by
  intro i r hr
  have e : mm_rows 195 = mm_r195 := rfl
  rw [e] at hr ⊢
  unfold mm_rw at hr
  have hd : i = 32 * (i / 32) + i % 32 := by omega
  generalize i / 32 = a at hr hd
  generalize i % 32 = b at hr hd
  subst hd
  match a with
  | 0 => exact mm_okc_at _ _ _ mm_k195_0 b r hr
  | 1 => exact mm_okc_at _ _ _ mm_k195_1 b r hr
  | a + 2 => exact absurd hr (by simp [mm_r195])
theorem mm_a196 : ∀ (i : Nat) (r : mm_R), mm_rw (mm_rows 196) i = some r → ∃ h, mm_ok (mm_I 196) (mm_rows 196) i h r = true := by
  intro i r hr
  have e : mm_rows 196 = mm_r196 := rfl
  rw [e] at hr ⊢
  unfold mm_rw at hr
  have hd : i = 32 * (i / 32) + i % 32 := by omega
  generalize i / 32 = a at hr hd
  generalize i % 32 = b at hr hd
  subst hd
  match a with
  | 0 => exact mm_okc_at _ _ _ mm_k196_0 b r hr
  | a + 1 => exact absurd hr (by simp [mm_r196])
theorem mm_a197 : ∀ (i : Nat) (r : mm_R), mm_rw (mm_rows 197) i = some r → ∃ h, mm_ok (mm_I 197) (mm_rows 197) i h r = true := by
  intro i r hr
  have e : mm_rows 197 = mm_r197 := rfl
  rw [e] at hr ⊢
  unfold mm_rw at hr
  have hd : i = 32 * (i / 32) + i % 32 := by omega
  generalize i / 32 = a at hr hd
  generalize i % 32 = b at hr hd
  subst hd
  match a with
  | 0 => exact mm_okc_at _ _ _ mm_k197_0 b r hr
  | 1 => exact mm_okc_at _ _ _ mm_k197_1 b r hr
  | a + 2 => exact absurd hr (by simp [mm_r197])
theorem mm_a198 : ∀ (i : Nat) (r : mm_R), mm_rw (mm_rows 198) i = some r → ∃ h, mm_ok (mm_I 198) (mm_rows 198) i h r = true := by
  intro i r hr
  have e : mm_rows 198 = mm_r198 := rfl
  rw [e] at hr ⊢
  unfold mm_rw at hr
  have hd : i = 32 * (i / 32) + i % 32 := by omega
  generalize i / 32 = a at hr hd
  generalize i % 32 = b at hr hd
  subst hd
  match a with
  | 0 => exact mm_okc_at _ _ _ mm_k198_0 b r hr
  | a + 1 => exact absurd hr (by simp [mm_r198])
theorem mm_a199 : ∀ (i : Nat) (r : mm_R), mm_rw (mm_rows 199) i = some r → ∃ h, mm_ok (mm_I 199) (mm_rows 199) i h r = true := by
  intro i r hr
  have e : mm_rows 199 = mm_r199 := rfl
  rw [e] at hr ⊢
  unfold mm_rw at hr
  have hd : i = 32 * (i / 32) + i % 32 := by omega
  generalize i / 32 = a at hr hd
  generalize i % 32 = b at hr hd
  subst hd
  match a with
  | 0 => exact mm_okc_at _ _ _ mm_k199_0 b r hr
  | 1 => exact mm_okc_at _ _ _ mm_k199_1 b r hr
  | a + 2 => exact absurd hr (by simp [mm_r199])
theorem mm_a200 : ∀ (i : Nat) (r : mm_R), mm_rw (mm_rows 200) i = some r → ∃ h, mm_ok (mm_I 200) (mm_rows 200) i h r = true := by
  intro i r hr
  have e : mm_rows 200 = mm_r200 := rfl
  rw [e] at hr ⊢
  unfold mm_rw at hr
  have hd : i = 32 * (i / 32) + i % 32 := by omega
  generalize i / 32 = a at hr hd
  generalize i % 32 = b at hr hd
  subst hd
  match a with
  | 0 => exact mm_okc_at _ _ _ mm_k200_0 b r hr
  | a + 1 => exact absurd hr (by simp [mm_r200])
theorem mm_a201 : ∀ (i : Nat) (r : mm_R), mm_rw (mm_rows 201) i = some r → ∃ h, mm_ok (mm_I 201) (mm_rows 201) i h r = true := by
  intro i r hr
  have e : mm_rows 201 = mm_r201 := rfl
  rw [e] at hr ⊢
  unfold mm_rw at hr
  have hd : i = 32 * (i / 32) + i % 32 := by omega
  generalize i / 32 = a at hr hd
  generalize i % 32 = b at hr hd
  subst hd
  match a with
  | 0 => exact mm_okc_at _ _ _ mm_k201_0 b r hr
  | a + 1 => exact absurd hr (by simp [mm_r201])
theorem mm_a202 : ∀ (i : Nat) (r : mm_R), mm_rw (mm_rows 202) i = some r → ∃ h, mm_ok (mm_I 202) (mm_rows 202) i h r = true := by
  intro i r hr
  have e : mm_rows 202 = mm_r202 := rfl
  rw [e] at hr ⊢
  unfold mm_rw at hr
  have hd : i = 32 * (i / 32) + i % 32 := by omega
  generalize i / 32 = a at hr hd
  generalize i % 32 = b at hr hd
  subst hd
  match a with
  | 0 => exact mm_okc_at _ _ _ mm_k202_0 b r hr
  | 1 => exact mm_okc_at _ _ _ mm_k202_1 b r hr
  | 2 => exact mm_okc_at _ _ _ mm_k202_2 b r hr
  | 3 => exact mm_okc_at _ _ _ mm_k202_3 b r hr
  | a + 4 => exact absurd hr (by simp [mm_r202])
theorem mm_a203 : ∀ (i : Nat) (r : mm_R), mm_rw (mm_rows 203) i = some r → ∃ h, mm_ok (mm_I 203) (mm_rows 203) i h r = true := by
  intro i r hr
  have e : mm_rows 203 = mm_r203 := rfl
  rw [e] at hr ⊢
  unfold mm_rw at hr
  have hd : i = 32 * (i / 32) + i % 32 := by omega
  generalize i / 32 = a at hr hd
  generalize i % 32 = b at hr hd
  subst hd
  match a with
  | 0 => exact mm_okc_at _ _ _ mm_k203_0 b r hr
  | 1 => exact mm_okc_at _ _ _ mm_k203_1 b r hr
  | 2 => exact mm_okc_at _ _ _ mm_k203_2 b r hr
  | 3 => exact mm_okc_at _ _ _ mm_k203_3 b r hr
  | 4 => exact mm_okc_at _ _ _ mm_k203_4 b r hr
  | 5 => exact mm_okc_at _ _ _ mm_k203_5 b r hr
  | 6 => exact mm_okc_at _ _ _ mm_k203_6 b r hr
  | 7 => exact mm_okc_at _ _ _ mm_k203_7 b r hr
  | 8 => exact mm_okc_at _ _ _ mm_k203_8 b r hr
  | 9 => exact mm_okc_at _ _ _ mm_k203_9 b r hr
  | 10 => exact mm_okc_at _ _ _ mm_k203_10 b r hr
  | 11 => exact mm_okc_at _ _ _ mm_k203_11 b r hr
  | 12 => exact mm_okc_at _ _ _ mm_k203_12 b r hr
  | 13 => exact mm_okc_at _ _ _ mm_k203_13 b r hr
  | 14 => exact mm_okc_at _ _ _ mm_k203_14 b r hr
  | 15 => exact mm_okc_at _ _ _ mm_k203_15 b r hr
  | 16 => exact mm_okc_at _ _ _ mm_k203_16 b r hr
  | 17 => exact mm_okc_at _ _ _ mm_k203_17 b r hr
  | 18 => exact mm_okc_at _ _ _ mm_k203_18 b r hr
  | 19 => exact mm_okc_at _ _ _ mm_k203_19 b r hr
  | 20 => exact mm_okc_at _ _ _ mm_k203_20 b r hr
  | 21 => exact mm_okc_at _ _ _ mm_k203_21 b r hr
  | 22 => exact mm_okc_at _ _ _ mm_k203_22 b r hr
  | 23 => exact mm_okc_at _ _ _ mm_k203_23 b r hr
  | 24 => exact mm_okc_at _ _ _ mm_k203_24 b r hr
  | 25 => exact mm_okc_at _ _ _ mm_k203_25 b r hr
  | 26 => exact mm_okc_at _ _ _ mm_k203_26 b r hr
  | 27 => exact mm_okc_at _ _ _ mm_k203_27 b r hr
  | a + 28 => exact absurd hr (by simp [mm_r203])
theorem mm_aall : ∀ (y i : Nat) (r : mm_R), mm_rw (mm_rows y) i = some r → ∃ h, mm_ok (mm_I y) (mm_rows y) i h r = true := by
  intro y i r hr
  match y with
  | 0 => exact mm_a0 i r hr
  | 1 => exact mm_a1 i r hr
  | 2 => exact mm_a2 i r hr
  | 3 => exact mm_a3 i r hr
  | 4 => exact mm_a4 i r hr
  | 5 => exact mm_a5 i r hr
  | 6 => exact mm_a6 i r hr
  | 7 => exact mm_a7 i r hr
  | 8 => exact mm_a8 i r hr
  | 9 => exact mm_a9 i r hr
  | 10 => exact mm_a10 i r hr
  | 11 => exact mm_a11 i r hr
  | 12 => exact mm_a12 i r hr
  | 13 => exact mm_a13 i r hr
  | 14 => exact mm_a14 i r hr
  | 15 => exact mm_a15 i r hr
  | 16 => exact mm_a16 i r hr
  | 17 => exact mm_a17 i r hr
  | 18 => exact mm_a18 i r hr
  | 19 => exact mm_a19 i r hr
  | 20 => exact mm_a20 i r hr
  | 21 => exact mm_a21 i r hr
  | 22 => exact mm_a22 i r hr
  | 23 => exact mm_a23 i r hr
  | 24 => exact mm_a24 i r hr
  | 25 => exact mm_a25 i r hr
  | 26 => exact mm_a26 i r hr
  | 27 => exact mm_a27 i r hr
  | 28 => exact mm_a28 i r hr
  | 29 => exact mm_a29 i r hr
  | 30 => exact mm_a30 i r hr
  | 31 => exact mm_a31 i r hr
  | 32 => exact mm_a32 i r hr
  | 33 => exact mm_a33 i r hr
  | 34 => exact mm_a34 i r hr
  | 35 => exact mm_a35 i r hr
  | 36 => exact mm_a36 i r hr
  | 37 => exact mm_a37 i r hr
  | 38 => exact mm_a38 i r hr
  | 39 => exact mm_a39 i r hr
  | 40 => exact mm_a40 i r hr
  | 41 => exact mm_a41 i r hr
  | 42 => exact mm_a42 i r hr
  | 43 => exact mm_a43 i r hr
  | 44 => exact mm_a44 i r hr
  | 45 => exact mm_a45 i r hr
  | 46 => exact mm_a46 i r hr
  | 47 => exact mm_a47 i r hr
  | 48 => exact mm_a48 i r hr
  | 49 => exact mm_a49 i r hr
  | 50 => exact mm_a50 i r hr
  | 51 => exact mm_a51 i r hr
  | 52 => exact mm_a52 i r hr
  | 53 => exact mm_a53 i r hr
  | 54 => exact mm_a54 i r hr
  | 55 => exact mm_a55 i r hr
  | 56 => exact mm_a56 i r hr
  | 57 => exact mm_a57 i r hr
  | 58 => exact mm_a58 i r hr
  | 59 => exact mm_a59 i r hr
  | 60 => exact mm_a60 i r hr
  | 61 => exact mm_a61 i r hr
  | 62 => exact mm_a62 i r hr
  | 63 => exact mm_a63 i r hr
  | 64 => exact mm_a64 i r hr
  | 65 => exact mm_a65 i r hr
  | 66 => exact mm_a66 i r hr
  | 67 => exact mm_a67 i r hr
  | 68 => exact mm_a68 i r hr
  | 69 => exact mm_a69 i r hr
  | 70 => exact mm_a70 i r hr
  | 71 => exact mm_a71 i r hr
  | 72 => exact mm_a72 i r hr
  | 73 => exact mm_a73 i r hr
  | 74 => exact mm_a74 i r hr
  | 75 => exact mm_a75 i r hr
  | 76 => exact mm_a76 i r hr
  | 77 => exact mm_a77 i r hr
  | 78 => exact mm_a78 i r hr
  | 79 => exact mm_a79 i r hr
  | 80 => exact mm_a80 i r hr
  | 81 => exact mm_a81 i r hr
  | 82 => exact mm_a82 i r hr
  | 83 => exact mm_a83 i r hr
  | 84 => exact mm_a84 i r hr
  | 85 => exact mm_a85 i r hr
  | 86 => exact mm_a86 i r hr
  | 87 => exact mm_a87 i r hr
  | 88 => exact mm_a88 i r hr
  | 89 => exact mm_a89 i r hr
  | 90 => exact mm_a90 i r hr
  | 91 => exact mm_a91 i r hr
  | 92 => exact mm_a92 i r hr
  | 93 => exact mm_a93 i r hr
  | 94 => exact mm_a94 i r hr
  | 95 => exact mm_a95 i r hr
  | 96 => exact mm_a96 i r hr
  | 97 => exact mm_a97 i r hr
  | 98 => exact mm_a98 i r hr
  | 99 => exact mm_a99 i r hr
  | 100 => exact mm_a100 i r hr
  | 101 => exact mm_a101 i r hr
  | 102 => exact mm_a102 i r hr
  | 103 => exact mm_a103 i r hr
  | 104 => exact mm_a104 i r hr
  | 105 => exact mm_a105 i r hr
  | 106 => exact mm_a106 i r hr
  | 107 => exact mm_a107 i r hr
  | 108 => exact mm_a108 i r hr
  | 109 => exact mm_a109 i r hr
  | 110 => exact mm_a110 i r hr
  | 111 => exact mm_a111 i r hr
  | 112 => exact mm_a112 i r hr
  | 113 => exact mm_a113 i r hr
  | 114 => exact mm_a114 i r hr
  | 115 => exact mm_a115 i r hr
  | 116 => exact mm_a116 i r hr
  | 117 => exact mm_a117 i r hr
  | 118 => exact mm_a118 i r hr
  | 119 => exact mm_a119 i r hr
  | 120 => exact mm_a120 i r hr
  | 121 => exact mm_a121 i r hr
  | 122 => exact mm_a122 i r hr
  | 123 => exact mm_a123 i r hr
  | 124 => exact mm_a124 i r hr
  | 125 => exact mm_a125 i r hr
  | 126 => exact mm_a126 i r hr
  | 127 => exact mm_a127 i r hr
  | 128 => exact mm_a128 i r hr
  | 129 => exact mm_a129 i r hr
  | 130 => exact mm_a130 i r hr
  | 131 => exact mm_a131 i r hr
  | 132 => exact mm_a132 i r hr
  | 133 => exact mm_a133 i r hr
  | 134 => exact mm_a134 i r hr
  | 135 => exact mm_a135 i r hr
  | 136 => exact mm_a136 i r hr
  | 137 => exact mm_a137 i r hr
  | 138 => exact mm_a138 i r hr
  | 139 => exact mm_a139 i r hr
  | 140 => exact mm_a140 i r hr
  | 141 => exact mm_a141 i r hr
  | 142 => exact mm_a142 i r hr
  | 143 => exact mm_a143 i r hr
  | 144 => exact mm_a144 i r hr
  | 145 => exact mm_a145 i r hr
  | 146 => exact mm_a146 i r hr
  | 147 => exact mm_a147 i r hr
  | 148 => exact mm_a148 i r hr
  | 149 => exact mm_a149 i r hr
  | 150 => exact mm_a150 i r hr
  | 151 => exact mm_a151 i r hr
  | 152 => exact mm_a152 i r hr
  | 153 => exact mm_a153 i r hr
  | 154 => exact mm_a154 i r hr
  | 155 => exact mm_a155 i r hr
  | 156 => exact mm_a156 i r hr
  | 157 => exact mm_a157 i r hr
  | 158 => exact mm_a158 i r hr
  | 159 => exact mm_a159 i r hr
  | 160 => exact mm_a160 i r hr
  | 161 => exact mm_a161 i r hr
  | 162 => exact mm_a162 i r hr
  | 163 => exact mm_a163 i r hr
  | 164 => exact mm_a164 i r hr
  | 165 => exact mm_a165 i r hr
  | 166 => exact mm_a166 i r hr
  | 167 => exact mm_a167 i r hr
  | 168 => exact mm_a168 i r hr
  | 169 => exact mm_a169 i r hr
  | 170 => exact mm_a170 i r hr
  | 171 => exact mm_a171 i r hr
  | 172 => exact mm_a172 i r hr
  | 173 => exact mm_a173 i r hr
  | 174 => exact mm_a174 i r hr
  | 175 => exact mm_a175 i r hr
  | 176 => exact mm_a176 i r hr
  | 177 => exact mm_a177 i r hr
  | 178 => exact mm_a178 i r hr
  | 179 => exact mm_a179 i r hr
  | 180 => exact mm_a180 i r hr
  | 181 => exact mm_a181 i r hr
  | 182 => exact mm_a182 i r hr
  | 183 => exact mm_a183 i r hr
  | 184 => exact mm_a184 i r hr
  | 185 => exact mm_a185 i r hr
  | 186 => exact mm_a186 i r hr
  | 187 => exact mm_a187 i r hr
  | 188 => exact mm_a188 i r hr
  | 189 => exact mm_a189 i r hr
  | 190 => exact mm_a190 i r hr
  | 191 => exact mm_a191 i r hr
  | 192 => exact mm_a192 i r hr
  | 193 => exact mm_a193 i r hr
  | 194 => exact mm_a194 i r hr
  | 195 => exact mm_a195 i r hr
  | 196 => exact mm_a196 i r hr
  | 197 => exact mm_a197 i r hr
  | 198 => exact mm_a198 i r hr
  | 199 => exact mm_a199 i r hr
  | 200 => exact mm_a200 i r hr
  | 201 => exact mm_a201 i r hr
  | 202 => exact mm_a202 i r hr
  | 203 => exact mm_a203 i r hr
  | y + 204 =>
    exfalso
    have e : mm_rows (y + 204) = [] := by
      unfold mm_rows mm_T
      have h1 : (y + 204) / 16 ≥ 12 := by omega
      have h2 : (y + 204) / 16 = 12 → (y + 204) % 16 ≥ 12 := by omega
      generalize (y + 204) / 16 = a at h1 h2
      generalize (y + 204) % 16 = b at h2
      match a, h1, h2 with
      | 12, _, h2 =>
        have h3 := h2 rfl
        match b, h3 with
        | b + 12, _ => simp [mm_T_12]
      | a + 13, _, _ => simp
    rw [e] at hr
    simp [mm_rw] at hr
theorem mm_mall : ∀ y, y < 203 → (y < 2 ∨ 4 < y) → ∃ h1 h2 h3 h4, mm_okm y h1 h2 h3 h4 = true := by
  intro y h1 h2
  match y, h1, h2 with
  | 0, _, _ => exact ⟨_, _, _, _, mm_m0⟩
  | 1, _, _ => exact ⟨_, _, _, _, mm_m1⟩
  | 2, _, h => exact absurd h (by decide)
  | 3, _, h => exact absurd h (by decide)
  | 4, _, h => exact absurd h (by decide)
  | 5, _, _ => exact ⟨_, _, _, _, mm_m5⟩
  | 6, _, _ => exact ⟨_, _, _, _, mm_m6⟩
  | 7, _, _ => exact ⟨_, _, _, _, mm_m7⟩
  | 8, _, _ => exact ⟨_, _, _, _, mm_m8⟩
  | 9, _, _ => exact ⟨_, _, _, _, mm_m9⟩
  | 10, _, _ => exact ⟨_, _, _, _, mm_m10⟩
  | 11, _, _ => exact ⟨_, _, _, _, mm_m11⟩
  | 12, _, _ => exact ⟨_, _, _, _, mm_m12⟩
  | 13, _, _ => exact ⟨_, _, _, _, mm_m13⟩
  | 14, _, _ => exact ⟨_, _, _, _, mm_m14⟩
  | 15, _, _ => exact ⟨_, _, _, _, mm_m15⟩
  | 16, _, _ => exact ⟨_, _, _, _, mm_m16⟩
  | 17, _, _ => exact ⟨_, _, _, _, mm_m17⟩
  | 18, _, _ => exact ⟨_, _, _, _, mm_m18⟩
  | 19, _, _ => exact ⟨_, _, _, _, mm_m19⟩
  | 20, _, _ => exact ⟨_, _, _, _, mm_m20⟩
  | 21, _, _ => exact ⟨_, _, _, _, mm_m21⟩
  | 22, _, _ => exact ⟨_, _, _, _, mm_m22⟩
  | 23, _, _ => exact ⟨_, _, _, _, mm_m23⟩
  | 24, _, _ => exact ⟨_, _, _, _, mm_m24⟩
  | 25, _, _ => exact ⟨_, _, _, _, mm_m25⟩
  | 26, _, _ => exact ⟨_, _, _, _, mm_m26⟩
  | 27, _, _ => exact ⟨_, _, _, _, mm_m27⟩
  | 28, _, _ => exact ⟨_, _, _, _, mm_m28⟩
  | 29, _, _ => exact ⟨_, _, _, _, mm_m29⟩
  | 30, _, _ => exact ⟨_, _, _, _, mm_m30⟩
  | 31, _, _ => exact ⟨_, _, _, _, mm_m31⟩
  | 32, _, _ => exact ⟨_, _, _, _, mm_m32⟩
  | 33, _, _ => exact ⟨_, _, _, _, mm_m33⟩
  | 34, _, _ => exact ⟨_, _, _, _, mm_m34⟩
  | 35, _, _ => exact ⟨_, _, _, _, mm_m35⟩
  | 36, _, _ => exact ⟨_, _, _, _, mm_m36⟩
  | 37, _, _ => exact ⟨_, _, _, _, mm_m37⟩
  | 38, _, _ => exact ⟨_, _, _, _, mm_m38⟩
  | 39, _, _ => exact ⟨_, _, _, _, mm_m39⟩
  | 40, _, _ => exact ⟨_, _, _, _, mm_m40⟩
  | 41, _, _ => exact ⟨_, _, _, _, mm_m41⟩
  | 42, _, _ => exact ⟨_, _, _, _, mm_m42⟩
  | 43, _, _ => exact ⟨_, _, _, _, mm_m43⟩
  | 44, _, _ => exact ⟨_, _, _, _, mm_m44⟩
  | 45, _, _ => exact ⟨_, _, _, _, mm_m45⟩
  | 46, _, _ => exact ⟨_, _, _, _, mm_m46⟩
  | 47, _, _ => exact ⟨_, _, _, _, mm_m47⟩
  | 48, _, _ => exact ⟨_, _, _, _, mm_m48⟩
  | 49, _, _ => exact ⟨_, _, _, _, mm_m49⟩
  | 50, _, _ => exact ⟨_, _, _, _, mm_m50⟩
  | 51, _, _ => exact ⟨_, _, _, _, mm_m51⟩
  | 52, _, _ => exact ⟨_, _, _, _, mm_m52⟩
  | 53, _, _ => exact ⟨_, _, _, _, mm_m53⟩
  | 54, _, _ => exact ⟨_, _, _, _, mm_m54⟩
  | 55, _, _ => exact ⟨_, _, _, _, mm_m55⟩
  | 56, _, _ => exact ⟨_, _, _, _, mm_m56⟩
  | 57, _, _ => exact ⟨_, _, _, _, mm_m57⟩
  | 58, _, _ => exact ⟨_, _, _, _, mm_m58⟩
  | 59, _, _ => exact ⟨_, _, _, _, mm_m59⟩
  | 60, _, _ => exact ⟨_, _, _, _, mm_m60⟩
  | 61, _, _ => exact ⟨_, _, _, _, mm_m61⟩
  | 62, _, _ => exact ⟨_, _, _, _, mm_m62⟩
  | 63, _, _ => exact ⟨_, _, _, _, mm_m63⟩
  | 64, _, _ => exact ⟨_, _, _, _, mm_m64⟩
  | 65, _, _ => exact ⟨_, _, _, _, mm_m65⟩
  | 66, _, _ => exact ⟨_, _, _, _, mm_m66⟩
  | 67, _, _ => exact ⟨_, _, _, _, mm_m67⟩
  | 68, _, _ => exact ⟨_, _, _, _, mm_m68⟩
  | 69, _, _ => exact ⟨_, _, _, _, mm_m69⟩
  | 70, _, _ => exact ⟨_, _, _, _, mm_m70⟩
  | 71, _, _ => exact ⟨_, _, _, _, mm_m71⟩
  | 72, _, _ => exact ⟨_, _, _, _, mm_m72⟩
  | 73, _, _ => exact ⟨_, _, _, _, mm_m73⟩
  | 74, _, _ => exact ⟨_, _, _, _, mm_m74⟩
  | 75, _, _ => exact ⟨_, _, _, _, mm_m75⟩
  | 76, _, _ => exact ⟨_, _, _, _, mm_m76⟩
  | 77, _, _ => exact ⟨_, _, _, _, mm_m77⟩
  | 78, _, _ => exact ⟨_, _, _, _, mm_m78⟩
  | 79, _, _ => exact ⟨_, _, _, _, mm_m79⟩
  | 80, _, _ => exact ⟨_, _, _, _, mm_m80⟩
  | 81, _, _ => exact ⟨_, _, _, _, mm_m81⟩
  | 82, _, _ => exact ⟨_, _, _, _, mm_m82⟩
  | 83, _, _ => exact ⟨_, _, _, _, mm_m83⟩
  | 84, _, _ => exact ⟨_, _, _, _, mm_m84⟩
  | 85, _, _ => exact ⟨_, _, _, _, mm_m85⟩
  | 86, _, _ => exact ⟨_, _, _, _, mm_m86⟩
  | 87, _, _ => exact ⟨_, _, _, _, mm_m87⟩
  | 88, _, _ => exact ⟨_, _, _, _, mm_m88⟩
  | 89, _, _ => exact ⟨_, _, _, _, mm_m89⟩
  | 90, _, _ => exact ⟨_, _, _, _, mm_m90⟩
  | 91, _, _ => exact ⟨_, _, _, _, mm_m91⟩
  | 92, _, _ => exact ⟨_, _, _, _, mm_m92⟩
  | 93, _, _ => exact ⟨_, _, _, _, mm_m93⟩
  | 94, _, _ => exact ⟨_, _, _, _, mm_m94⟩
  | 95, _, _ => exact ⟨_, _, _, _, mm_m95⟩
  | 96, _, _ => exact ⟨_, _, _, _, mm_m96⟩
  | 97, _, _ => exact ⟨_, _, _, _, mm_m97⟩
  | 98, _, _ => exact ⟨_, _, _, _, mm_m98⟩
  | 99, _, _ => exact ⟨_, _, _, _, mm_m99⟩
  | 100, _, _ => exact ⟨_, _, _, _, mm_m100⟩
  | 101, _, _ => exact ⟨_, _, _, _, mm_m101⟩
  | 102, _, _ => exact ⟨_, _, _, _, mm_m102⟩
  | 103, _, _ => exact ⟨_, _, _, _, mm_m103⟩
  | 104, _, _ => exact ⟨_, _, _, _, mm_m104⟩
  | 105, _, _ => exact ⟨_, _, _, _, mm_m105⟩
  | 106, _, _ => exact ⟨_, _, _, _, mm_m106⟩
  | 107, _, _ => exact ⟨_, _, _, _, mm_m107⟩
  | 108, _, _ => exact ⟨_, _, _, _, mm_m108⟩
  | 109, _, _ => exact ⟨_, _, _, _, mm_m109⟩
  | 110, _, _ => exact ⟨_, _, _, _, mm_m110⟩
  | 111, _, _ => exact ⟨_, _, _, _, mm_m111⟩
  | 112, _, _ => exact ⟨_, _, _, _, mm_m112⟩
  | 113, _, _ => exact ⟨_, _, _, _, mm_m113⟩
  | 114, _, _ => exact ⟨_, _, _, _, mm_m114⟩
  | 115, _, _ => exact ⟨_, _, _, _, mm_m115⟩
  | 116, _, _ => exact ⟨_, _, _, _, mm_m116⟩
  | 117, _, _ => exact ⟨_, _, _, _, mm_m117⟩
  | 118, _, _ => exact ⟨_, _, _, _, mm_m118⟩
  | 119, _, _ => exact ⟨_, _, _, _, mm_m119⟩
  | 120, _, _ => exact ⟨_, _, _, _, mm_m120⟩
  | 121, _, _ => exact ⟨_, _, _, _, mm_m121⟩
  | 122, _, _ => exact ⟨_, _, _, _, mm_m122⟩
  | 123, _, _ => exact ⟨_, _, _, _, mm_m123⟩
  | 124, _, _ => exact ⟨_, _, _, _, mm_m124⟩
  | 125, _, _ => exact ⟨_, _, _, _, mm_m125⟩
  | 126, _, _ => exact ⟨_, _, _, _, mm_m126⟩
  | 127, _, _ => exact ⟨_, _, _, _, mm_m127⟩
  | 128, _, _ => exact ⟨_, _, _, _, mm_m128⟩
  | 129, _, _ => exact ⟨_, _, _, _, mm_m129⟩
  | 130, _, _ => exact ⟨_, _, _, _, mm_m130⟩
  | 131, _, _ => exact ⟨_, _, _, _, mm_m131⟩
  | 132, _, _ => exact ⟨_, _, _, _, mm_m132⟩
  | 133, _, _ => exact ⟨_, _, _, _, mm_m133⟩
  | 134, _, _ => exact ⟨_, _, _, _, mm_m134⟩
  | 135, _, _ => exact ⟨_, _, _, _, mm_m135⟩
  | 136, _, _ => exact ⟨_, _, _, _, mm_m136⟩
  | 137, _, _ => exact ⟨_, _, _, _, mm_m137⟩
  | 138, _, _ => exact ⟨_, _, _, _, mm_m138⟩
  | 139, _, _ => exact ⟨_, _, _, _, mm_m139⟩
  | 140, _, _ => exact ⟨_, _, _, _, mm_m140⟩
  | 141, _, _ => exact ⟨_, _, _, _, mm_m141⟩
  | 142, _, _ => exact ⟨_, _, _, _, mm_m142⟩
  | 143, _, _ => exact ⟨_, _, _, _, mm_m143⟩
  | 144, _, _ => exact ⟨_, _, _, _, mm_m144⟩
  | 145, _, _ => exact ⟨_, _, _, _, mm_m145⟩
  | 146, _, _ => exact ⟨_, _, _, _, mm_m146⟩
  | 147, _, _ => exact ⟨_, _, _, _, mm_m147⟩
  | 148, _, _ => exact ⟨_, _, _, _, mm_m148⟩
  | 149, _, _ => exact ⟨_, _, _, _, mm_m149⟩
  | 150, _, _ => exact ⟨_, _, _, _, mm_m150⟩
  | 151, _, _ => exact ⟨_, _, _, _, mm_m151⟩
  | 152, _, _ => exact ⟨_, _, _, _, mm_m152⟩
  | 153, _, _ => exact ⟨_, _, _, _, mm_m153⟩
  | 154, _, _ => exact ⟨_, _, _, _, mm_m154⟩
  | 155, _, _ => exact ⟨_, _, _, _, mm_m155⟩
  | 156, _, _ => exact ⟨_, _, _, _, mm_m156⟩
  | 157, _, _ => exact ⟨_, _, _, _, mm_m157⟩
  | 158, _, _ => exact ⟨_, _, _, _, mm_m158⟩
  | 159, _, _ => exact ⟨_, _, _, _, mm_m159⟩
  | 160, _, _ => exact ⟨_, _, _, _, mm_m160⟩
  | 161, _, _ => exact ⟨_, _, _, _, mm_m161⟩
  | 162, _, _ => exact ⟨_, _, _, _, mm_m162⟩
  | 163, _, _ => exact ⟨_, _, _, _, mm_m163⟩
  | 164, _, _ => exact ⟨_, _, _, _, mm_m164⟩
  | 165, _, _ => exact ⟨_, _, _, _, mm_m165⟩
  | 166, _, _ => exact ⟨_, _, _, _, mm_m166⟩
  | 167, _, _ => exact ⟨_, _, _, _, mm_m167⟩
  | 168, _, _ => exact ⟨_, _, _, _, mm_m168⟩
  | 169, _, _ => exact ⟨_, _, _, _, mm_m169⟩
  | 170, _, _ => exact ⟨_, _, _, _, mm_m170⟩
  | 171, _, _ => exact ⟨_, _, _, _, mm_m171⟩
  | 172, _, _ => exact ⟨_, _, _, _, mm_m172⟩
  | 173, _, _ => exact ⟨_, _, _, _, mm_m173⟩
  | 174, _, _ => exact ⟨_, _, _, _, mm_m174⟩
  | 175, _, _ => exact ⟨_, _, _, _, mm_m175⟩
  | 176, _, _ => exact ⟨_, _, _, _, mm_m176⟩
  | 177, _, _ => exact ⟨_, _, _, _, mm_m177⟩
  | 178, _, _ => exact ⟨_, _, _, _, mm_m178⟩
  | 179, _, _ => exact ⟨_, _, _, _, mm_m179⟩
  | 180, _, _ => exact ⟨_, _, _, _, mm_m180⟩
  | 181, _, _ => exact ⟨_, _, _, _, mm_m181⟩
  | 182, _, _ => exact ⟨_, _, _, _, mm_m182⟩
  | 183, _, _ => exact ⟨_, _, _, _, mm_m183⟩
  | 184, _, _ => exact ⟨_, _, _, _, mm_m184⟩
  | 185, _, _ => exact ⟨_, _, _, _, mm_m185⟩
  | 186, _, _ => exact ⟨_, _, _, _, mm_m186⟩
  | 187, _, _ => exact ⟨_, _, _, _, mm_m187⟩
  | 188, _, _ => exact ⟨_, _, _, _, mm_m188⟩
  | 189, _, _ => exact ⟨_, _, _, _, mm_m189⟩
  | 190, _, _ => exact ⟨_, _, _, _, mm_m190⟩
  | 191, _, _ => exact ⟨_, _, _, _, mm_m191⟩
  | 192, _, _ => exact ⟨_, _, _, _, mm_m192⟩
  | 193, _, _ => exact ⟨_, _, _, _, mm_m193⟩
  | 194, _, _ => exact ⟨_, _, _, _, mm_m194⟩
  | 195, _, _ => exact ⟨_, _, _, _, mm_m195⟩
  | 196, _, _ => exact ⟨_, _, _, _, mm_m196⟩
  | 197, _, _ => exact ⟨_, _, _, _, mm_m197⟩
  | 198, _, _ => exact ⟨_, _, _, _, mm_m198⟩
  | 199, _, _ => exact ⟨_, _, _, _, mm_m199⟩
  | 200, _, _ => exact ⟨_, _, _, _, mm_m200⟩
  | 201, _, _ => exact ⟨_, _, _, _, mm_m201⟩
  | 202, _, _ => exact ⟨_, _, _, _, mm_m202⟩
  | y + 203, h, _ => exact absurd h (by omega)
/-- how a method is chosen -/
def sm_kd (y : Nat) : Prop := (mm_rk y = 20 → Cond.static (mm_I y).1 ∈ mm_good) ∧ (30 ≤ mm_rk y → Cond.instanceMethod (mm_I y).1 ∈ mm_good ∧ (mm_I y).1.name = "<init>") ∧ (mm_rk y ≤ 10 → Cond.instanceMethod (mm_I y).1 ∈ mm_good ∧ Cond.selects (mm_I y).1.cls (mm_I y).1 (mm_I y).1 ∈ mm_good)
theorem sm_kd0 : sm_kd 0 := ⟨fun _ => mm_has_mem (h := 1041) (by decide +kernel), fun h => absurd h (by decide +kernel), fun h => absurd h (by decide +kernel)⟩
theorem sm_kd1 : sm_kd 1 := ⟨fun _ => mm_has_mem (h := 4063) (by decide +kernel), fun h => absurd h (by decide +kernel), fun h => absurd h (by decide +kernel)⟩
theorem sm_kd5 : sm_kd 5 := ⟨fun _ => mm_has_mem (h := 3126) (by decide +kernel), fun h => absurd h (by decide +kernel), fun h => absurd h (by decide +kernel)⟩
theorem sm_kd6 : sm_kd 6 := ⟨fun h => absurd h (by decide +kernel), fun h => absurd h (by decide +kernel), fun _ => ⟨mm_has_mem (h := 2194) (by decide +kernel), mm_has_mem (h := 2195) (by decide +kernel)⟩⟩
theorem sm_kd7 : sm_kd 7 := ⟨fun h => absurd h (by decide +kernel), fun h => absurd h (by decide +kernel), fun _ => ⟨mm_has_mem (h := 2198) (by decide +kernel), mm_has_mem (h := 2199) (by decide +kernel)⟩⟩
theorem sm_kd8 : sm_kd 8 := ⟨fun h => absurd h (by decide +kernel), fun h => absurd h (by decide +kernel), fun _ => ⟨mm_has_mem (h := 2204) (by decide +kernel), mm_has_mem (h := 2205) (by decide +kernel)⟩⟩
theorem sm_kd9 : sm_kd 9 := ⟨fun h => absurd h (by decide +kernel), fun h => absurd h (by decide +kernel), fun _ => ⟨mm_has_mem (h := 2208) (by decide +kernel), mm_has_mem (h := 2209) (by decide +kernel)⟩⟩
theorem sm_kd10 : sm_kd 10 := ⟨fun _ => mm_has_mem (h := 2215) (by decide +kernel), fun h => absurd h (by decide +kernel), fun h => absurd h (by decide +kernel)⟩
theorem sm_kd11 : sm_kd 11 := ⟨fun h => absurd h (by decide +kernel), fun h => absurd h (by decide +kernel), fun _ => ⟨mm_has_mem (h := 3029) (by decide +kernel), mm_has_mem (h := 3030) (by decide +kernel)⟩⟩
theorem sm_kd12 : sm_kd 12 := ⟨fun h => absurd h (by decide +kernel), fun h => absurd h (by decide +kernel), fun _ => ⟨mm_has_mem (h := 3033) (by decide +kernel), mm_has_mem (h := 3034) (by decide +kernel)⟩⟩
theorem sm_kd13 : sm_kd 13 := ⟨fun _ => mm_has_mem (h := 2212) (by decide +kernel), fun h => absurd h (by decide +kernel), fun h => absurd h (by decide +kernel)⟩
theorem sm_kd14 : sm_kd 14 := ⟨fun _ => mm_has_mem (h := 3038) (by decide +kernel), fun h => absurd h (by decide +kernel), fun h => absurd h (by decide +kernel)⟩
theorem sm_kd15 : sm_kd 15 := ⟨fun _ => mm_has_mem (h := 3041) (by decide +kernel), fun h => absurd h (by decide +kernel), fun h => absurd h (by decide +kernel)⟩
theorem sm_kd16 : sm_kd 16 := ⟨fun _ => mm_has_mem (h := 3046) (by decide +kernel), fun h => absurd h (by decide +kernel), fun h => absurd h (by decide +kernel)⟩
theorem sm_kd17 : sm_kd 17 := ⟨fun _ => mm_has_mem (h := 2220) (by decide +kernel), fun h => absurd h (by decide +kernel), fun h => absurd h (by decide +kernel)⟩
theorem sm_kd18 : sm_kd 18 := ⟨fun h => absurd h (by decide +kernel), fun _ => ⟨mm_has_mem (h := 1174) (by decide +kernel), rfl⟩, fun h => absurd h (by decide +kernel)⟩
theorem sm_kd19 : sm_kd 19 := ⟨fun h => absurd h (by decide +kernel), fun h => absurd h (by decide +kernel), fun _ => ⟨mm_has_mem (h := 4017) (by decide +kernel), mm_has_mem (h := 4018) (by decide +kernel)⟩⟩
theorem sm_kd20 : sm_kd 20 := ⟨fun h => absurd h (by decide +kernel), fun h => absurd h (by decide +kernel), fun _ => ⟨mm_has_mem (h := 4021) (by decide +kernel), mm_has_mem (h := 4022) (by decide +kernel)⟩⟩
theorem sm_kd21 : sm_kd 21 := ⟨fun h => absurd h (by decide +kernel), fun h => absurd h (by decide +kernel), fun _ => ⟨mm_has_mem (h := 4026) (by decide +kernel), mm_has_mem (h := 20) (by decide +kernel)⟩⟩
theorem sm_kd22 : sm_kd 22 := ⟨fun h => absurd h (by decide +kernel), fun h => absurd h (by decide +kernel), fun _ => ⟨mm_has_mem (h := 4034) (by decide +kernel), mm_has_mem (h := 21) (by decide +kernel)⟩⟩
theorem sm_kd23 : sm_kd 23 := ⟨fun h => absurd h (by decide +kernel), fun h => absurd h (by decide +kernel), fun _ => ⟨mm_has_mem (h := 4041) (by decide +kernel), mm_has_mem (h := 4042) (by decide +kernel)⟩⟩
theorem sm_kd24 : sm_kd 24 := ⟨fun h => absurd h (by decide +kernel), fun _ => ⟨mm_has_mem (h := 1031) (by decide +kernel), rfl⟩, fun h => absurd h (by decide +kernel)⟩
theorem sm_kd25 : sm_kd 25 := ⟨fun h => absurd h (by decide +kernel), fun h => absurd h (by decide +kernel), fun _ => ⟨mm_has_mem (h := 3239) (by decide +kernel), mm_has_mem (h := 4000) (by decide +kernel)⟩⟩
theorem sm_kd26 : sm_kd 26 := ⟨fun h => absurd h (by decide +kernel), fun _ => ⟨mm_has_mem (h := 1037) (by decide +kernel), rfl⟩, fun h => absurd h (by decide +kernel)⟩
theorem sm_kd27 : sm_kd 27 := ⟨fun h => absurd h (by decide +kernel), fun h => absurd h (by decide +kernel), fun _ => ⟨mm_has_mem (h := 2041) (by decide +kernel), mm_has_mem (h := 2042) (by decide +kernel)⟩⟩
theorem sm_kd28 : sm_kd 28 := ⟨fun h => absurd h (by decide +kernel), fun h => absurd h (by decide +kernel), fun _ => ⟨mm_has_mem (h := 2056) (by decide +kernel), mm_has_mem (h := 2057) (by decide +kernel)⟩⟩
theorem sm_kd29 : sm_kd 29 := ⟨fun h => absurd h (by decide +kernel), fun h => absurd h (by decide +kernel), fun _ => ⟨mm_has_mem (h := 2060) (by decide +kernel), mm_has_mem (h := 2061) (by decide +kernel)⟩⟩
theorem sm_kd30 : sm_kd 30 := ⟨fun h => absurd h (by decide +kernel), fun h => absurd h (by decide +kernel), fun _ => ⟨mm_has_mem (h := 2065) (by decide +kernel), mm_has_mem (h := 1) (by decide +kernel)⟩⟩
theorem sm_kd31 : sm_kd 31 := ⟨fun h => absurd h (by decide +kernel), fun h => absurd h (by decide +kernel), fun _ => ⟨mm_has_mem (h := 2069) (by decide +kernel), mm_has_mem (h := 2) (by decide +kernel)⟩⟩
theorem sm_kd32 : sm_kd 32 := ⟨fun h => absurd h (by decide +kernel), fun h => absurd h (by decide +kernel), fun _ => ⟨mm_has_mem (h := 2089) (by decide +kernel), mm_has_mem (h := 2090) (by decide +kernel)⟩⟩
theorem sm_kd33 : sm_kd 33 := ⟨fun h => absurd h (by decide +kernel), fun h => absurd h (by decide +kernel), fun _ => ⟨mm_has_mem (h := 2094) (by decide +kernel), mm_has_mem (h := 3) (by decide +kernel)⟩⟩
theorem sm_kd34 : sm_kd 34 := ⟨fun h => absurd h (by decide +kernel), fun h => absurd h (by decide +kernel), fun _ => ⟨mm_has_mem (h := 2097) (by decide +kernel), mm_has_mem (h := 2098) (by decide +kernel)⟩⟩
theorem sm_kd35 : sm_kd 35 := ⟨fun h => absurd h (by decide +kernel), fun h => absurd h (by decide +kernel), fun _ => ⟨mm_has_mem (h := 2102) (by decide +kernel), mm_has_mem (h := 4) (by decide +kernel)⟩⟩
theorem sm_kd36 : sm_kd 36 := ⟨fun h => absurd h (by decide +kernel), fun h => absurd h (by decide +kernel), fun _ => ⟨mm_has_mem (h := 2112) (by decide +kernel), mm_has_mem (h := 2113) (by decide +kernel)⟩⟩
theorem sm_kd37 : sm_kd 37 := ⟨fun h => absurd h (by decide +kernel), fun h => absurd h (by decide +kernel), fun _ => ⟨mm_has_mem (h := 2119) (by decide +kernel), mm_has_mem (h := 2120) (by decide +kernel)⟩⟩
theorem sm_kd38 : sm_kd 38 := ⟨fun h => absurd h (by decide +kernel), fun h => absurd h (by decide +kernel), fun _ => ⟨mm_has_mem (h := 2123) (by decide +kernel), mm_has_mem (h := 2124) (by decide +kernel)⟩⟩
theorem sm_kd39 : sm_kd 39 := ⟨fun h => absurd h (by decide +kernel), fun h => absurd h (by decide +kernel), fun _ => ⟨mm_has_mem (h := 2140) (by decide +kernel), mm_has_mem (h := 2141) (by decide +kernel)⟩⟩
theorem sm_kd40 : sm_kd 40 := ⟨fun h => absurd h (by decide +kernel), fun h => absurd h (by decide +kernel), fun _ => ⟨mm_has_mem (h := 2144) (by decide +kernel), mm_has_mem (h := 2145) (by decide +kernel)⟩⟩
theorem sm_kd41 : sm_kd 41 := ⟨fun h => absurd h (by decide +kernel), fun h => absurd h (by decide +kernel), fun _ => ⟨mm_has_mem (h := 3103) (by decide +kernel), mm_has_mem (h := 3104) (by decide +kernel)⟩⟩
theorem sm_kd42 : sm_kd 42 := ⟨fun h => absurd h (by decide +kernel), fun h => absurd h (by decide +kernel), fun _ => ⟨mm_has_mem (h := 3107) (by decide +kernel), mm_has_mem (h := 3108) (by decide +kernel)⟩⟩
theorem sm_kd43 : sm_kd 43 := ⟨fun h => absurd h (by decide +kernel), fun h => absurd h (by decide +kernel), fun _ => ⟨mm_has_mem (h := 3111) (by decide +kernel), mm_has_mem (h := 3112) (by decide +kernel)⟩⟩
theorem sm_kd44 : sm_kd 44 := ⟨fun h => absurd h (by decide +kernel), fun h => absurd h (by decide +kernel), fun _ => ⟨mm_has_mem (h := 3152) (by decide +kernel), mm_has_mem (h := 3153) (by decide +kernel)⟩⟩
theorem sm_kd45 : sm_kd 45 := ⟨fun h => absurd h (by decide +kernel), fun h => absurd h (by decide +kernel), fun _ => ⟨mm_has_mem (h := 3166) (by decide +kernel), mm_has_mem (h := 3167) (by decide +kernel)⟩⟩
theorem sm_kd46 : sm_kd 46 := ⟨fun h => absurd h (by decide +kernel), fun h => absurd h (by decide +kernel), fun _ => ⟨mm_has_mem (h := 3210) (by decide +kernel), mm_has_mem (h := 3211) (by decide +kernel)⟩⟩
theorem sm_kd47 : sm_kd 47 := ⟨fun h => absurd h (by decide +kernel), fun h => absurd h (by decide +kernel), fun _ => ⟨mm_has_mem (h := 3216) (by decide +kernel), mm_has_mem (h := 3217) (by decide +kernel)⟩⟩
theorem sm_kd48 : sm_kd 48 := ⟨fun h => absurd h (by decide +kernel), fun _ => ⟨mm_has_mem (h := 1161) (by decide +kernel), rfl⟩, fun h => absurd h (by decide +kernel)⟩
theorem sm_kd49 : sm_kd 49 := ⟨fun h => absurd h (by decide +kernel), fun h => absurd h (by decide +kernel), fun _ => ⟨mm_has_mem (h := 3115) (by decide +kernel), mm_has_mem (h := 3116) (by decide +kernel)⟩⟩
theorem sm_kd50 : sm_kd 50 := ⟨fun h => absurd h (by decide +kernel), fun h => absurd h (by decide +kernel), fun _ => ⟨mm_has_mem (h := 3120) (by decide +kernel), mm_has_mem (h := 16) (by decide +kernel)⟩⟩
theorem sm_kd51 : sm_kd 51 := ⟨fun h => absurd h (by decide +kernel), fun h => absurd h (by decide +kernel), fun _ => ⟨mm_has_mem (h := 3133) (by decide +kernel), mm_has_mem (h := 17) (by decide +kernel)⟩⟩
theorem sm_kd52 : sm_kd 52 := ⟨fun h => absurd h (by decide +kernel), fun h => absurd h (by decide +kernel), fun _ => ⟨mm_has_mem (h := 3137) (by decide +kernel), mm_has_mem (h := 18) (by decide +kernel)⟩⟩
theorem sm_kd53 : sm_kd 53 := ⟨fun h => absurd h (by decide +kernel), fun h => absurd h (by decide +kernel), fun _ => ⟨mm_has_mem (h := 3140) (by decide +kernel), mm_has_mem (h := 3141) (by decide +kernel)⟩⟩
theorem sm_kd54 : sm_kd 54 := ⟨fun h => absurd h (by decide +kernel), fun h => absurd h (by decide +kernel), fun _ => ⟨mm_has_mem (h := 3145) (by decide +kernel), mm_has_mem (h := 19) (by decide +kernel)⟩⟩
theorem sm_kd55 : sm_kd 55 := ⟨fun h => absurd h (by decide +kernel), fun _ => ⟨mm_has_mem (h := 1137) (by decide +kernel), rfl⟩, fun h => absurd h (by decide +kernel)⟩
theorem sm_kd56 : sm_kd 56 := ⟨fun h => absurd h (by decide +kernel), fun h => absurd h (by decide +kernel), fun _ => ⟨mm_has_mem (h := 2161) (by decide +kernel), mm_has_mem (h := 2162) (by decide +kernel)⟩⟩
theorem sm_kd57 : sm_kd 57 := ⟨fun h => absurd h (by decide +kernel), fun h => absurd h (by decide +kernel), fun _ => ⟨mm_has_mem (h := 2169) (by decide +kernel), mm_has_mem (h := 2170) (by decide +kernel)⟩⟩
theorem sm_kd58 : sm_kd 58 := ⟨fun h => absurd h (by decide +kernel), fun h => absurd h (by decide +kernel), fun _ => ⟨mm_has_mem (h := 2178) (by decide +kernel), mm_has_mem (h := 6) (by decide +kernel)⟩⟩
theorem sm_kd59 : sm_kd 59 := ⟨fun h => absurd h (by decide +kernel), fun h => absurd h (by decide +kernel), fun _ => ⟨mm_has_mem (h := 2182) (by decide +kernel), mm_has_mem (h := 7) (by decide +kernel)⟩⟩
theorem sm_kd60 : sm_kd 60 := ⟨fun h => absurd h (by decide +kernel), fun h => absurd h (by decide +kernel), fun _ => ⟨mm_has_mem (h := 2186) (by decide +kernel), mm_has_mem (h := 8) (by decide +kernel)⟩⟩
theorem sm_kd61 : sm_kd 61 := ⟨fun h => absurd h (by decide +kernel), fun h => absurd h (by decide +kernel), fun _ => ⟨mm_has_mem (h := 2191) (by decide +kernel), mm_has_mem (h := 9) (by decide +kernel)⟩⟩
theorem sm_kd62 : sm_kd 62 := ⟨fun h => absurd h (by decide +kernel), fun h => absurd h (by decide +kernel), fun _ => ⟨mm_has_mem (h := 3003) (by decide +kernel), mm_has_mem (h := 10) (by decide +kernel)⟩⟩
theorem sm_kd63 : sm_kd 63 := ⟨fun h => absurd h (by decide +kernel), fun h => absurd h (by decide +kernel), fun _ => ⟨mm_has_mem (h := 3007) (by decide +kernel), mm_has_mem (h := 11) (by decide +kernel)⟩⟩
theorem sm_kd64 : sm_kd 64 := ⟨fun h => absurd h (by decide +kernel), fun h => absurd h (by decide +kernel), fun _ => ⟨mm_has_mem (h := 3013) (by decide +kernel), mm_has_mem (h := 12) (by decide +kernel)⟩⟩
theorem sm_kd65 : sm_kd 65 := ⟨fun h => absurd h (by decide +kernel), fun h => absurd h (by decide +kernel), fun _ => ⟨mm_has_mem (h := 3017) (by decide +kernel), mm_has_mem (h := 13) (by decide +kernel)⟩⟩
theorem sm_kd66 : sm_kd 66 := ⟨fun h => absurd h (by decide +kernel), fun h => absurd h (by decide +kernel), fun _ => ⟨mm_has_mem (h := 3021) (by decide +kernel), mm_has_mem (h := 14) (by decide +kernel)⟩⟩
theorem sm_kd67 : sm_kd 67 := ⟨fun h => absurd h (by decide +kernel), fun h => absurd h (by decide +kernel), fun _ => ⟨mm_has_mem (h := 3025) (by decide +kernel), mm_has_mem (h := 15) (by decide +kernel)⟩⟩
theorem sm_kd68 : sm_kd 68 := ⟨fun _ => mm_has_mem (h := 3084) (by decide +kernel), fun h => absurd h (by decide +kernel), fun h => absurd h (by decide +kernel)⟩
theorem sm_kd69 : sm_kd 69 := ⟨fun h => absurd h (by decide +kernel), fun _ => ⟨mm_has_mem (h := 1090) (by decide +kernel), rfl⟩, fun h => absurd h (by decide +kernel)⟩
theorem sm_kd70 : sm_kd 70 := ⟨fun h => absurd h (by decide +kernel), fun h => absurd h (by decide +kernel), fun _ => ⟨mm_has_mem (h := 3178) (by decide +kernel), mm_has_mem (h := 3179) (by decide +kernel)⟩⟩
theorem sm_kd71 : sm_kd 71 := ⟨fun h => absurd h (by decide +kernel), fun h => absurd h (by decide +kernel), fun _ => ⟨mm_has_mem (h := 3182) (by decide +kernel), mm_has_mem (h := 3183) (by decide +kernel)⟩⟩
theorem sm_kd72 : sm_kd 72 := ⟨fun h => absurd h (by decide +kernel), fun h => absurd h (by decide +kernel), fun _ => ⟨mm_has_mem (h := 4004) (by decide +kernel), mm_has_mem (h := 4005) (by decide +kernel)⟩⟩
theorem sm_kd73 : sm_kd 73 := ⟨fun h => absurd h (by decide +kernel), fun _ => ⟨mm_has_mem (h := 1199) (by decide +kernel), rfl⟩, fun h => absurd h (by decide +kernel)⟩
theorem sm_kd74 : sm_kd 74 := ⟨fun h => absurd h (by decide +kernel), fun h => absurd h (by decide +kernel), fun _ => ⟨mm_has_mem (h := 2072) (by decide +kernel), mm_has_mem (h := 2073) (by decide +kernel)⟩⟩
theorem sm_kd75 : sm_kd 75 := ⟨fun _ => mm_has_mem (h := 2076) (by decide +kernel), fun h => absurd h (by decide +kernel), fun h => absurd h (by decide +kernel)⟩
theorem sm_kd76 : sm_kd 76 := ⟨fun h => absurd h (by decide +kernel), fun h => absurd h (by decide +kernel), fun _ => ⟨mm_has_mem (h := 2173) (by decide +kernel), mm_has_mem (h := 2174) (by decide +kernel)⟩⟩
theorem sm_kd77 : sm_kd 77 := ⟨fun _ => mm_has_mem (h := 3087) (by decide +kernel), fun h => absurd h (by decide +kernel), fun h => absurd h (by decide +kernel)⟩
theorem sm_kd78 : sm_kd 78 := ⟨fun h => absurd h (by decide +kernel), fun h => absurd h (by decide +kernel), fun _ => ⟨mm_has_mem (h := 3090) (by decide +kernel), mm_has_mem (h := 3091) (by decide +kernel)⟩⟩
theorem sm_kd79 : sm_kd 79 := ⟨fun h => absurd h (by decide +kernel), fun h => absurd h (by decide +kernel), fun _ => ⟨mm_has_mem (h := 3094) (by decide +kernel), mm_has_mem (h := 3095) (by decide +kernel)⟩⟩
theorem sm_kd80 : sm_kd 80 := ⟨fun h => absurd h (by decide +kernel), fun _ => ⟨mm_has_mem (h := 1225) (by decide +kernel), rfl⟩, fun h => absurd h (by decide +kernel)⟩
theorem sm_kd81 : sm_kd 81 := ⟨fun h => absurd h (by decide +kernel), fun h => absurd h (by decide +kernel), fun _ => ⟨mm_has_mem (h := 4059) (by decide +kernel), mm_has_mem (h := 4060) (by decide +kernel)⟩⟩
theorem sm_kd82 : sm_kd 82 := ⟨fun h => absurd h (by decide +kernel), fun h => absurd h (by decide +kernel), fun _ => ⟨mm_has_mem (h := 4070) (by decide +kernel), mm_has_mem (h := 4071) (by decide +kernel)⟩⟩
theorem sm_kd83 : sm_kd 83 := ⟨fun h => absurd h (by decide +kernel), fun h => absurd h (by decide +kernel), fun _ => ⟨mm_has_mem (h := 4082) (by decide +kernel), mm_has_mem (h := 4083) (by decide +kernel)⟩⟩
theorem sm_kd84 : sm_kd 84 := ⟨fun h => absurd h (by decide +kernel), fun _ => ⟨mm_has_mem (h := 1023) (by decide +kernel), rfl⟩, fun h => absurd h (by decide +kernel)⟩
theorem sm_kd85 : sm_kd 85 := ⟨fun h => absurd h (by decide +kernel), fun h => absurd h (by decide +kernel), fun _ => ⟨mm_has_mem (h := 2034) (by decide +kernel), mm_has_mem (h := 2035) (by decide +kernel)⟩⟩
theorem sm_kd86 : sm_kd 86 := ⟨fun _ => mm_has_mem (h := 2038) (by decide +kernel), fun h => absurd h (by decide +kernel), fun h => absurd h (by decide +kernel)⟩
theorem sm_kd87 : sm_kd 87 := ⟨fun h => absurd h (by decide +kernel), fun h => absurd h (by decide +kernel), fun _ => ⟨mm_has_mem (h := 2045) (by decide +kernel), mm_has_mem (h := 2046) (by decide +kernel)⟩⟩
theorem sm_kd88 : sm_kd 88 := ⟨fun h => absurd h (by decide +kernel), fun h => absurd h (by decide +kernel), fun _ => ⟨mm_has_mem (h := 2050) (by decide +kernel), mm_has_mem (h := 0) (by decide +kernel)⟩⟩
theorem sm_kd89 : sm_kd 89 := ⟨fun _ => mm_has_mem (h := 2053) (by decide +kernel), fun h => absurd h (by decide +kernel), fun h => absurd h (by decide +kernel)⟩
theorem sm_kd90 : sm_kd 90 := ⟨fun h => absurd h (by decide +kernel), fun h => absurd h (by decide +kernel), fun _ => ⟨mm_has_mem (h := 2082) (by decide +kernel), mm_has_mem (h := 2083) (by decide +kernel)⟩⟩
theorem sm_kd91 : sm_kd 91 := ⟨fun _ => mm_has_mem (h := 2086) (by decide +kernel), fun h => absurd h (by decide +kernel), fun h => absurd h (by decide +kernel)⟩
theorem sm_kd92 : sm_kd 92 := ⟨fun h => absurd h (by decide +kernel), fun h => absurd h (by decide +kernel), fun _ => ⟨mm_has_mem (h := 2109) (by decide +kernel), mm_has_mem (h := 5) (by decide +kernel)⟩⟩
theorem sm_kd93 : sm_kd 93 := ⟨fun h => absurd h (by decide +kernel), fun h => absurd h (by decide +kernel), fun _ => ⟨mm_has_mem (h := 2128) (by decide +kernel), mm_has_mem (h := 2129) (by decide +kernel)⟩⟩
theorem sm_kd94 : sm_kd 94 := ⟨fun h => absurd h (by decide +kernel), fun h => absurd h (by decide +kernel), fun _ => ⟨mm_has_mem (h := 2132) (by decide +kernel), mm_has_mem (h := 2133) (by decide +kernel)⟩⟩
theorem sm_kd95 : sm_kd 95 := ⟨fun h => absurd h (by decide +kernel), fun h => absurd h (by decide +kernel), fun _ => ⟨mm_has_mem (h := 2136) (by decide +kernel), mm_has_mem (h := 2137) (by decide +kernel)⟩⟩
theorem sm_kd96 : sm_kd 96 := ⟨fun h => absurd h (by decide +kernel), fun h => absurd h (by decide +kernel), fun _ => ⟨mm_has_mem (h := 2148) (by decide +kernel), mm_has_mem (h := 2149) (by decide +kernel)⟩⟩
theorem sm_kd97 : sm_kd 97 := ⟨fun h => absurd h (by decide +kernel), fun h => absurd h (by decide +kernel), fun _ => ⟨mm_has_mem (h := 2153) (by decide +kernel), mm_has_mem (h := 2154) (by decide +kernel)⟩⟩
theorem sm_kd98 : sm_kd 98 := ⟨fun h => absurd h (by decide +kernel), fun h => absurd h (by decide +kernel), fun _ => ⟨mm_has_mem (h := 2157) (by decide +kernel), mm_has_mem (h := 2158) (by decide +kernel)⟩⟩
theorem sm_kd99 : sm_kd 99 := ⟨fun h => absurd h (by decide +kernel), fun h => absurd h (by decide +kernel), fun _ => ⟨mm_has_mem (h := 2165) (by decide +kernel), mm_has_mem (h := 2166) (by decide +kernel)⟩⟩
theorem sm_kd100 : sm_kd 100 := ⟨fun h => absurd h (by decide +kernel), fun h => absurd h (by decide +kernel), fun _ => ⟨mm_has_mem (h := 3098) (by decide +kernel), mm_has_mem (h := 3099) (by decide +kernel)⟩⟩
theorem sm_kd101 : sm_kd 101 := ⟨fun h => absurd h (by decide +kernel), fun h => absurd h (by decide +kernel), fun _ => ⟨mm_has_mem (h := 3148) (by decide +kernel), mm_has_mem (h := 3149) (by decide +kernel)⟩⟩
theorem sm_kd102 : sm_kd 102 := ⟨fun h => absurd h (by decide +kernel), fun h => absurd h (by decide +kernel), fun _ => ⟨mm_has_mem (h := 3156) (by decide +kernel), mm_has_mem (h := 3157) (by decide +kernel)⟩⟩
theorem sm_kd103 : sm_kd 103 := ⟨fun h => absurd h (by decide +kernel), fun h => absurd h (by decide +kernel), fun _ => ⟨mm_has_mem (h := 3161) (by decide +kernel), mm_has_mem (h := 3162) (by decide +kernel)⟩⟩
theorem sm_kd104 : sm_kd 104 := ⟨fun h => absurd h (by decide +kernel), fun h => absurd h (by decide +kernel), fun _ => ⟨mm_has_mem (h := 3170) (by decide +kernel), mm_has_mem (h := 3171) (by decide +kernel)⟩⟩
theorem sm_kd105 : sm_kd 105 := ⟨fun h => absurd h (by decide +kernel), fun h => absurd h (by decide +kernel), fun _ => ⟨mm_has_mem (h := 3174) (by decide +kernel), mm_has_mem (h := 3175) (by decide +kernel)⟩⟩
theorem sm_kd106 : sm_kd 106 := ⟨fun h => absurd h (by decide +kernel), fun h => absurd h (by decide +kernel), fun _ => ⟨mm_has_mem (h := 3186) (by decide +kernel), mm_has_mem (h := 3187) (by decide +kernel)⟩⟩
theorem sm_kd107 : sm_kd 107 := ⟨fun h => absurd h (by decide +kernel), fun h => absurd h (by decide +kernel), fun _ => ⟨mm_has_mem (h := 3190) (by decide +kernel), mm_has_mem (h := 3191) (by decide +kernel)⟩⟩
theorem sm_kd108 : sm_kd 108 := ⟨fun _ => mm_has_mem (h := 3195) (by decide +kernel), fun h => absurd h (by decide +kernel), fun h => absurd h (by decide +kernel)⟩
theorem sm_kd109 : sm_kd 109 := ⟨fun h => absurd h (by decide +kernel), fun h => absurd h (by decide +kernel), fun _ => ⟨mm_has_mem (h := 3198) (by decide +kernel), mm_has_mem (h := 3199) (by decide +kernel)⟩⟩
theorem sm_kd110 : sm_kd 110 := ⟨fun h => absurd h (by decide +kernel), fun h => absurd h (by decide +kernel), fun _ => ⟨mm_has_mem (h := 3202) (by decide +kernel), mm_has_mem (h := 3203) (by decide +kernel)⟩⟩
theorem sm_kd111 : sm_kd 111 := ⟨fun h => absurd h (by decide +kernel), fun h => absurd h (by decide +kernel), fun _ => ⟨mm_has_mem (h := 3206) (by decide +kernel), mm_has_mem (h := 3207) (by decide +kernel)⟩⟩
theorem sm_kd112 : sm_kd 112 := ⟨fun h => absurd h (by decide +kernel), fun h => absurd h (by decide +kernel), fun _ => ⟨mm_has_mem (h := 3220) (by decide +kernel), mm_has_mem (h := 3221) (by decide +kernel)⟩⟩
theorem sm_kd113 : sm_kd 113 := ⟨fun h => absurd h (by decide +kernel), fun h => absurd h (by decide +kernel), fun _ => ⟨mm_has_mem (h := 3224) (by decide +kernel), mm_has_mem (h := 3225) (by decide +kernel)⟩⟩
theorem sm_kd114 : sm_kd 114 := ⟨fun h => absurd h (by decide +kernel), fun h => absurd h (by decide +kernel), fun _ => ⟨mm_has_mem (h := 3228) (by decide +kernel), mm_has_mem (h := 3229) (by decide +kernel)⟩⟩
theorem sm_kd115 : sm_kd 115 := ⟨fun _ => mm_has_mem (h := 3232) (by decide +kernel), fun h => absurd h (by decide +kernel), fun h => absurd h (by decide +kernel)⟩
theorem sm_kd116 : sm_kd 116 := ⟨fun h => absurd h (by decide +kernel), fun h => absurd h (by decide +kernel), fun _ => ⟨mm_has_mem (h := 3235) (by decide +kernel), mm_has_mem (h := 3236) (by decide +kernel)⟩⟩
theorem sm_kd117 : sm_kd 117 := ⟨fun h => absurd h (by decide +kernel), fun h => absurd h (by decide +kernel), fun _ => ⟨mm_has_mem (h := 4009) (by decide +kernel), mm_has_mem (h := 4010) (by decide +kernel)⟩⟩
theorem sm_kd118 : sm_kd 118 := ⟨fun h => absurd h (by decide +kernel), fun h => absurd h (by decide +kernel), fun _ => ⟨mm_has_mem (h := 4013) (by decide +kernel), mm_has_mem (h := 4014) (by decide +kernel)⟩⟩
theorem sm_kd119 : sm_kd 119 := ⟨fun h => absurd h (by decide +kernel), fun h => absurd h (by decide +kernel), fun _ => ⟨mm_has_mem (h := 4037) (by decide +kernel), mm_has_mem (h := 4038) (by decide +kernel)⟩⟩
theorem sm_kd120 : sm_kd 120 := ⟨fun h => absurd h (by decide +kernel), fun h => absurd h (by decide +kernel), fun _ => ⟨mm_has_mem (h := 4046) (by decide +kernel), mm_has_mem (h := 4047) (by decide +kernel)⟩⟩
theorem sm_kd121 : sm_kd 121 := ⟨fun h => absurd h (by decide +kernel), fun h => absurd h (by decide +kernel), fun _ => ⟨mm_has_mem (h := 4051) (by decide +kernel), mm_has_mem (h := 4052) (by decide +kernel)⟩⟩
theorem sm_kd122 : sm_kd 122 := ⟨fun h => absurd h (by decide +kernel), fun h => absurd h (by decide +kernel), fun _ => ⟨mm_has_mem (h := 4055) (by decide +kernel), mm_has_mem (h := 4056) (by decide +kernel)⟩⟩
theorem sm_kd123 : sm_kd 123 := ⟨fun h => absurd h (by decide +kernel), fun h => absurd h (by decide +kernel), fun _ => ⟨mm_has_mem (h := 4066) (by decide +kernel), mm_has_mem (h := 4067) (by decide +kernel)⟩⟩
theorem sm_kd124 : sm_kd 124 := ⟨fun h => absurd h (by decide +kernel), fun h => absurd h (by decide +kernel), fun _ => ⟨mm_has_mem (h := 4074) (by decide +kernel), mm_has_mem (h := 4075) (by decide +kernel)⟩⟩
theorem sm_kd125 : sm_kd 125 := ⟨fun h => absurd h (by decide +kernel), fun h => absurd h (by decide +kernel), fun _ => ⟨mm_has_mem (h := 4078) (by decide +kernel), mm_has_mem (h := 4079) (by decide +kernel)⟩⟩
theorem sm_kd126 : sm_kd 126 := ⟨fun h => absurd h (by decide +kernel), fun _ => ⟨mm_has_mem (h := 4089) (by decide +kernel), rfl⟩, fun h => absurd h (by decide +kernel)⟩
theorem sm_kd127 : sm_kd 127 := ⟨fun h => absurd h (by decide +kernel), fun h => absurd h (by decide +kernel), fun _ => ⟨mm_has_mem (h := 4236) (by decide +kernel), mm_has_mem (h := 4237) (by decide +kernel)⟩⟩
theorem sm_kd128 : sm_kd 128 := ⟨fun _ => mm_has_mem (h := 5000) (by decide +kernel), fun h => absurd h (by decide +kernel), fun h => absurd h (by decide +kernel)⟩
theorem sm_kd129 : sm_kd 129 := ⟨fun h => absurd h (by decide +kernel), fun h => absurd h (by decide +kernel), fun _ => ⟨mm_has_mem (h := 5003) (by decide +kernel), mm_has_mem (h := 5004) (by decide +kernel)⟩⟩
theorem sm_kd130 : sm_kd 130 := ⟨fun h => absurd h (by decide +kernel), fun h => absurd h (by decide +kernel), fun _ => ⟨mm_has_mem (h := 5008) (by decide +kernel), mm_has_mem (h := 22) (by decide +kernel)⟩⟩
theorem sm_kd131 : sm_kd 131 := ⟨fun _ => mm_has_mem (h := 5011) (by decide +kernel), fun h => absurd h (by decide +kernel), fun h => absurd h (by decide +kernel)⟩
theorem sm_kd132 : sm_kd 132 := ⟨fun h => absurd h (by decide +kernel), fun h => absurd h (by decide +kernel), fun _ => ⟨mm_has_mem (h := 5015) (by decide +kernel), mm_has_mem (h := 23) (by decide +kernel)⟩⟩
theorem sm_kd133 : sm_kd 133 := ⟨fun h => absurd h (by decide +kernel), fun h => absurd h (by decide +kernel), fun _ => ⟨mm_has_mem (h := 5019) (by decide +kernel), mm_has_mem (h := 24) (by decide +kernel)⟩⟩
theorem sm_kd134 : sm_kd 134 := ⟨fun h => absurd h (by decide +kernel), fun h => absurd h (by decide +kernel), fun _ => ⟨mm_has_mem (h := 5023) (by decide +kernel), mm_has_mem (h := 25) (by decide +kernel)⟩⟩
theorem sm_kd135 : sm_kd 135 := ⟨fun h => absurd h (by decide +kernel), fun h => absurd h (by decide +kernel), fun _ => ⟨mm_has_mem (h := 5027) (by decide +kernel), mm_has_mem (h := 26) (by decide +kernel)⟩⟩
theorem sm_kd136 : sm_kd 136 := ⟨fun h => absurd h (by decide +kernel), fun h => absurd h (by decide +kernel), fun _ => ⟨mm_has_mem (h := 5031) (by decide +kernel), mm_has_mem (h := 27) (by decide +kernel)⟩⟩
theorem sm_kd137 : sm_kd 137 := ⟨fun h => absurd h (by decide +kernel), fun h => absurd h (by decide +kernel), fun _ => ⟨mm_has_mem (h := 5035) (by decide +kernel), mm_has_mem (h := 5036) (by decide +kernel)⟩⟩
theorem sm_kd138 : sm_kd 138 := ⟨fun h => absurd h (by decide +kernel), fun h => absurd h (by decide +kernel), fun _ => ⟨mm_has_mem (h := 5040) (by decide +kernel), mm_has_mem (h := 28) (by decide +kernel)⟩⟩
theorem sm_kd139 : sm_kd 139 := ⟨fun h => absurd h (by decide +kernel), fun h => absurd h (by decide +kernel), fun _ => ⟨mm_has_mem (h := 5044) (by decide +kernel), mm_has_mem (h := 29) (by decide +kernel)⟩⟩
theorem sm_kd140 : sm_kd 140 := ⟨fun h => absurd h (by decide +kernel), fun h => absurd h (by decide +kernel), fun _ => ⟨mm_has_mem (h := 5048) (by decide +kernel), mm_has_mem (h := 30) (by decide +kernel)⟩⟩
theorem sm_kd141 : sm_kd 141 := ⟨fun h => absurd h (by decide +kernel), fun h => absurd h (by decide +kernel), fun _ => ⟨mm_has_mem (h := 5052) (by decide +kernel), mm_has_mem (h := 31) (by decide +kernel)⟩⟩
theorem sm_kd142 : sm_kd 142 := ⟨fun h => absurd h (by decide +kernel), fun h => absurd h (by decide +kernel), fun _ => ⟨mm_has_mem (h := 5057) (by decide +kernel), mm_has_mem (h := 32) (by decide +kernel)⟩⟩
theorem sm_kd143 : sm_kd 143 := ⟨fun h => absurd h (by decide +kernel), fun h => absurd h (by decide +kernel), fun _ => ⟨mm_has_mem (h := 5061) (by decide +kernel), mm_has_mem (h := 33) (by decide +kernel)⟩⟩
theorem sm_kd144 : sm_kd 144 := ⟨fun h => absurd h (by decide +kernel), fun h => absurd h (by decide +kernel), fun _ => ⟨mm_has_mem (h := 5065) (by decide +kernel), mm_has_mem (h := 34) (by decide +kernel)⟩⟩
theorem sm_kd145 : sm_kd 145 := ⟨fun h => absurd h (by decide +kernel), fun h => absurd h (by decide +kernel), fun _ => ⟨mm_has_mem (h := 5068) (by decide +kernel), mm_has_mem (h := 5069) (by decide +kernel)⟩⟩
theorem sm_kd146 : sm_kd 146 := ⟨fun h => absurd h (by decide +kernel), fun h => absurd h (by decide +kernel), fun _ => ⟨mm_has_mem (h := 5072) (by decide +kernel), mm_has_mem (h := 5073) (by decide +kernel)⟩⟩
theorem sm_kd147 : sm_kd 147 := ⟨fun _ => mm_has_mem (h := 5076) (by decide +kernel), fun h => absurd h (by decide +kernel), fun h => absurd h (by decide +kernel)⟩
theorem sm_kd148 : sm_kd 148 := ⟨fun h => absurd h (by decide +kernel), fun h => absurd h (by decide +kernel), fun _ => ⟨mm_has_mem (h := 5079) (by decide +kernel), mm_has_mem (h := 5080) (by decide +kernel)⟩⟩
theorem sm_kd149 : sm_kd 149 := ⟨fun h => absurd h (by decide +kernel), fun h => absurd h (by decide +kernel), fun _ => ⟨mm_has_mem (h := 5084) (by decide +kernel), mm_has_mem (h := 35) (by decide +kernel)⟩⟩
theorem sm_kd150 : sm_kd 150 := ⟨fun h => absurd h (by decide +kernel), fun h => absurd h (by decide +kernel), fun _ => ⟨mm_has_mem (h := 5088) (by decide +kernel), mm_has_mem (h := 36) (by decide +kernel)⟩⟩
theorem sm_kd151 : sm_kd 151 := ⟨fun h => absurd h (by decide +kernel), fun h => absurd h (by decide +kernel), fun _ => ⟨mm_has_mem (h := 5091) (by decide +kernel), mm_has_mem (h := 5092) (by decide +kernel)⟩⟩
theorem sm_kd152 : sm_kd 152 := ⟨fun h => absurd h (by decide +kernel), fun h => absurd h (by decide +kernel), fun _ => ⟨mm_has_mem (h := 5095) (by decide +kernel), mm_has_mem (h := 5096) (by decide +kernel)⟩⟩
theorem sm_kd153 : sm_kd 153 := ⟨fun h => absurd h (by decide +kernel), fun h => absurd h (by decide +kernel), fun _ => ⟨mm_has_mem (h := 5099) (by decide +kernel), mm_has_mem (h := 5100) (by decide +kernel)⟩⟩
theorem sm_kd154 : sm_kd 154 := ⟨fun h => absurd h (by decide +kernel), fun h => absurd h (by decide +kernel), fun _ => ⟨mm_has_mem (h := 5103) (by decide +kernel), mm_has_mem (h := 5104) (by decide +kernel)⟩⟩
theorem sm_kd155 : sm_kd 155 := ⟨fun h => absurd h (by decide +kernel), fun h => absurd h (by decide +kernel), fun _ => ⟨mm_has_mem (h := 5108) (by decide +kernel), mm_has_mem (h := 37) (by decide +kernel)⟩⟩
theorem sm_kd156 : sm_kd 156 := ⟨fun h => absurd h (by decide +kernel), fun h => absurd h (by decide +kernel), fun _ => ⟨mm_has_mem (h := 5113) (by decide +kernel), mm_has_mem (h := 38) (by decide +kernel)⟩⟩
theorem sm_kd157 : sm_kd 157 := ⟨fun h => absurd h (by decide +kernel), fun h => absurd h (by decide +kernel), fun _ => ⟨mm_has_mem (h := 5119) (by decide +kernel), mm_has_mem (h := 39) (by decide +kernel)⟩⟩
theorem sm_kd158 : sm_kd 158 := ⟨fun h => absurd h (by decide +kernel), fun h => absurd h (by decide +kernel), fun _ => ⟨mm_has_mem (h := 5125) (by decide +kernel), mm_has_mem (h := 40) (by decide +kernel)⟩⟩
theorem sm_kd159 : sm_kd 159 := ⟨fun h => absurd h (by decide +kernel), fun h => absurd h (by decide +kernel), fun _ => ⟨mm_has_mem (h := 5129) (by decide +kernel), mm_has_mem (h := 41) (by decide +kernel)⟩⟩
theorem sm_kd160 : sm_kd 160 := ⟨fun h => absurd h (by decide +kernel), fun h => absurd h (by decide +kernel), fun _ => ⟨mm_has_mem (h := 5133) (by decide +kernel), mm_has_mem (h := 42) (by decide +kernel)⟩⟩
theorem sm_kd161 : sm_kd 161 := ⟨fun h => absurd h (by decide +kernel), fun h => absurd h (by decide +kernel), fun _ => ⟨mm_has_mem (h := 5137) (by decide +kernel), mm_has_mem (h := 43) (by decide +kernel)⟩⟩
theorem sm_kd162 : sm_kd 162 := ⟨fun h => absurd h (by decide +kernel), fun h => absurd h (by decide +kernel), fun _ => ⟨mm_has_mem (h := 5141) (by decide +kernel), mm_has_mem (h := 44) (by decide +kernel)⟩⟩
theorem sm_kd163 : sm_kd 163 := ⟨fun h => absurd h (by decide +kernel), fun h => absurd h (by decide +kernel), fun _ => ⟨mm_has_mem (h := 5145) (by decide +kernel), mm_has_mem (h := 45) (by decide +kernel)⟩⟩
theorem sm_kd164 : sm_kd 164 := ⟨fun h => absurd h (by decide +kernel), fun h => absurd h (by decide +kernel), fun _ => ⟨mm_has_mem (h := 5149) (by decide +kernel), mm_has_mem (h := 46) (by decide +kernel)⟩⟩
theorem sm_kd165 : sm_kd 165 := ⟨fun h => absurd h (by decide +kernel), fun h => absurd h (by decide +kernel), fun _ => ⟨mm_has_mem (h := 5153) (by decide +kernel), mm_has_mem (h := 47) (by decide +kernel)⟩⟩
theorem sm_kd166 : sm_kd 166 := ⟨fun h => absurd h (by decide +kernel), fun h => absurd h (by decide +kernel), fun _ => ⟨mm_has_mem (h := 5159) (by decide +kernel), mm_has_mem (h := 5160) (by decide +kernel)⟩⟩
theorem sm_kd167 : sm_kd 167 := ⟨fun h => absurd h (by decide +kernel), fun h => absurd h (by decide +kernel), fun _ => ⟨mm_has_mem (h := 5164) (by decide +kernel), mm_has_mem (h := 48) (by decide +kernel)⟩⟩
theorem sm_kd168 : sm_kd 168 := ⟨fun h => absurd h (by decide +kernel), fun h => absurd h (by decide +kernel), fun _ => ⟨mm_has_mem (h := 5168) (by decide +kernel), mm_has_mem (h := 49) (by decide +kernel)⟩⟩
theorem sm_kd169 : sm_kd 169 := ⟨fun h => absurd h (by decide +kernel), fun h => absurd h (by decide +kernel), fun _ => ⟨mm_has_mem (h := 5172) (by decide +kernel), mm_has_mem (h := 50) (by decide +kernel)⟩⟩
theorem sm_kd170 : sm_kd 170 := ⟨fun h => absurd h (by decide +kernel), fun h => absurd h (by decide +kernel), fun _ => ⟨mm_has_mem (h := 5176) (by decide +kernel), mm_has_mem (h := 51) (by decide +kernel)⟩⟩
theorem sm_kd171 : sm_kd 171 := ⟨fun h => absurd h (by decide +kernel), fun h => absurd h (by decide +kernel), fun _ => ⟨mm_has_mem (h := 5179) (by decide +kernel), mm_has_mem (h := 5180) (by decide +kernel)⟩⟩
theorem sm_kd172 : sm_kd 172 := ⟨fun h => absurd h (by decide +kernel), fun h => absurd h (by decide +kernel), fun _ => ⟨mm_has_mem (h := 5183) (by decide +kernel), mm_has_mem (h := 5184) (by decide +kernel)⟩⟩
theorem sm_kd173 : sm_kd 173 := ⟨fun h => absurd h (by decide +kernel), fun h => absurd h (by decide +kernel), fun _ => ⟨mm_has_mem (h := 5187) (by decide +kernel), mm_has_mem (h := 5188) (by decide +kernel)⟩⟩
theorem sm_kd174 : sm_kd 174 := ⟨fun h => absurd h (by decide +kernel), fun h => absurd h (by decide +kernel), fun _ => ⟨mm_has_mem (h := 5192) (by decide +kernel), mm_has_mem (h := 5193) (by decide +kernel)⟩⟩
theorem sm_kd175 : sm_kd 175 := ⟨fun h => absurd h (by decide +kernel), fun h => absurd h (by decide +kernel), fun _ => ⟨mm_has_mem (h := 5197) (by decide +kernel), mm_has_mem (h := 5198) (by decide +kernel)⟩⟩
theorem sm_kd176 : sm_kd 176 := ⟨fun h => absurd h (by decide +kernel), fun h => absurd h (by decide +kernel), fun _ => ⟨mm_has_mem (h := 5201) (by decide +kernel), mm_has_mem (h := 5202) (by decide +kernel)⟩⟩
theorem sm_kd177 : sm_kd 177 := ⟨fun h => absurd h (by decide +kernel), fun h => absurd h (by decide +kernel), fun _ => ⟨mm_has_mem (h := 5205) (by decide +kernel), mm_has_mem (h := 5206) (by decide +kernel)⟩⟩
theorem sm_kd178 : sm_kd 178 := ⟨fun _ => mm_has_mem (h := 5211) (by decide +kernel), fun h => absurd h (by decide +kernel), fun h => absurd h (by decide +kernel)⟩
theorem sm_kd179 : sm_kd 179 := ⟨fun h => absurd h (by decide +kernel), fun h => absurd h (by decide +kernel), fun _ => ⟨mm_has_mem (h := 5217) (by decide +kernel), mm_has_mem (h := 5218) (by decide +kernel)⟩⟩
theorem sm_kd180 : sm_kd 180 := ⟨fun h => absurd h (by decide +kernel), fun h => absurd h (by decide +kernel), fun _ => ⟨mm_has_mem (h := 5222) (by decide +kernel), mm_has_mem (h := 5223) (by decide +kernel)⟩⟩
theorem sm_kd181 : sm_kd 181 := ⟨fun h => absurd h (by decide +kernel), fun h => absurd h (by decide +kernel), fun _ => ⟨mm_has_mem (h := 5226) (by decide +kernel), mm_has_mem (h := 5227) (by decide +kernel)⟩⟩
theorem sm_kd182 : sm_kd 182 := ⟨fun h => absurd h (by decide +kernel), fun h => absurd h (by decide +kernel), fun _ => ⟨mm_has_mem (h := 5231) (by decide +kernel), mm_has_mem (h := 52) (by decide +kernel)⟩⟩
theorem sm_kd183 : sm_kd 183 := ⟨fun h => absurd h (by decide +kernel), fun h => absurd h (by decide +kernel), fun _ => ⟨mm_has_mem (h := 5234) (by decide +kernel), mm_has_mem (h := 5235) (by decide +kernel)⟩⟩
theorem sm_kd184 : sm_kd 184 := ⟨fun h => absurd h (by decide +kernel), fun h => absurd h (by decide +kernel), fun _ => ⟨mm_has_mem (h := 5238) (by decide +kernel), mm_has_mem (h := 5239) (by decide +kernel)⟩⟩
theorem sm_kd185 : sm_kd 185 := ⟨fun h => absurd h (by decide +kernel), fun h => absurd h (by decide +kernel), fun _ => ⟨mm_has_mem (h := 6002) (by decide +kernel), mm_has_mem (h := 6003) (by decide +kernel)⟩⟩
theorem sm_kd186 : sm_kd 186 := ⟨fun h => absurd h (by decide +kernel), fun h => absurd h (by decide +kernel), fun _ => ⟨mm_has_mem (h := 6006) (by decide +kernel), mm_has_mem (h := 6007) (by decide +kernel)⟩⟩
theorem sm_kd187 : sm_kd 187 := ⟨fun h => absurd h (by decide +kernel), fun h => absurd h (by decide +kernel), fun _ => ⟨mm_has_mem (h := 6010) (by decide +kernel), mm_has_mem (h := 6011) (by decide +kernel)⟩⟩
theorem sm_kd188 : sm_kd 188 := ⟨fun h => absurd h (by decide +kernel), fun h => absurd h (by decide +kernel), fun _ => ⟨mm_has_mem (h := 6014) (by decide +kernel), mm_has_mem (h := 6015) (by decide +kernel)⟩⟩
theorem sm_kd189 : sm_kd 189 := ⟨fun h => absurd h (by decide +kernel), fun h => absurd h (by decide +kernel), fun _ => ⟨mm_has_mem (h := 6019) (by decide +kernel), mm_has_mem (h := 53) (by decide +kernel)⟩⟩
theorem sm_kd190 : sm_kd 190 := ⟨fun h => absurd h (by decide +kernel), fun h => absurd h (by decide +kernel), fun _ => ⟨mm_has_mem (h := 6023) (by decide +kernel), mm_has_mem (h := 54) (by decide +kernel)⟩⟩
theorem sm_kd191 : sm_kd 191 := ⟨fun _ => mm_has_mem (h := 6026) (by decide +kernel), fun h => absurd h (by decide +kernel), fun h => absurd h (by decide +kernel)⟩
theorem sm_kd192 : sm_kd 192 := ⟨fun h => absurd h (by decide +kernel), fun h => absurd h (by decide +kernel), fun _ => ⟨mm_has_mem (h := 6030) (by decide +kernel), mm_has_mem (h := 55) (by decide +kernel)⟩⟩
theorem sm_kd193 : sm_kd 193 := ⟨fun h => absurd h (by decide +kernel), fun h => absurd h (by decide +kernel), fun _ => ⟨mm_has_mem (h := 6034) (by decide +kernel), mm_has_mem (h := 56) (by decide +kernel)⟩⟩
theorem sm_kd194 : sm_kd 194 := ⟨fun h => absurd h (by decide +kernel), fun h => absurd h (by decide +kernel), fun _ => ⟨mm_has_mem (h := 6037) (by decide +kernel), mm_has_mem (h := 6038) (by decide +kernel)⟩⟩
theorem sm_kd195 : sm_kd 195 := ⟨fun h => absurd h (by decide +kernel), fun h => absurd h (by decide +kernel), fun _ => ⟨mm_has_mem (h := 6041) (by decide +kernel), mm_has_mem (h := 6042) (by decide +kernel)⟩⟩
theorem sm_kd196 : sm_kd 196 := ⟨fun h => absurd h (by decide +kernel), fun h => absurd h (by decide +kernel), fun _ => ⟨mm_has_mem (h := 6045) (by decide +kernel), mm_has_mem (h := 6046) (by decide +kernel)⟩⟩
theorem sm_kd197 : sm_kd 197 := ⟨fun h => absurd h (by decide +kernel), fun h => absurd h (by decide +kernel), fun _ => ⟨mm_has_mem (h := 6049) (by decide +kernel), mm_has_mem (h := 6050) (by decide +kernel)⟩⟩
theorem sm_kd198 : sm_kd 198 := ⟨fun _ => mm_has_mem (h := 6053) (by decide +kernel), fun h => absurd h (by decide +kernel), fun h => absurd h (by decide +kernel)⟩
theorem sm_kd199 : sm_kd 199 := ⟨fun h => absurd h (by decide +kernel), fun h => absurd h (by decide +kernel), fun _ => ⟨mm_has_mem (h := 6056) (by decide +kernel), mm_has_mem (h := 6057) (by decide +kernel)⟩⟩
theorem sm_kd200 : sm_kd 200 := ⟨fun _ => mm_has_mem (h := 6060) (by decide +kernel), fun h => absurd h (by decide +kernel), fun h => absurd h (by decide +kernel)⟩
theorem sm_kd201 : sm_kd 201 := ⟨fun h => absurd h (by decide +kernel), fun h => absurd h (by decide +kernel), fun _ => ⟨mm_has_mem (h := 6063) (by decide +kernel), mm_has_mem (h := 6064) (by decide +kernel)⟩⟩
theorem sm_kd202 : sm_kd 202 := ⟨fun h => absurd h (by decide +kernel), fun h => absurd h (by decide +kernel), fun _ => ⟨mm_has_mem (h := 6067) (by decide +kernel), mm_has_mem (h := 6068) (by decide +kernel)⟩⟩
theorem sm_kda : ∀ y, y < 203 → (y < 2 ∨ 4 < y) → sm_kd y := by
  intro y h1 h2
  match y, h1, h2 with
  | 0, _, _ => exact sm_kd0
  | 1, _, _ => exact sm_kd1
  | 2, _, h => exact absurd h (by decide)
  | 3, _, h => exact absurd h (by decide)
  | 4, _, h => exact absurd h (by decide)
  | 5, _, _ => exact sm_kd5
  | 6, _, _ => exact sm_kd6
  | 7, _, _ => exact sm_kd7
  | 8, _, _ => exact sm_kd8
  | 9, _, _ => exact sm_kd9
  | 10, _, _ => exact sm_kd10
  | 11, _, _ => exact sm_kd11
  | 12, _, _ => exact sm_kd12
  | 13, _, _ => exact sm_kd13
  | 14, _, _ => exact sm_kd14
  | 15, _, _ => exact sm_kd15
  | 16, _, _ => exact sm_kd16
  | 17, _, _ => exact sm_kd17
  | 18, _, _ => exact sm_kd18
  | 19, _, _ => exact sm_kd19
  | 20, _, _ => exact sm_kd20
  | 21, _, _ => exact sm_kd21
  | 22, _, _ => exact sm_kd22
  | 23, _, _ => exact sm_kd23
  | 24, _, _ => exact sm_kd24
  | 25, _, _ => exact sm_kd25
  | 26, _, _ => exact sm_kd26
  | 27, _, _ => exact sm_kd27
  | 28, _, _ => exact sm_kd28
  | 29, _, _ => exact sm_kd29
  | 30, _, _ => exact sm_kd30
  | 31, _, _ => exact sm_kd31
  | 32, _, _ => exact sm_kd32
  | 33, _, _ => exact sm_kd33
  | 34, _, _ => exact sm_kd34
  | 35, _, _ => exact sm_kd35
  | 36, _, _ => exact sm_kd36
  | 37, _, _ => exact sm_kd37
  | 38, _, _ => exact sm_kd38
  | 39, _, _ => exact sm_kd39
  | 40, _, _ => exact sm_kd40
  | 41, _, _ => exact sm_kd41
  | 42, _, _ => exact sm_kd42
  | 43, _, _ => exact sm_kd43
  | 44, _, _ => exact sm_kd44
  | 45, _, _ => exact sm_kd45
  | 46, _, _ => exact sm_kd46
  | 47, _, _ => exact sm_kd47
  | 48, _, _ => exact sm_kd48
  | 49, _, _ => exact sm_kd49
  | 50, _, _ => exact sm_kd50
  | 51, _, _ => exact sm_kd51
  | 52, _, _ => exact sm_kd52
  | 53, _, _ => exact sm_kd53
  | 54, _, _ => exact sm_kd54
  | 55, _, _ => exact sm_kd55
  | 56, _, _ => exact sm_kd56
  | 57, _, _ => exact sm_kd57
  | 58, _, _ => exact sm_kd58
  | 59, _, _ => exact sm_kd59
  | 60, _, _ => exact sm_kd60
  | 61, _, _ => exact sm_kd61
  | 62, _, _ => exact sm_kd62
  | 63, _, _ => exact sm_kd63
  | 64, _, _ => exact sm_kd64
  | 65, _, _ => exact sm_kd65
  | 66, _, _ => exact sm_kd66
  | 67, _, _ => exact sm_kd67
  | 68, _, _ => exact sm_kd68
  | 69, _, _ => exact sm_kd69
  | 70, _, _ => exact sm_kd70
  | 71, _, _ => exact sm_kd71
  | 72, _, _ => exact sm_kd72
  | 73, _, _ => exact sm_kd73
  | 74, _, _ => exact sm_kd74
  | 75, _, _ => exact sm_kd75
  | 76, _, _ => exact sm_kd76
  | 77, _, _ => exact sm_kd77
  | 78, _, _ => exact sm_kd78
  | 79, _, _ => exact sm_kd79
  | 80, _, _ => exact sm_kd80
  | 81, _, _ => exact sm_kd81
  | 82, _, _ => exact sm_kd82
  | 83, _, _ => exact sm_kd83
  | 84, _, _ => exact sm_kd84
  | 85, _, _ => exact sm_kd85
  | 86, _, _ => exact sm_kd86
  | 87, _, _ => exact sm_kd87
  | 88, _, _ => exact sm_kd88
  | 89, _, _ => exact sm_kd89
  | 90, _, _ => exact sm_kd90
  | 91, _, _ => exact sm_kd91
  | 92, _, _ => exact sm_kd92
  | 93, _, _ => exact sm_kd93
  | 94, _, _ => exact sm_kd94
  | 95, _, _ => exact sm_kd95
  | 96, _, _ => exact sm_kd96
  | 97, _, _ => exact sm_kd97
  | 98, _, _ => exact sm_kd98
  | 99, _, _ => exact sm_kd99
  | 100, _, _ => exact sm_kd100
  | 101, _, _ => exact sm_kd101
  | 102, _, _ => exact sm_kd102
  | 103, _, _ => exact sm_kd103
  | 104, _, _ => exact sm_kd104
  | 105, _, _ => exact sm_kd105
  | 106, _, _ => exact sm_kd106
  | 107, _, _ => exact sm_kd107
  | 108, _, _ => exact sm_kd108
  | 109, _, _ => exact sm_kd109
  | 110, _, _ => exact sm_kd110
  | 111, _, _ => exact sm_kd111
  | 112, _, _ => exact sm_kd112
  | 113, _, _ => exact sm_kd113
  | 114, _, _ => exact sm_kd114
  | 115, _, _ => exact sm_kd115
  | 116, _, _ => exact sm_kd116
  | 117, _, _ => exact sm_kd117
  | 118, _, _ => exact sm_kd118
  | 119, _, _ => exact sm_kd119
  | 120, _, _ => exact sm_kd120
  | 121, _, _ => exact sm_kd121
  | 122, _, _ => exact sm_kd122
  | 123, _, _ => exact sm_kd123
  | 124, _, _ => exact sm_kd124
  | 125, _, _ => exact sm_kd125
  | 126, _, _ => exact sm_kd126
  | 127, _, _ => exact sm_kd127
  | 128, _, _ => exact sm_kd128
  | 129, _, _ => exact sm_kd129
  | 130, _, _ => exact sm_kd130
  | 131, _, _ => exact sm_kd131
  | 132, _, _ => exact sm_kd132
  | 133, _, _ => exact sm_kd133
  | 134, _, _ => exact sm_kd134
  | 135, _, _ => exact sm_kd135
  | 136, _, _ => exact sm_kd136
  | 137, _, _ => exact sm_kd137
  | 138, _, _ => exact sm_kd138
  | 139, _, _ => exact sm_kd139
  | 140, _, _ => exact sm_kd140
  | 141, _, _ => exact sm_kd141
  | 142, _, _ => exact sm_kd142
  | 143, _, _ => exact sm_kd143
  | 144, _, _ => exact sm_kd144
  | 145, _, _ => exact sm_kd145
  | 146, _, _ => exact sm_kd146
  | 147, _, _ => exact sm_kd147
  | 148, _, _ => exact sm_kd148
  | 149, _, _ => exact sm_kd149
  | 150, _, _ => exact sm_kd150
  | 151, _, _ => exact sm_kd151
  | 152, _, _ => exact sm_kd152
  | 153, _, _ => exact sm_kd153
  | 154, _, _ => exact sm_kd154
  | 155, _, _ => exact sm_kd155
  | 156, _, _ => exact sm_kd156
  | 157, _, _ => exact sm_kd157
  | 158, _, _ => exact sm_kd158
  | 159, _, _ => exact sm_kd159
  | 160, _, _ => exact sm_kd160
  | 161, _, _ => exact sm_kd161
  | 162, _, _ => exact sm_kd162
  | 163, _, _ => exact sm_kd163
  | 164, _, _ => exact sm_kd164
  | 165, _, _ => exact sm_kd165
  | 166, _, _ => exact sm_kd166
  | 167, _, _ => exact sm_kd167
  | 168, _, _ => exact sm_kd168
  | 169, _, _ => exact sm_kd169
  | 170, _, _ => exact sm_kd170
  | 171, _, _ => exact sm_kd171
  | 172, _, _ => exact sm_kd172
  | 173, _, _ => exact sm_kd173
  | 174, _, _ => exact sm_kd174
  | 175, _, _ => exact sm_kd175
  | 176, _, _ => exact sm_kd176
  | 177, _, _ => exact sm_kd177
  | 178, _, _ => exact sm_kd178
  | 179, _, _ => exact sm_kd179
  | 180, _, _ => exact sm_kd180
  | 181, _, _ => exact sm_kd181
  | 182, _, _ => exact sm_kd182
  | 183, _, _ => exact sm_kd183
  | 184, _, _ => exact sm_kd184
  | 185, _, _ => exact sm_kd185
  | 186, _, _ => exact sm_kd186
  | 187, _, _ => exact sm_kd187
  | 188, _, _ => exact sm_kd188
  | 189, _, _ => exact sm_kd189
  | 190, _, _ => exact sm_kd190
  | 191, _, _ => exact sm_kd191
  | 192, _, _ => exact sm_kd192
  | 193, _, _ => exact sm_kd193
  | 194, _, _ => exact sm_kd194
  | 195, _, _ => exact sm_kd195
  | 196, _, _ => exact sm_kd196
  | 197, _, _ => exact sm_kd197
  | 198, _, _ => exact sm_kd198
  | 199, _, _ => exact sm_kd199
  | 200, _, _ => exact sm_kd200
  | 201, _, _ => exact sm_kd201
  | 202, _, _ => exact sm_kd202
  | y + 203, h, _ => exact absurd h (by omega)
end
section
/-! THE SMALL MACHINE'S CELLS AS THEY REALLY ARE -/
def sm_A (bs : Nat) : Nat → Prop := fun q => bs ≤ q
/-- a value of the small machine's, as it really is -/
def sm_v (ad : Nat → Nat) (fm : Value) (v : Value) : Value := match v with
  | .ref i => if i = 13 then fm else .ref (ad i)
  | v => v
def sm_fs (ad : Nat → Nat) (fm : Value) (μ : mm_M) (q n : Nat) (rs : List (Option Nat)) : List Value := (List.range (mm_N.getD n 0)).map (fun k => match mm_fc n k with
  | 0 => .int (μ.1 q k)
  | 1 => sm_v ad fm (va_rf (μ.2.2 q k))
  | _ => sm_v ad fm (va_rf (rs.getD k none)))
def sm_e (cy : Nat → ClassId) (ad : Nat → Nat) (fm : Value) (μ : mm_M) (q : Nat) (D : mm_D) : va_E := match D.1 with
  | 0 => .inr (D.2.1, sm_fs ad fm μ q D.2.1 D.2.2.2)
  | 4 => .inl (cy 4, D.2.1, .inr (.inl (μ.2.1 q)))
  | 5 => .inl (cy 5, D.2.1, .inr (.inr (.inr (.inr (fun j => (D.2.2.2.getD j none).map ad)))))
  | 6 => .inl (cy 6, D.2.1, .inr (.inr (.inr (.inr (fun j => (D.2.2.2.getD j none).map ad)))))
  | t => .inl (cy t, D.2.1, .inl (μ.1 q))
def sm_w (bs : Nat) (cy : Nat → ClassId) (ad : Nat → Nat) (fm : Value) (w : mm_W) : va_W := (List.range (w.1.length - 14)).map (fun j => (bs + j, sm_e cy ad fm w.2 (14 + j) (w.1.getD (14 + j) (0, 0, (fun _ => 0), []))))
def sm_t (cy : Nat → ClassId) : List (ClassId × FieldType) := [(cy 1, .int), (cy 2, .byte), (cy 3, .boolean), (cy 4, .long), (cy 5, .object RX6), (cy 6, .object RX7)]
def sm_by (l : List Int32) : Nat → Int32 := fun j => l.getD j 0
/-- the cells that were there before: the script, two static rows, five texts and their bytes, what is only carried -/
def sm_O (L : Nat) (xs : Nat → Int32) : List mm_D := [(7, L, xs, []), (7, 7, sm_by [-1, 0, 0, 0, 1, 2, 3], []), (7, 21, sm_by [10, 11, 12, 0, 20, 0, 30, 0, 0, 0, 0, 40, 50, 51, 0, 0, 0, 60, 71, 70, 0], []),
  (9, 8, (fun _ => 0), []), (9, 9, (fun _ => 0), []), (9, 10, (fun _ => 0), []), (9, 11, (fun _ => 0), []), (9, 12, (fun _ => 0), []),
  (8, 5, sm_by [109, 111, 114, 101, 32], []), (8, 5, sm_by [108, 101, 115, 115, 32], []), (8, 5, sm_by [103, 114, 111, 119, 32], []), (8, 6, sm_by [112, 107, 118, 120, 110, 104], []), (8, 3, sm_by [60, 61, 62], []), (11, 0, (fun _ => 0), [])]
def sm_dk (D : mm_D) : Prop := D.1 ≤ 6 ∧ ((D.1 = 5 ∨ D.1 = 6) → ∀ (j x : Nat), D.2.2.2.getD j none = some x → x ≠ 13)
def sm_wf (L : Nat) (xs : Nat → Int32) (Λ : List mm_D) : Prop := Λ.take 14 = sm_O L xs ∧ ∀ (q : Nat) (D : mm_D), 14 ≤ q → Λ[q]? = some D → sm_dk D
theorem sm_wf.len {L : Nat} {xs : Nat → Int32} {Λ : List mm_D} (h : sm_wf L xs Λ) : 14 ≤ Λ.length := by
  have h1 := congrArg List.length h.1
  rw [List.length_take] at h1
  have h2 : (sm_O L xs).length = 14 := rfl
  omega
theorem sm_wf.old {L : Nat} {xs : Nat → Int32} {Λ : List mm_D} (h : sm_wf L xs Λ) {q : Nat} {D : mm_D} (hq : Λ[q]? = some D) (h14 : q < 14) : (sm_O L xs)[q]? = some D := by
  rw [← h.1, List.getElem?_take, if_pos h14]
  exact hq
theorem sm_O7 {L : Nat} {xs : Nat → Int32} : ∀ (q : Nat) (D : mm_D), (sm_O L xs)[q]? = some D → 7 ≤ D.1 := by
  intro q D h
  have hl : q < 14 := (List.getElem?_eq_some_iff.mp h).1
  match q, hl with
  | 0, _ => cases h; exact Nat.le_refl 7
  | 1, _ => cases h; decide
  | 2, _ => cases h; decide
  | 3, _ => cases h; decide
  | 4, _ => cases h; decide
  | 5, _ => cases h; decide
  | 6, _ => cases h; decide
  | 7, _ => cases h; decide
  | 8, _ => cases h; decide
  | 9, _ => cases h; decide
  | 10, _ => cases h; decide
  | 11, _ => cases h; decide
  | 12, _ => cases h; decide
  | 13, _ => cases h; decide
/-- a cell that can be written is a new one -/
theorem sm_wf.new {L : Nat} {xs : Nat → Int32} {Λ : List mm_D} (h : sm_wf L xs Λ) {q : Nat} {D : mm_D} (hq : Λ[q]? = some D) (h6 : D.1 ≤ 6) : 14 ≤ q := by
  rcases Nat.lt_or_ge q 14 with h1 | h1
  · have := sm_O7 q D (h.old hq h1)
    omega
  · exact h1
theorem sm_wf.set {L : Nat} {xs : Nat → Int32} {Λ : List mm_D} (h : sm_wf L xs Λ) {q : Nat} {D : mm_D} (hq : 14 ≤ q) (h6 : sm_dk D) : sm_wf L xs (Λ.set q D) := by
  refine ⟨?_, fun c E hc hE => ?_⟩
  · rw [← h.1]
    apply List.ext_getElem?
    intro j
    rw [List.getElem?_take, List.getElem?_take]
    split
    · rw [List.getElem?_set_ne (by omega)]
    · rfl
  · by_cases hcq : q = c
    · subst hcq
      rw [List.getElem?_set] at hE
      simp only [if_true] at hE
      split at hE
      · cases hE; exact h6
      · cases hE
    · rw [List.getElem?_set_ne hcq] at hE
      exact h.2 c E hc hE
theorem sm_wf.push {L : Nat} {xs : Nat → Int32} {Λ : List mm_D} (h : sm_wf L xs Λ) {D : mm_D} (h6 : sm_dk D) : sm_wf L xs (Λ ++ [D]) := by
  have hl := h.len
  refine ⟨?_, fun c E hc hE => ?_⟩
  · rw [List.take_append_of_le_length hl]
    exact h.1
  · by_cases hcq : c < Λ.length
    · rw [List.getElem?_append_left hcq] at hE
      exact h.2 c E hc hE
    · rw [List.getElem?_append_right (by omega)] at hE
      have hz : c - Λ.length < 1 := (List.getElem?_eq_some_iff.mp hE).1
      rw [show c - Λ.length = 0 by omega] at hE
      cases hE
      exact h6
section
variable {bs : Nat} {cy : Nat → ClassId} {ad : Nat → Nat} {fm : Value} {w : mm_W} {Λ : List mm_D} {μ μ' : mm_M} {q : Nat} {D D' : mm_D}
theorem sm_get (h : w.1[q]? = some D) (hq : 14 ≤ q) : (sm_w bs cy ad fm w)[q - 14]? = some (bs + (q - 14), sm_e cy ad fm w.2 q D) := by
  have hl := (List.getElem?_eq_some_iff.mp h).1
  unfold sm_w
  rw [List.getElem?_map, List.getElem?_range (by omega)]
  have e : 14 + (q - 14) = q := by omega
  have e2 : w.1.getD q (0, 0, (fun _ => 0), []) = D := by rw [List.getD_eq_getElem?_getD, h]; rfl
  show some (bs + (q - 14), sm_e cy ad fm w.2 (14 + (q - 14)) (w.1.getD (14 + (q - 14)) (0, 0, (fun _ => 0), []))) = _
  rw [e, e2]
theorem sm_len : (sm_w bs cy ad fm w).length = w.1.length - 14 := by simp [sm_w]
theorem sm_e_eq (hμ : μ'.1 q = μ.1 q ∧ μ'.2.1 q = μ.2.1 q ∧ μ'.2.2 q = μ.2.2 q) : sm_e cy ad fm μ' q D = sm_e cy ad fm μ q D := by
  obtain ⟨h1, h2, h3⟩ := hμ
  unfold sm_e sm_fs
  rw [h1, h2, h3]
/-- one cell is otherwise -/
theorem sm_set (hq : Λ[q]? = some D) (h14 : 14 ≤ q) (hμ : ∀ c, c ≠ q → μ'.1 c = μ.1 c ∧ μ'.2.1 c = μ.2.1 c ∧ μ'.2.2 c = μ.2.2 c) : (sm_w bs cy ad fm (Λ, μ)).set (q - 14) (bs + (q - 14), sm_e cy ad fm μ' q D') = sm_w bs cy ad fm (Λ.set q D', μ') := by
  have hl := (List.getElem?_eq_some_iff.mp hq).1
  apply List.ext_getElem?
  intro j
  by_cases hj : j = q - 14
  · subst hj
    rw [List.getElem?_set_self (by rw [sm_len]; show q - 14 < Λ.length - 14; omega)]
    rw [sm_get (D := D') (by show (Λ.set q D')[q]? = _; rw [List.getElem?_set_self hl]) h14]
  · rw [List.getElem?_set_ne (Ne.symm hj)]
    by_cases hjl : j < Λ.length - 14
    · have h1 : ∃ E, Λ[14 + j]? = some E := ⟨_, List.getElem?_eq_getElem (by omega)⟩
      obtain ⟨E, hE⟩ := h1
      have a := sm_get (bs := bs) (cy := cy) (ad := ad) (fm := fm) (w := (Λ, μ)) (q := 14 + j) (D := E) hE (by omega)
      have b := sm_get (bs := bs) (cy := cy) (ad := ad) (fm := fm) (w := (Λ.set q D', μ')) (q := 14 + j) (D := E) (by show (Λ.set q D')[14 + j]? = _; rw [List.getElem?_set_ne (by omega)]; exact hE) (by omega)
      rw [show 14 + j - 14 = j by omega] at a b
      rw [a, b, sm_e_eq (hμ _ (by omega))]
    · rw [List.getElem?_eq_none (by rw [sm_len]; show Λ.length - 14 ≤ j; omega), List.getElem?_eq_none (by rw [sm_len]; show (Λ.set q D').length - 14 ≤ j; rw [List.length_set]; omega)]
/-- one cell more -/
theorem sm_push (h14 : 14 ≤ Λ.length) (hμ : ∀ c, c ≠ Λ.length → μ'.1 c = μ.1 c ∧ μ'.2.1 c = μ.2.1 c ∧ μ'.2.2 c = μ.2.2 c) : sm_w bs cy ad fm (Λ, μ) ++ [(bs + (Λ.length - 14), sm_e cy ad fm μ' Λ.length D)] = sm_w bs cy ad fm (Λ ++ [D], μ') := by
  apply List.ext_getElem?
  intro j
  by_cases hj : j < Λ.length - 14
  · rw [List.getElem?_append_left (by rw [sm_len]; exact hj)]
    have h1 : ∃ E, Λ[14 + j]? = some E := ⟨_, List.getElem?_eq_getElem (by omega)⟩
    obtain ⟨E, hE⟩ := h1
    have a := sm_get (bs := bs) (cy := cy) (ad := ad) (fm := fm) (w := (Λ, μ)) (q := 14 + j) (D := E) hE (by omega)
    have b := sm_get (bs := bs) (cy := cy) (ad := ad) (fm := fm) (w := (Λ ++ [D], μ')) (q := 14 + j) (D := E) (by show (Λ ++ [D])[14 + j]? = _; rw [List.getElem?_append_left (by omega)]; exact hE) (by omega)
    rw [show 14 + j - 14 = j by omega] at a b
    rw [a, b, sm_e_eq (hμ _ (by omega))]
  · rw [List.getElem?_append_right (by rw [sm_len]; show Λ.length - 14 ≤ j; omega), sm_len]
    show [(bs + (Λ.length - 14), sm_e cy ad fm μ' Λ.length D)][j - (Λ.length - 14)]? = _
    by_cases hj2 : j = Λ.length - 14
    · subst hj2
      rw [Nat.sub_self]
      have b := sm_get (bs := bs) (cy := cy) (ad := ad) (fm := fm) (w := (Λ ++ [D], μ')) (q := Λ.length) (D := D) (by show (Λ ++ [D])[Λ.length]? = _; simp) h14
      rw [b]
      rfl
    · rw [List.getElem?_eq_none (by simp; omega), List.getElem?_eq_none (by rw [sm_len]; show (Λ ++ [D]).length - 14 ≤ j; simp; omega)]
theorem sm_D : va_D (sm_A bs) (sm_w bs cy ad fm w) := by
  have key : ∀ (k : Nat) (x : Nat × va_E), (sm_w bs cy ad fm w)[k]? = some x → x.1 = bs + k := by
    intro k x hx
    unfold sm_w at hx
    rw [List.getElem?_map] at hx
    have hk : k < w.1.length - 14 := by
      rcases Nat.lt_or_ge k (w.1.length - 14) with h | h
      · exact h
      · rw [List.getElem?_eq_none (by simp; omega)] at hx; cases hx
    rw [List.getElem?_range hk] at hx
    cases hx
    rfl
  refine ⟨fun i j x y hi hj h => ?_, fun k x hx => ?_⟩
  · rw [key i x hi, key j y hj] at h
    omega
  · rw [key k x hx]
    exact Nat.le_add_right _ _
/-- the newest cell lies where the heap ended -/
theorem sm_last {Dg : va_G} {H : Heap} (hP : va_P Dg vwCl (sm_w bs cy ad fm w) H) (h : 14 < w.1.length) : bs + (w.1.length - 14) ≤ H.size := by
  have h1 : ∃ E, w.1[w.1.length - 1]? = some E := ⟨_, List.getElem?_eq_getElem (by omega)⟩
  obtain ⟨E, hE⟩ := h1
  have a := sm_get (bs := bs) (cy := cy) (ad := ad) (fm := fm) hE (by omega)
  have := (hP _ _ a).lt
  have e : bs + (w.1.length - 1 - 14) < H.size := this
  omega
end
/-- the places of a method -/
def sm_l (ad : Nat → Nat) (fm : Value) (ls : Array Slot) (L : mm_L) : Prop := ls.size = L.length ∧ lv_wf ls ∧ ∀ (i : Nat) (v : Value), mm_ld L i = some v → ls[i]? = some (.val (sm_v ad fm v))
def sm_as (ad : Nat → Nat) (fm : Value) (L : mm_L) : List (Nat × Value) := (List.range L.length).filterMap (fun i => (mm_ld L i).map (fun v => (i, sm_v ad fm v)))
theorem sm_ld_lt {L : mm_L} {i : Nat} {v : Value} (h : mm_ld L i = some v) : i < L.length := by
  unfold mm_ld at h
  split at h
  · rename_i o ho
    exact (List.getElem?_eq_some_iff.mp ho).1
  · cases h
theorem sm_l.has {ad : Nat → Nat} {fm : Value} {ls : Array Slot} {L : mm_L} (h : sm_l ad fm ls L) : lv_has ls L.length (sm_as ad fm L) := by
  refine ⟨h.1, h.2.1, fun q hq => ?_⟩
  obtain ⟨i, -, hi⟩ := List.mem_filterMap.mp hq
  cases hv : mm_ld L i with
  | none => rw [hv] at hi; cases hi
  | some v =>
    rw [hv] at hi
    cases hi
    exact h.2.2 i v hv
theorem sm_as_mem {ad : Nat → Nat} {fm : Value} {L : mm_L} {i : Nat} {v : Value} (h : mm_ld L i = some v) : (i, sm_v ad fm v) ∈ sm_as ad fm L :=
  List.mem_filterMap.mpr ⟨i, List.mem_range.mpr (sm_ld_lt h), by rw [h]; rfl⟩
theorem sm_ld_set {L : mm_L} {k j : Nat} {o : Option Value} : mm_ld (L.set k o) j = if k = j ∧ k < L.length then o else mm_ld L j := by
  unfold mm_ld
  rw [List.getElem?_set]
  by_cases h : k = j
  · subst h
    by_cases h2 : k < L.length
    · simp [h2]
    · simp [h2]
  · simp [h]
theorem sm_v_cat {ad : Nat → Nat} {fm : Value} (hfm : fm.category = 1) (v : Value) : (sm_v ad fm v).category = v.category := by
  cases v <;> simp only [sm_v]
  rename_i i
  split
  · rw [hfm]; rfl
  · rfl
theorem sm_lg {L : mm_L} {k j : Nat} {v : Value} (h : mm_lg L k = false) (hv : mm_ld L j = some v) (hj : j + 1 = k) : v.category = 1 := by
  subst hj
  unfold mm_ld at hv
  unfold mm_lg at h
  dsimp only at h
  cases hL : L[j]? with
  | none => rw [hL] at hv; cases hv
  | some o =>
    rw [hL] at hv h
    dsimp only at hv
    subst hv
    cases v <;> first | rfl | (simp at h)
end
section
/-! WHAT STANDS FIXED -/
def sm_St (bs : Nat) (cy : Nat → ClassId) (ad : Nat → Nat) (fm : Value) (Dg : va_G) (Ls : Nat) (xs : Nat → Int32) (s : State) : Prop :=
  va_K Dg vwCl (sm_t cy) s ∧ (va_AO RX6 s ∧ va_AO RX7 s) ∧
  (∀ q ∈ mm_nest, va_Nw (.methodLinkNest "GlobeCorner" q.1 (mm_I q.2).1 "GlobeCorner") s) ∧ va_Nw (.fieldLinkNest "GlobeCorner$Acts" 47 "GlobeCorner" "KIND_ABOVE" "[I" "GlobeCorner") s ∧
  (∀ q ∈ mm_strs, ∃ tx, vk_R q.1 q.2.1 tx (ad q.2.2) s) ∧
  (va_Z "java/lang/String" "COMPACT_STRINGS" "Z" (.int 1) (sm_A bs) s s.heap ∧ va_Z "GlobeCorner" "KIND_ABOVE" "[I" (.ref (ad 1)) (sm_A bs) s s.heap ∧ va_Z "GlobeCorner$Acts" "BODIES" "[I" (.ref (ad 2)) (sm_A bs) s s.heap ∧ va_Z "jdk/internal/util/Preconditions" "SIOOBE_FORMATTER" "Ljava/util/function/BiFunction;" fm (sm_A bs) s s.heap) ∧
  (∀ (i : Nat) (D : mm_D), (sm_O Ls xs)[i]? = some D → D.1 = 7 → va_T .int (ad i) D.2.1 (fun j => .int (D.2.2.1 j)) (sm_A bs) s s.heap) ∧
  (∀ (i : Nat) (D : mm_D), (sm_O Ls xs)[i]? = some D → D.1 = 8 → va_T .byte (ad i) D.2.1 (fun j => .int (D.2.2.1 j)) (sm_A bs) s s.heap) ∧
  (∀ (i : Nat) (D : mm_D), (sm_O Ls xs)[i]? = some D → D.1 = 9 → va_O "java/lang/String" (ad i) (sm_A bs) s s.heap ∧ va_OF "java/lang/String" "coder" "B" (.int 0) (ad i) (sm_A bs) s s.heap ∧ va_OF "java/lang/String" "value" "[B" (.ref (ad D.2.1)) (ad i) (sm_A bs) s s.heap) ∧ (fm = .null ∨ ∃ t, fm = .ref t)
theorem sm_St_fm {bs : Nat} {cy : Nat → ClassId} {ad : Nat → Nat} {fm : Value} {Dg : va_G} {Ls : Nat} {xs : Nat → Int32} {s : State} (h : sm_St bs cy ad fm Dg Ls xs s) : fm.category = 1 := by
  rcases h.2.2.2.2.2.2.2.2.2 with e | ⟨t, e⟩ <;> rw [e] <;> rfl
theorem sm_St.mv {bs : Nat} {cy : Nat → ClassId} {ad : Nat → Nat} {fm : Value} {Dg : va_G} {Ls : Nat} {xs : Nat → Int32} {u U : State} (h : sm_St bs cy ad fm Dg Ls xs u) (hvm : u.vm.Alike U.vm) (hm : ∀ (a : String) (i : Nat) (x : MethodName) (b : String), va_Nw (.methodLinkNest a i x b) u → va_Nw (.methodLinkNest a i x b) U) (hf : ∀ (a : String) (i : Nat) (x y z b : String), va_Nw (.fieldLinkNest a i x y z b) u → va_Nw (.fieldLinkNest a i x y z b) U)
    (hr : ∀ (o : String) (k : Nat) (tx : String) (a : Nat), vk_R o k tx a u → vk_R o k tx a U) (hh : ∀ a : Nat, a < u.heap.size → ¬ sm_A bs a → U.heap[a]? = u.heap[a]?) : sm_St bs cy ad fm Dg Ls xs U := by
  obtain ⟨h1, ⟨h2, h3⟩, h4, h5, h6, ⟨z1, z2, z3, z4⟩, h7, h8, h9, h10⟩ := h
  refine ⟨va_K.moved hvm h1, ⟨va_AO.moved hvm h2, va_AO.moved hvm h3⟩, fun q hq => hm _ _ _ _ (h4 q hq), hf _ _ _ _ _ _ h5, fun q hq => ?_, ⟨(va_Z.moved hvm z1).kept hh, (va_Z.moved hvm z2).kept hh, (va_Z.moved hvm z3).kept hh, (va_Z.moved hvm z4).kept hh⟩, fun i D hD ht => (va_T.moved hvm (h7 i D hD ht)).kept hh, fun i D hD ht => (va_T.moved hvm (h8 i D hD ht)).kept hh, fun i D hD ht => ?_, h10⟩
  · obtain ⟨tx, ht⟩ := h6 q hq
    exact ⟨tx, hr _ _ _ _ ht⟩
  · obtain ⟨a1, a2, a3⟩ := h9 i D hD ht
    exact ⟨(va_O.moved hvm a1).kept hh, (va_OF.moved hvm a2).kept hh, (va_OF.moved hvm a3).kept hh⟩
theorem sm_St.warm {bs : Nat} {cy : Nat → ClassId} {ad : Nat → Nat} {fm : Value} {Dg : va_G} {Ls : Nat} {xs : Nat → Int32} {s U : State} {H : Heap} {locs : List Loc} (h : sm_St bs cy ad fm Dg Ls xs s) (hW : s.WarmedH U.vm) (hU : U.heap = H) (hS : va_S (sm_A bs) s.heap H locs) : sm_St bs cy ad fm Dg Ls xs U :=
  h.mv hW.alike (fun _ _ _ _ z => va_Nw.warmM hW z) (fun _ _ _ _ _ _ z => va_Nw.warmF hW z) (fun _ _ _ _ z => vk_R.warm hW z) (fun a h1 h2 => by rw [hU]; exact hS.2.1 a h1 h2)
theorem sm_St.same {bs : Nat} {cy : Nat → ClassId} {ad : Nat → Nat} {fm : Value} {Dg : va_G} {Ls : Nat} {xs : Nat → Int32} {u U : State} (h : sm_St bs cy ad fm Dg Ls xs u) (hv : U.vm = u.vm) (hh : U.heap = u.heap) : sm_St bs cy ad fm Dg Ls xs U :=
  h.mv (by rw [hv]; exact Vm.Alike.refl _) (fun _ _ _ _ z => va_Nw.same rfl hv.symm z) (fun _ _ _ _ _ _ z => va_Nw.same rfl hv.symm z) (fun _ _ _ _ z => vk_R.same hv z) (fun a h1 h2 => by rw [hh])
def sm_En (p : Program) (R : Room) (s : State) (m : MethodId) (args : Array Value) (meth : Method) (c : Code) (Y : MethodName × ByteArray × Option FieldType) (ml d : Nat) : Prop :=
  p.tables.exec = Jvm.exec ∧ c.code = Y.2.1 ∧ meth.sig.returnType = Y.2.2 ∧ c.maxLocals = ml ∧ s.vm.findClass Y.1.cls = some m.cls ∧ (∀ w ∈ mm_good, w.before args s = true) ∧ meth.locks = false ∧ (Y.1.name = "<init>" → meth.name = "<init>") ∧ d + 1 ≤ R.frames ∧ 64 * (d + 1) ≤ R.locals
theorem mm_ok_d {Y : MethodName × ByteArray × Option FieldType} {RR : List (List mm_R)} {i h : Nat} {r : mm_R} (e : mm_ok Y RR i h r = true) : decode Y.2.1 r.2.1.1 = .ok (r.1, r.2.1.2) ∧ mm_pcis RR (i + 1) ((r.2.1.1 + r.2.1.2 : Nat) : Int) = true := by
  unfold mm_ok at e
  simp only [Bool.and_eq_true, decide_eq_true_eq] at e
  exact e.1
theorem mm_i1_inv {st st' : List Value} {g : Int32 → Option Value} (h : mm_i1 st g = some st') : ∃ x s v, st = .int x :: s ∧ g x = some v ∧ st' = v :: s := by
  unfold mm_i1 at h
  split at h
  · rename_i x s
    cases hg : g x with
    | none => rw [hg] at h; cases h
    | some v => rw [hg] at h; cases h; exact ⟨x, s, v, rfl, hg, rfl⟩
  · cases h
theorem mm_i2_inv {st st' : List Value} {g : Int32 → Int32 → Option Value} (h : mm_i2 st g = some st') : ∃ x y s v, st = .int y :: .int x :: s ∧ g x y = some v ∧ st' = v :: s := by
  unfold mm_i2 at h
  split at h
  · rename_i y x s
    cases hg : g x y with
    | none => rw [hg] at h; cases h
    | some v => rw [hg] at h; cases h; exact ⟨x, y, s, v, rfl, hg, rfl⟩
  · cases h
theorem mm_j2_inv {st st' : List Value} {g : Int64 → Int64 → Option Value} (h : mm_j2 st g = some st') : ∃ x y s v, st = .long y :: .long x :: s ∧ g x y = some v ∧ st' = v :: s := by
  unfold mm_j2 at h
  split at h
  · rename_i y x s
    cases hg : g x y with
    | none => rw [hg] at h; cases h
    | some v => rw [hg] at h; cases h; exact ⟨x, y, s, v, rfl, hg, rfl⟩
  · cases h
section
variable {p : Program} {l : Launch} {e : Env} {R : Room} {s : State} {m : MethodId} {args : Array Value} {below : List Frame} {meth : Method} {c : Code} {H : Heap} {locs : List Loc} {cells slots : Nat} {Q : State → Prop}
variable {bs : Nat} {cy : Nat → ClassId} {ad : Nat → Nat} {fm : Value} {Dg : va_G} {Ls : Nat} {xs : Nat → Int32} {Y : MethodName × ByteArray × Option FieldType} {RR : List (List mm_R)} {i hh ml d : Nat} {r : mm_R} {ls : Array Slot} {st st' : List Value}
set_option maxHeartbeats 4000000 in
set_option maxRecDepth 100000 in
theorem sm_op (hE : sm_En p R s m args meth c Y ml d) (hSt : sm_St bs cy ad fm Dg Ls xs s) (hS : va_S (sm_A bs) s.heap H locs) (ok : mm_ok Y RR i hh r = true) (h : mm_op r st = some st') (k : W p l e R s m args below meth c H locs cells slots Q (F0 m (r.2.1.1 + r.2.1.2) ls (st'.map (sm_v ad fm)))) : W p l e R s m args below meth c H locs cells slots Q (F0 m r.2.1.1 ls (st.map (sm_v ad fm))) := by
  obtain ⟨hx, hb, hr, hml, hown, hts, hlocks, hnm, hfr, hlo⟩ := hE
  have hd := (mm_ok_d ok).1
  obtain ⟨ins, ⟨pc, len⟩, ⟨a, b, c0⟩, ⟨z, w⟩, ts⟩ := r
  unfold mm_ok at ok
  rw [Bool.and_eq_true] at ok
  replace ok := ok.2
  unfold mm_op at h
  dsimp only at h ok hd k ⊢
  cases ins
  case iconst n =>
    dsimp only at h ok
    simp only [Bool.and_eq_true, decide_eq_true_eq] at ok
    obtain ⟨h1, rfl⟩ := ok
    cases h
    exact lv_iconst hx hb hd h1 k
  case bipush n =>
    dsimp only at h ok
    simp only [Bool.and_eq_true, decide_eq_true_eq] at ok
    obtain ⟨h1, rfl⟩ := ok
    cases h
    exact lv_bipush hx hb hd h1 k
  case sipush n =>
    dsimp only at h ok
    simp only [Bool.and_eq_true, decide_eq_true_eq] at ok
    obtain ⟨h1, rfl⟩ := ok
    cases h
    exact lv_sipush hx hb hd h1 k
  case lconst n =>
    dsimp only at h ok
    simp only [Bool.and_eq_true, decide_eq_true_eq] at ok
    obtain ⟨h1, rfl⟩ := ok
    cases h
    exact lv_lconst hx hb hd h1 k
  case ldc_w n =>
    dsimp only at h ok
    simp only [Bool.and_eq_true, decide_eq_true_eq] at ok
    obtain ⟨rfl, h1⟩ := ok
    cases h
    exact lv_ldcw hx hb hown (hts _ (mm_has_mem h1)) hd k
  case ldc2_w n =>
    dsimp only at h ok
    simp only [Bool.and_eq_true, decide_eq_true_eq] at ok
    obtain ⟨rfl, h1⟩ := ok
    cases h
    exact lv_ldc2 hx hb hown (hts _ (mm_has_mem h1)) hd k
  case ldc n =>
    dsimp only at h ok
    simp only [Bool.and_eq_true, decide_eq_true_eq] at ok
    obtain ⟨rfl, h1⟩ := ok
    cases c0 with
    | zero =>
      cases h
      exact lv_ldc hx hb hown (hts _ (mm_has_mem h1)) hd k
    | succ c0 =>
      cases h
      simp only [decide_eq_true_eq] at h1
      obtain ⟨tx, ht⟩ := hSt.2.2.2.2.1 _ h1
      have ha : a ≠ 13 := by
        intro e
        subst e
        simp [mm_strs] at h1
      refine va_ldcS hx hb hown ht hd ?_
      have e1 : sm_v ad fm (.ref a) = .ref (ad a) := by simp [sm_v, ha]
      rw [List.map_cons, e1] at k
      exact k
  case getstatic n =>
    dsimp only at h ok
    simp only [Bool.and_eq_true, decide_eq_true_eq] at ok
    obtain ⟨rfl, h1⟩ := ok
    obtain ⟨z1, z2, z3, z4⟩ := hSt.2.2.2.2.2.1
    cases c0 with
    | zero =>
      try dsimp only at h h1
      cases h
      simp only [Bool.and_eq_true, decide_eq_true_eq] at h1
      obtain ⟨rfl, h1⟩ := h1
      exact va_gets hx hb z1 hS hown (hts _ (mm_has_mem h1)) (fun _ q => q) hd k
    | succ c0 =>
      try dsimp only at h h1
      cases h
      split at h1
      · rename_i heq
        exact absurd heq (by omega)
      · split at h1
        · rw [Bool.or_eq_true] at h1
          rcases h1 with h1 | h1
          · exact va_gets hx hb z2 hS hown (hts _ (mm_has_mem h1)) (fun _ q => q) hd k
          · simp only [decide_eq_true_eq] at h1
            obtain ⟨h2, rfl⟩ := h1
            rw [h2] at hown
            exact va_getsN hx hb z2 hS hown (va_Nw.use rfl hSt.2.2.2.1) (fun _ q => q) hd k
        · exact va_gets hx hb z3 hS hown (hts _ (mm_has_mem h1)) (fun _ q => q) hd k
        · exact va_gets hx hb z4 hS hown (hts _ (mm_has_mem h1)) (fun _ q => q) hd k
        · cases h1
  case iadd => simp only [decide_eq_true_eq] at ok; subst ok; obtain ⟨x, y, s1, v, rfl, hg, rfl⟩ := mm_i2_inv h; cases hg; exact lv_iadd hx hb hd k
  case isub => simp only [decide_eq_true_eq] at ok; subst ok; obtain ⟨x, y, s1, v, rfl, hg, rfl⟩ := mm_i2_inv h; cases hg; exact lv_isub hx hb hd k
  case imul => simp only [decide_eq_true_eq] at ok; subst ok; obtain ⟨x, y, s1, v, rfl, hg, rfl⟩ := mm_i2_inv h; cases hg; exact lv_imul hx hb hd k
  case iand => simp only [decide_eq_true_eq] at ok; subst ok; obtain ⟨x, y, s1, v, rfl, hg, rfl⟩ := mm_i2_inv h; cases hg; exact lv_iand hx hb hd k
  case ior => simp only [decide_eq_true_eq] at ok; subst ok; obtain ⟨x, y, s1, v, rfl, hg, rfl⟩ := mm_i2_inv h; cases hg; exact lv_ior hx hb hd k
  case ixor => simp only [decide_eq_true_eq] at ok; subst ok; obtain ⟨x, y, s1, v, rfl, hg, rfl⟩ := mm_i2_inv h; cases hg; exact lv_ixor hx hb hd k
  case ishl => simp only [decide_eq_true_eq] at ok; subst ok; obtain ⟨x, y, s1, v, rfl, hg, rfl⟩ := mm_i2_inv h; cases hg; exact lv_ishl hx hb hd k
  case ishr => simp only [decide_eq_true_eq] at ok; subst ok; obtain ⟨x, y, s1, v, rfl, hg, rfl⟩ := mm_i2_inv h; cases hg; exact lv_ishr hx hb hd k
  case iushr => simp only [decide_eq_true_eq] at ok; subst ok; obtain ⟨x, y, s1, v, rfl, hg, rfl⟩ := mm_i2_inv h; cases hg; exact lv_iushr hx hb hd rfl k
  case idiv =>
    simp only [decide_eq_true_eq] at ok; subst ok; obtain ⟨x, y, s1, v, rfl, hg, rfl⟩ := mm_i2_inv h
    by_cases hy : y = 0
    · rw [if_pos hy] at hg; cases hg
    · rw [if_neg hy] at hg; cases hg; exact lv_idiv hx hb hd hy k
  case irem =>
    simp only [decide_eq_true_eq] at ok; subst ok; obtain ⟨x, y, s1, v, rfl, hg, rfl⟩ := mm_i2_inv h
    by_cases hy : y = 0
    · rw [if_pos hy] at hg; cases hg
    · rw [if_neg hy] at hg; cases hg; exact lv_irem hx hb hd hy k
  case ineg => simp only [decide_eq_true_eq] at ok; subst ok; obtain ⟨x, s1, v, rfl, hg, rfl⟩ := mm_i1_inv h; cases hg; exact lv_ineg hx hb hd k
  case i2l => simp only [decide_eq_true_eq] at ok; subst ok; obtain ⟨x, s1, v, rfl, hg, rfl⟩ := mm_i1_inv h; cases hg; exact lv_i2l hx hb hd rfl k
  case i2b => simp only [decide_eq_true_eq] at ok; subst ok; obtain ⟨x, s1, v, rfl, hg, rfl⟩ := mm_i1_inv h; cases hg; exact lv_i2b hx hb hd rfl k
  case i2s => simp only [decide_eq_true_eq] at ok; subst ok; obtain ⟨x, s1, v, rfl, hg, rfl⟩ := mm_i1_inv h; cases hg; exact lv_i2s hx hb hd rfl k
  case i2c => simp only [decide_eq_true_eq] at ok; subst ok; obtain ⟨x, s1, v, rfl, hg, rfl⟩ := mm_i1_inv h; cases hg; exact lv_i2c hx hb hd rfl k
  case ladd => simp only [decide_eq_true_eq] at ok; subst ok; obtain ⟨x, y, s1, v, rfl, hg, rfl⟩ := mm_j2_inv h; cases hg; exact lv_ladd hx hb hd k
  case land => simp only [decide_eq_true_eq] at ok; subst ok; obtain ⟨x, y, s1, v, rfl, hg, rfl⟩ := mm_j2_inv h; cases hg; exact lv_land hx hb hd k
  case lor => simp only [decide_eq_true_eq] at ok; subst ok; obtain ⟨x, y, s1, v, rfl, hg, rfl⟩ := mm_j2_inv h; cases hg; exact lv_lor hx hb hd k
  case lxor => simp only [decide_eq_true_eq] at ok; subst ok; obtain ⟨x, y, s1, v, rfl, hg, rfl⟩ := mm_j2_inv h; cases hg; exact lv_lxor hx hb hd k
  case ldiv =>
    simp only [decide_eq_true_eq] at ok; subst ok; obtain ⟨x, y, s1, v, rfl, hg, rfl⟩ := mm_j2_inv h
    by_cases hy : y = 0
    · rw [if_pos hy] at hg; cases hg
    · rw [if_neg hy] at hg; cases hg; exact lv_ldiv hx hb hd hy k
  case lrem =>
    simp only [decide_eq_true_eq] at ok; subst ok; obtain ⟨x, y, s1, v, rfl, hg, rfl⟩ := mm_j2_inv h
    by_cases hy : y = 0
    · rw [if_pos hy] at hg; cases hg
    · rw [if_neg hy] at hg; cases hg; exact lv_lrem hx hb hd hy k
  case lcmp => simp only [decide_eq_true_eq] at ok; subst ok; obtain ⟨x, y, s1, v, rfl, hg, rfl⟩ := mm_j2_inv h; cases hg; exact W.lcmp hx hb hd k
  case lneg =>
    simp only [decide_eq_true_eq] at ok
    subst ok
    dsimp only at h
    split at h
    · cases h
      exact lv_lneg hx hb hd k
    · cases h
  case l2i =>
    simp only [decide_eq_true_eq] at ok
    subst ok
    dsimp only at h
    split at h
    · cases h
      exact lv_l2i hx hb hd rfl k
    · cases h
  case lshl =>
    simp only [decide_eq_true_eq] at ok
    subst ok
    dsimp only at h
    split at h
    · cases h
      exact lv_lshl hx hb hd rfl k
    · cases h
  case lshr =>
    simp only [decide_eq_true_eq] at ok
    subst ok
    dsimp only at h
    split at h
    · cases h
      exact lv_lshr hx hb hd rfl k
    · cases h
  case dup =>
    simp only [decide_eq_true_eq] at ok; subst ok; dsimp only at h
    have hf1 := sm_St_fm hSt
    split at h
    · cases h; exact lv_dup hx hb hd rfl k
    · cases h; exact lv_dup hx hb hd (by rw [sm_v_cat hf1]; rfl) k
    · cases h
  case pop =>
    simp only [decide_eq_true_eq] at ok; subst ok; dsimp only at h
    have hf1 := sm_St_fm hSt
    split at h
    · cases h; exact lv_pop hx hb hd rfl k
    · cases h; exact lv_pop hx hb hd (by rw [sm_v_cat hf1]; rfl) k
    · cases h
  case dup_x1 =>
    simp only [decide_eq_true_eq] at ok; subst ok; dsimp only at h
    have hf1 := sm_St_fm hSt
    split at h
    · cases h; exact lv_dup_x1 hx hb hd rfl (by rw [sm_v_cat hf1]; rfl) k
    · cases h
  case dup2 =>
    simp only [decide_eq_true_eq] at ok; subst ok; dsimp only at h
    have hf1 := sm_St_fm hSt
    split at h
    · cases h; exact lv_dup2_11 hx hb hd rfl (by rw [sm_v_cat hf1]; rfl) k
    · cases h
  all_goals cases h
end
end
section
theorem mm_blt {a b : Nat} (h : Nat.blt a b = true) : a < b := Nat.le_of_ble_eq_true h
theorem sm_fc {fm : Value} (h : fm = .null ∨ ∃ t, fm = .ref t) : fm.category = 1 := by
  rcases h with rfl | ⟨t, rfl⟩ <;> rfl
theorem sm_vr {ad : Nat → Nat} {fm : Value} (h : fm = .null ∨ ∃ t, fm = .ref t) (x : Nat) : sm_v ad fm (.ref x) = .null ∨ ∃ t, sm_v ad fm (.ref x) = .ref t := by
  simp only [sm_v]
  split
  · exact h
  · exact Or.inr ⟨_, rfl⟩
theorem sm_st1 {ad : Nat → Nat} {fm : Value} (hfm : fm.category = 1) {ls' : Array Slot} {L L' : mm_L} {a : Nat} {v : Value} (h : mm_st1 L a v = some L') (hh : lv_has ls' L.length ((a, sm_v ad fm v) :: (sm_as ad fm L).filter (fun q => !(q.1 == a) && !(q.1 + 1 == a && q.2.category == 2)))) : sm_l ad fm ls' L' ∧ L'.length = L.length := by
  unfold mm_st1 at h
  split at h
  · rename_i hg hb
    cases h
    have hlt : a < L.length := mm_blt hb
    refine ⟨⟨by rw [List.length_set]; exact hh.1, hh.2.1, fun j u hu => ?_⟩, List.length_set⟩
    rw [sm_ld_set] at hu
    by_cases hj : a = j
    · subst hj
      rw [if_pos ⟨rfl, hlt⟩] at hu
      cases hu
      exact hh.2.2 (a, sm_v ad fm v) List.mem_cons_self
    · rw [if_neg (fun q => hj q.1)] at hu
      refine hh.2.2 (j, sm_v ad fm u) (List.mem_cons_of_mem _ (List.mem_filter.mpr ⟨sm_as_mem hu, ?_⟩))
      simp only [Bool.and_eq_true, Bool.not_eq_true', beq_eq_false_iff_ne, ne_eq, Bool.and_eq_false_iff]
      refine ⟨fun q => hj q.symm, ?_⟩
      by_cases h1 : j + 1 = a
      · right
        rw [sm_v_cat hfm, sm_lg hg hu h1]
        decide
      · left; exact h1
  · cases h
theorem sm_st2 {ad : Nat → Nat} {fm : Value} (hfm : fm.category = 1) {ls' : Array Slot} {L L' : mm_L} {a : Nat} {v : Value} (h : mm_st2 L a v = some L') (hh : lv_has ls' L.length ((a, sm_v ad fm v) :: (sm_as ad fm L).filter (fun q => !(q.1 == a) && (!(q.1 == a + 1) && !(q.1 + 1 == a && q.2.category == 2))))) : sm_l ad fm ls' L' ∧ L'.length = L.length := by
  unfold mm_st2 at h
  split at h
  · rename_i hg hb
    cases h
    have hlt : a + 1 < L.length := mm_blt hb
    refine ⟨⟨by rw [List.length_set, List.length_set]; exact hh.1, hh.2.1, fun j u hu => ?_⟩, by rw [List.length_set, List.length_set]⟩
    rw [sm_ld_set, sm_ld_set, List.length_set] at hu
    by_cases hj2 : a + 1 = j
    · rw [if_pos ⟨hj2, hlt⟩] at hu; cases hu
    · rw [if_neg (fun q => hj2 q.1)] at hu
      by_cases hj : a = j
      · subst hj
        rw [if_pos ⟨rfl, by omega⟩] at hu
        cases hu
        exact hh.2.2 (a, sm_v ad fm v) List.mem_cons_self
      · rw [if_neg (fun q => hj q.1)] at hu
        refine hh.2.2 (j, sm_v ad fm u) (List.mem_cons_of_mem _ (List.mem_filter.mpr ⟨sm_as_mem hu, ?_⟩))
        simp only [Bool.and_eq_true, Bool.not_eq_true', beq_eq_false_iff_ne, ne_eq, Bool.and_eq_false_iff]
        refine ⟨fun q => hj q.symm, fun q => hj2 q.symm, ?_⟩
        by_cases h1 : j + 1 = a
        · right
          rw [sm_v_cat hfm, sm_lg hg hu h1]
          decide
        · left; exact h1
  · cases h
theorem sm_st1_lt {L L' : mm_L} {a : Nat} {v : Value} (h : mm_st1 L a v = some L') : a < L.length := by
  unfold mm_st1 at h
  split at h
  · rename_i hg hb
    exact mm_blt hb
  · cases h
theorem sm_st2_lt {L L' : mm_L} {a : Nat} {v : Value} (h : mm_st2 L a v = some L') : a + 1 < L.length := by
  unfold mm_st2 at h
  split at h
  · rename_i hg hb
    exact mm_blt hb
  · cases h
section
variable {p : Program} {l : Launch} {e : Env} {R : Room} {s : State} {m : MethodId} {args : Array Value} {below : List Frame} {meth : Method} {c : Code} {H : Heap} {locs : List Loc} {cells slots : Nat} {Q : State → Prop}
variable {bs : Nat} {cy : Nat → ClassId} {ad : Nat → Nat} {fm : Value} {Dg : va_G} {Ls : Nat} {xs : Nat → Int32} {Y : MethodName × ByteArray × Option FieldType} {RR : List (List mm_R)} {i hh ml d : Nat} {r : mm_R} {ls : Array Slot} {st st' : List Value} {L L' : mm_L}
set_option maxHeartbeats 4000000 in
set_option maxRecDepth 100000 in
theorem sm_lo (hE : sm_En p R s m args meth c Y ml d) (hfm : fm = .null ∨ ∃ t, fm = .ref t) (hl : sm_l ad fm ls L) (ok : mm_ok Y RR i hh r = true) (h : mm_lo r L st = some (L', st')) (k : ∀ ls', sm_l ad fm ls' L' → L'.length = L.length → W p l e R s m args below meth c H locs cells slots Q (F0 m (r.2.1.1 + r.2.1.2) ls' (st'.map (sm_v ad fm)))) : W p l e R s m args below meth c H locs cells slots Q (F0 m r.2.1.1 ls (st.map (sm_v ad fm))) := by
  obtain ⟨hx, hb, hr, hml, hown, hts, hlocks, hnm, hfr, hlo⟩ := hE
  have hd := (mm_ok_d ok).1
  have hfc := sm_fc hfm
  obtain ⟨ins, ⟨pc, len⟩, ⟨a, b, c0⟩, ⟨z, w⟩, ts⟩ := r
  unfold mm_ok at ok
  rw [Bool.and_eq_true] at ok
  replace ok := ok.2
  unfold mm_lo at h
  dsimp only at h ok hd k ⊢
  cases ins
  case iload n =>
    dsimp only at h ok
    simp only [Bool.and_eq_true, decide_eq_true_eq] at ok
    obtain ⟨rfl, rfl⟩ := ok
    split at h
    · rename_i x hv
      cases h
      exact lv_iload hx hb hd (hl.2.2 _ _ hv) (k ls hl rfl)
    · cases h
  case iload_n n =>
    dsimp only at h ok
    simp only [Bool.and_eq_true, decide_eq_true_eq] at ok
    obtain ⟨h1, rfl⟩ := ok
    split at h
    · rename_i x hv
      cases h
      exact lv_iload_n hx hb hd h1 (hl.2.2 _ _ hv) (k ls hl rfl)
    · cases h
  case lload n =>
    dsimp only at h ok
    simp only [Bool.and_eq_true, decide_eq_true_eq] at ok
    obtain ⟨rfl, rfl⟩ := ok
    split at h
    · rename_i x hv
      cases h
      exact lv_lload hx hb hd (hl.2.2 _ _ hv) (k ls hl rfl)
    · cases h
  case lload_n n =>
    dsimp only at h ok
    simp only [Bool.and_eq_true, decide_eq_true_eq] at ok
    obtain ⟨h1, rfl⟩ := ok
    split at h
    · rename_i x hv
      cases h
      exact lv_lload_n hx hb hd h1 (hl.2.2 _ _ hv) (k ls hl rfl)
    · cases h
  case aload n =>
    dsimp only at h ok
    simp only [Bool.and_eq_true, decide_eq_true_eq] at ok
    obtain ⟨rfl, rfl⟩ := ok
    split at h
    · rename_i x hv
      have hh1 := hl.2.2 _ _ hv
      have k1 := k ls
      cases h
      have k2 := k1 hl rfl
      rw [List.map_cons] at k2
      rcases sm_vr (ad := ad) hfm x with e1 | ⟨t, e1⟩
      · rw [e1] at hh1 k2
        exact lv_aloadN hx hb hd hh1 k2
      · rw [e1] at hh1 k2
        exact lv_aload hx hb hd hh1 k2
    · cases h
  case aload_n n =>
    dsimp only at h ok
    simp only [Bool.and_eq_true, decide_eq_true_eq] at ok
    obtain ⟨h1, rfl⟩ := ok
    split at h
    · rename_i x hv
      have hh1 := hl.2.2 _ _ hv
      have k1 := k ls
      cases h
      have k2 := k1 hl rfl
      rw [List.map_cons] at k2
      rcases sm_vr (ad := ad) hfm x with e1 | ⟨t, e1⟩
      · rw [e1] at hh1 k2
        exact lv_aload_nN hx hb hd h1 hh1 k2
      · rw [e1] at hh1 k2
        exact lv_aload_n hx hb hd h1 hh1 k2
    · cases h
  case istore n =>
    dsimp only at h ok
    simp only [Bool.and_eq_true, decide_eq_true_eq] at ok
    obtain ⟨rfl, rfl⟩ := ok
    split at h
    · split at h
      · rename_i x s1 o1 L1 hv
        cases h
        exact lv_istore hx hb hd hl.has (sm_st1_lt hv) rfl (fun ls' h1 => k ls' (sm_st1 hfc hv h1).1 (sm_st1 hfc hv h1).2)
      · cases h
    · cases h
  case istore_n n =>
    dsimp only at h ok
    simp only [Bool.and_eq_true, decide_eq_true_eq] at ok
    obtain ⟨h1, rfl⟩ := ok
    split at h
    · split at h
      · rename_i x s1 o1 L1 hv
        cases h
        exact lv_istore_n hx hb hd h1 hl.has (sm_st1_lt hv) rfl (fun ls' h1 => k ls' (sm_st1 hfc hv h1).1 (sm_st1 hfc hv h1).2)
      · cases h
    · cases h
  case lstore n =>
    dsimp only at h ok
    simp only [Bool.and_eq_true, decide_eq_true_eq] at ok
    obtain ⟨rfl, rfl⟩ := ok
    split at h
    · split at h
      · rename_i x s1 o1 L1 hv
        cases h
        exact lv_lstore hx hb hd hl.has (sm_st2_lt hv) rfl (fun ls' h1 => k ls' (sm_st2 hfc hv h1).1 (sm_st2 hfc hv h1).2)
      · cases h
    · cases h
  case astore n =>
    dsimp only at h ok
    simp only [Bool.and_eq_true, decide_eq_true_eq] at ok
    obtain ⟨rfl, rfl⟩ := ok
    split at h
    · split at h
      · rename_i x s1 o1 L1 hv
        cases h
        rw [List.map_cons]
        rcases sm_vr (ad := ad) hfm x with e1 | ⟨t, e1⟩
        · rw [e1]
          exact lv_astoreN hx hb hd hl.has (sm_st1_lt hv) rfl (fun ls' h1 => by
            rw [← e1] at h1
            exact k ls' (sm_st1 hfc hv h1).1 (sm_st1 hfc hv h1).2)
        · rw [e1]
          exact lv_astore hx hb hd hl.has (sm_st1_lt hv) rfl (fun ls' h1 => by
            rw [← e1] at h1
            exact k ls' (sm_st1 hfc hv h1).1 (sm_st1 hfc hv h1).2)
      · cases h
    · cases h
  case astore_n n =>
    dsimp only at h ok
    simp only [Bool.and_eq_true, decide_eq_true_eq] at ok
    obtain ⟨h1, rfl⟩ := ok
    split at h
    · split at h
      · rename_i x s1 o1 L1 hv
        cases h
        rw [List.map_cons]
        rcases sm_vr (ad := ad) hfm x with e1 | ⟨t, e1⟩
        · rw [e1]
          exact lv_astore_nN hx hb hd h1 hl.has (sm_st1_lt hv) rfl (fun ls' h1 => by
            rw [← e1] at h1
            exact k ls' (sm_st1 hfc hv h1).1 (sm_st1 hfc hv h1).2)
        · rw [e1]
          exact lv_astore_n hx hb hd h1 hl.has (sm_st1_lt hv) rfl (fun ls' h1 => by
            rw [← e1] at h1
            exact k ls' (sm_st1 hfc hv h1).1 (sm_st1 hfc hv h1).2)
      · cases h
    · cases h
  case iinc n z1 =>
    dsimp only at h ok
    simp only [Bool.and_eq_true, decide_eq_true_eq] at ok
    obtain ⟨⟨rfl, h2⟩, rfl⟩ := ok
    split at h
    · split at h
      · rename_i x hx1 o1 L1 hv
        cases h
        obtain ⟨kk, hk⟩ := List.getElem?_of_mem (sm_as_mem (ad := ad) (fm := fm) hx1)
        exact lv_iinc hx hb hd hl.has hk (by rw [h2]) (sm_st1_lt hv) rfl (fun ls' h1 => k ls' (sm_st1 hfc hv h1).1 (sm_st1 hfc hv h1).2)
      · cases h
    · cases h
  all_goals cases h
end
end
section
theorem sm_ref {ad : Nat → Nat} {fm : Value} {q : Nat} (h : q ≠ 13) : sm_v ad fm (.ref q) = .ref (ad q) := by simp [sm_v, h]
theorem mm_pcj_at {RR : List (List mm_R)} {b : Nat} {n : Int} (h : mm_pcj RR b n = true) : ∃ r2, mm_rw RR b = some r2 ∧ (r2.2.1.1 : Int) = n := by
  unfold mm_pcj at h
  split at h
  · rename_i r2 h2
    exact ⟨r2, h2, by simpa using h⟩
  · cases h
theorem mm_pcis_at {RR : List (List mm_R)} {b n : Nat} {r2 : mm_R} (h : mm_pcis RR b (n : Int) = true) (h2 : mm_rw RR b = some r2) : r2.2.1.1 = n := by
  unfold mm_pcis at h
  rw [h2] at h
  have : (r2.2.1.1 : Int) = (n : Int) := by simpa using h
  omega
theorem mm_seq_at : ∀ (l : List Int) (lo : Int) (j : Nat), (mm_seq lo l)[j]? = (l[j]?).map (fun x => (lo + j, x))
  | [], lo, j => by simp [mm_seq]
  | x :: l, lo, 0 => by simp [mm_seq]
  | x :: l, lo, j + 1 => by
    rw [mm_seq, List.getElem?_cons_succ, List.getElem?_cons_succ, mm_seq_at l (lo + 1) j]
    congr 1
    funext y
    have : lo + 1 + (j : Int) = lo + ((j + 1 : Nat) : Int) := by omega
    rw [this]
/-- a switch's row: where a number that stands there goes on, and one that doesn't -/
theorem mm_sw_in {RR : List (List mm_R)} {pc : Int} {df : Nat} {x : Int32} : ∀ (ts : List (Int32 × Nat)) (q : List (Int × Int)), mm_swok RR pc ts q = true → (∃ (off : Int) (j : Nat) (r2 : mm_R), q[j]? = some (x.toInt, off) ∧ mm_rw RR (mm_sw ts df x) = some r2 ∧ (r2.2.1.1 : Int) = pc + off ∧ ∀ j2 off2, j2 < j → q[j2]? ≠ some (x.toInt, off2)) ∨ (mm_sw ts df x = df ∧ ∀ (j : Nat) (off : Int), q[j]? ≠ some (x.toInt, off))
  | [], [], _ => Or.inr ⟨rfl, fun j off h => by simp at h⟩
  | [], _ :: _, h => by cases h
  | _ :: _, [], h => by cases h
  | (v, t) :: ts, (k, off) :: q, h => by
    rw [mm_swok] at h
    simp only [Bool.and_eq_true, decide_eq_true_eq] at h
    obtain ⟨⟨h1, h2⟩, h3⟩ := h
    rw [mm_sw]
    by_cases hx : x = v
    · rw [if_pos hx]
      obtain ⟨r2, g1, g2⟩ := mm_pcj_at h2
      exact Or.inl ⟨off, 0, r2, by rw [List.getElem?_cons_zero, hx, h1], g1, g2, fun j2 _ hj => absurd hj (Nat.not_lt_zero _)⟩
    · rw [if_neg hx]
      have hne : ¬ k = x.toInt := fun z => hx (Int32.toInt_inj.mp (by rw [h1]; exact z.symm))
      rcases mm_sw_in ts q h3 with ⟨off', j, r2, g1, g2, g3, g4⟩ | ⟨g1, g2⟩
      · refine Or.inl ⟨off', j + 1, r2, by rw [List.getElem?_cons_succ]; exact g1, g2, g3, fun j2 o2 hj hz => ?_⟩
        cases j2 with
        | zero => rw [List.getElem?_cons_zero] at hz; cases hz; exact hne rfl
        | succ j2 => rw [List.getElem?_cons_succ] at hz; exact g4 j2 o2 (by omega) hz
      · refine Or.inr ⟨g1, fun j o hz => ?_⟩
        cases j with
        | zero => rw [List.getElem?_cons_zero] at hz; cases hz; exact hne rfl
        | succ j => rw [List.getElem?_cons_succ] at hz; exact g2 j o hz
theorem mm_lk_in {x df : Int} : ∀ (q : List (Int × Int)) (j : Nat) (off : Int), q[j]? = some (x, off) → (∀ j2 off2, j2 < j → q[j2]? ≠ some (x, off2)) → Op.lookupswitch.offset q df x = off
  | [], j, off, h, _ => by simp at h
  | (k, o) :: q, 0, off, h, _ => by
    rw [List.getElem?_cons_zero] at h
    cases h
    simp [Op.lookupswitch.offset]
  | (k, o) :: q, j + 1, off, h, h2 => by
    rw [List.getElem?_cons_succ] at h
    have hne : ¬ k = x := fun z => h2 0 o (Nat.succ_pos _) (by rw [List.getElem?_cons_zero, z])
    have := mm_lk_in (df := df) q j off h (fun j2 o2 hj hz => h2 (j2 + 1) o2 (by omega) (by rw [List.getElem?_cons_succ]; exact hz))
    simp only [Op.lookupswitch.offset] at this ⊢
    simpa [hne] using this
theorem mm_lk_out {x df : Int} : ∀ (q : List (Int × Int)), (∀ (j : Nat) (off : Int), q[j]? ≠ some (x, off)) → Op.lookupswitch.offset q df x = df
  | [], _ => by simp [Op.lookupswitch.offset]
  | (k, o) :: q, h => by
    have hne : ¬ k = x := fun z => h 0 o (by rw [List.getElem?_cons_zero, z])
    have := mm_lk_out q (df := df) (fun j off hz => h (j + 1) off (by rw [List.getElem?_cons_succ]; exact hz))
    simp only [Op.lookupswitch.offset] at this ⊢
    simpa [hne] using this
section
variable {p : Program} {l : Launch} {e : Env} {R : Room} {s : State} {m : MethodId} {args : Array Value} {below : List Frame} {meth : Method} {c : Code} {H : Heap} {locs : List Loc} {cells slots : Nat} {Q : State → Prop}
variable {bs : Nat} {cy : Nat → ClassId} {ad : Nat → Nat} {fm : Value} {Dg : va_G} {Ls : Nat} {xs : Nat → Int32} {Y : MethodName × ByteArray × Option FieldType} {RR : List (List mm_R)} {i i' hh ml d : Nat} {r r' : mm_R} {ls : Array Slot} {st st' : List Value}
set_option maxHeartbeats 4000000 in
set_option maxRecDepth 100000 in
theorem sm_jp (hE : sm_En p R s m args meth c Y ml d) (hfm : fm = .null ∨ ∃ t, fm = .ref t) (ok : mm_ok Y RR i hh r = true) (h : mm_jp r i st = some (i', st')) (hr' : mm_rw RR i' = some r') (k : W p l e R s m args below meth c H locs cells slots Q (F0 m r'.2.1.1 ls (st'.map (sm_v ad fm)))) : W p l e R s m args below meth c H locs cells slots Q (F0 m r.2.1.1 ls (st.map (sm_v ad fm))) := by
  obtain ⟨hx, hb, hr, hml, hown, hts, hlocks, hnm, hfr, hlo⟩ := hE
  obtain ⟨hd, hnx⟩ := mm_ok_d ok
  obtain ⟨ins, ⟨pc, len⟩, ⟨a, b, c0⟩, ⟨z, w⟩, ts⟩ := r
  unfold mm_ok at ok
  rw [Bool.and_eq_true] at ok
  replace ok := ok.2
  unfold mm_jp at h
  dsimp only at h ok hd hnx k ⊢
  cases ins
  case goto off =>
    dsimp only at h ok
    simp only [Bool.and_eq_true, decide_eq_true_eq] at ok
    obtain ⟨h1, rfl⟩ := ok
    obtain ⟨r2, g1, g2⟩ := mm_pcj_at h1
    cases h
    rw [g1] at hr'
    cases hr'
    exact lv_goto hx hb hd g2.symm k
  case ifCond cd off =>
    dsimp only at h ok
    simp only [Bool.and_eq_true, decide_eq_true_eq] at ok
    obtain ⟨h1, rfl⟩ := ok
    obtain ⟨r2, g1, g2⟩ := mm_pcj_at h1
    split at h
    · rename_i x s1
      have kt : mm_rw RR b = some r' → st' = s1 → W p l e R s m args below meth c H locs cells slots Q (F0 m r2.2.1.1 ls (s1.map (sm_v ad fm))) := by
        intro q1 q2
        rw [g1] at q1
        cases q1
        rw [← q2]
        exact k
      have kf : mm_rw RR (i + 1) = some r' → st' = s1 → W p l e R s m args below meth c H locs cells slots Q (F0 m (pc + 3) ls (s1.map (sm_v ad fm))) := by
        intro q1 q2
        rw [← mm_pcis_at hnx q1, ← q2]
        exact k
      cases cd
      · cases h; exact lv_if_eq hx hb hd g2.symm (fun hc => by rw [if_pos hc] at hr'; exact kt hr' rfl) (fun hc => by rw [if_neg hc] at hr'; exact kf hr' rfl)
      · cases h; exact lv_if_ne hx hb hd g2.symm (fun hc => by rw [if_neg hc] at hr'; exact kt hr' rfl) (fun hc => by rw [if_pos hc] at hr'; exact kf hr' rfl)
      · cases h; exact lv_if_lt hx hb hd g2.symm (fun hc => by rw [if_pos hc] at hr'; exact kt hr' rfl) (fun hc => by rw [if_neg hc] at hr'; exact kf hr' rfl)
      · cases h; exact lv_if_ge hx hb hd g2.symm (fun hc => by rw [if_pos hc] at hr'; exact kt hr' rfl) (fun hc => by rw [if_neg hc] at hr'; exact kf hr' rfl)
      · cases h; exact lv_if_gt hx hb hd g2.symm (fun hc => by rw [if_pos hc] at hr'; exact kt hr' rfl) (fun hc => by rw [if_neg hc] at hr'; exact kf hr' rfl)
      · cases h; exact lv_if_le hx hb hd g2.symm (fun hc => by rw [if_pos hc] at hr'; exact kt hr' rfl) (fun hc => by rw [if_neg hc] at hr'; exact kf hr' rfl)
    · cases h
  case if_icmp cd off =>
    dsimp only at h ok
    simp only [Bool.and_eq_true, decide_eq_true_eq] at ok
    obtain ⟨h1, rfl⟩ := ok
    obtain ⟨r2, g1, g2⟩ := mm_pcj_at h1
    split at h
    · rename_i y x s1
      have kt : mm_rw RR b = some r' → st' = s1 → W p l e R s m args below meth c H locs cells slots Q (F0 m r2.2.1.1 ls (s1.map (sm_v ad fm))) := by
        intro q1 q2
        rw [g1] at q1
        cases q1
        rw [← q2]
        exact k
      have kf : mm_rw RR (i + 1) = some r' → st' = s1 → W p l e R s m args below meth c H locs cells slots Q (F0 m (pc + 3) ls (s1.map (sm_v ad fm))) := by
        intro q1 q2
        rw [← mm_pcis_at hnx q1, ← q2]
        exact k
      cases cd
      · cases h; exact lv_icmp_eq hx hb hd g2.symm (fun hc => by rw [if_pos hc] at hr'; exact kt hr' rfl) (fun hc => by rw [if_neg hc] at hr'; exact kf hr' rfl)
      · cases h; exact lv_icmp_ne hx hb hd g2.symm (fun hc => by rw [if_neg hc] at hr'; exact kt hr' rfl) (fun hc => by rw [if_pos hc] at hr'; exact kf hr' rfl)
      · cases h; exact lv_icmp_lt hx hb hd g2.symm (fun hc => by rw [if_pos hc] at hr'; exact kt hr' rfl) (fun hc => by rw [if_neg hc] at hr'; exact kf hr' rfl)
      · cases h; exact lv_icmp_ge hx hb hd g2.symm (fun hc => by rw [if_pos hc] at hr'; exact kt hr' rfl) (fun hc => by rw [if_neg hc] at hr'; exact kf hr' rfl)
      · cases h; exact lv_icmp_gt hx hb hd g2.symm (fun hc => by rw [if_pos hc] at hr'; exact kt hr' rfl) (fun hc => by rw [if_neg hc] at hr'; exact kf hr' rfl)
      · cases h; exact lv_icmp_le hx hb hd g2.symm (fun hc => by rw [if_pos hc] at hr'; exact kt hr' rfl) (fun hc => by rw [if_neg hc] at hr'; exact kf hr' rfl)
    · cases h
  case ifnonnull off =>
    dsimp only at h ok
    simp only [Bool.and_eq_true, decide_eq_true_eq] at ok
    obtain ⟨h1, rfl⟩ := ok
    obtain ⟨r2, g1, g2⟩ := mm_pcj_at h1
    split at h
    · rename_i x s1
      split at h
      · rename_i h13
        cases h
        rw [g1] at hr'
        cases hr'
        rw [List.map_cons, sm_ref (by simpa using h13)]
        exact lv_ifnonnull hx hb hd g2.symm k
      · cases h
    · cases h
      rw [mm_pcis_at hnx hr'] at k
      exact lv_ifnonnullN hx hb hd k
    · cases h
  case tableswitch df lo hi offs =>
    dsimp only at h ok
    simp only [Bool.and_eq_true, decide_eq_true_eq] at ok
    obtain ⟨⟨⟨⟨h1, h2⟩, h3⟩, h4⟩, h5⟩ := ok
    obtain ⟨r2, g1, g2⟩ := mm_pcj_at h1
    split at h
    · rename_i x s1
      cases h
      rcases mm_sw_in (df := b) (x := x) ts _ h5 with ⟨off, j, r3, q1, q2, q3, -⟩ | ⟨q1, q2⟩
      · rw [q2] at hr'
        cases hr'
        rw [mm_seq_at] at q1
        cases hj : offs.toList[j]? with
        | none => rw [hj] at q1; cases q1
        | some o =>
          rw [hj] at q1
          have q4 := Option.some.inj q1
          have e1 : lo + (j : Int) = x.toInt := congrArg Prod.fst q4
          have e2 : o = off := congrArg Prod.snd q4
          have hjl : j < offs.size := by
            have := (List.getElem?_eq_some_iff.mp hj).1
            simpa using this
          refine lv_tableIn hx hb hd (by omega) (by omega) (off := off) ?_ q3.symm k
          rw [show (x.toInt - lo).toNat = j by omega, ← e2, ← hj, Array.getElem?_toList]
      · rw [q1, g1] at hr'
        cases hr'
        refine lv_tableOut hx hb hd ?_ g2.symm k
        by_cases hlt : x.toInt < lo
        · exact Or.inl hlt
        · refine Or.inr ?_
          rcases Int.lt_or_le hi x.toInt with h6 | h6
          · exact h6
          · exfalso
            have hjl : (x.toInt - lo).toNat < offs.toList.length := by rw [Array.length_toList]; omega
            refine q2 (x.toInt - lo).toNat (offs.toList[(x.toInt - lo).toNat]) ?_
            rw [mm_seq_at, List.getElem?_eq_getElem hjl]
            show some (lo + ((x.toInt - lo).toNat : Int), _) = _
            rw [show lo + ((x.toInt - lo).toNat : Int) = x.toInt by omega]
    · cases h
  case lookupswitch df ps =>
    dsimp only at h ok
    simp only [Bool.and_eq_true, decide_eq_true_eq] at ok
    obtain ⟨⟨h1, h2⟩, h5⟩ := ok
    obtain ⟨r2, g1, g2⟩ := mm_pcj_at h1
    split at h
    · rename_i x s1
      cases h
      rcases mm_sw_in (df := b) (x := x) ts _ h5 with ⟨off, j, r3, q1, q2, q3, q4⟩ | ⟨q1, q2⟩
      · rw [q2] at hr'
        cases hr'
        exact lv_lookup hx hb hd h2 (mm_lk_in _ j off q1 q4) q3.symm k
      · rw [q1, g1] at hr'
        cases hr'
        exact lv_lookup hx hb hd h2 (mm_lk_out _ q2) g2.symm k
    · cases h
  all_goals cases h
end
end
section
def sm_sz (Λ : List mm_D) : Nat := (Λ.map (fun D => if D.1 = 0 then mm_N.getD D.2.1 0 else D.2.1)).sum
theorem sm_sz_push (Λ : List mm_D) (D : mm_D) : sm_sz (Λ ++ [D]) = sm_sz Λ + (if D.1 = 0 then mm_N.getD D.2.1 0 else D.2.1) := by
  simp [sm_sz]
theorem sm_sz_set : ∀ (Λ : List mm_D) (q : Nat) (D D' : mm_D), Λ[q]? = some D → D.1 = D'.1 → D.2.1 = D'.2.1 → sm_sz (Λ.set q D') = sm_sz Λ
  | [], q, D, D', h, _, _ => by simp at h
  | E :: Λ, 0, D, D', h, h1, h2 => by
    rw [List.getElem?_cons_zero] at h
    cases h
    simp [sm_sz, h1, h2]
  | E :: Λ, q + 1, D, D', h, h1, h2 => by
    rw [List.getElem?_cons_succ] at h
    have := sm_sz_set Λ q D D' h h1 h2
    simp only [sm_sz, List.set_cons_succ, List.map_cons, List.sum_cons] at this ⊢
    rw [this]
theorem sm_set_same {Λ : List mm_D} {q : Nat} {D : mm_D} (h : Λ[q]? = some D) : Λ.set q D = Λ := by
  apply List.ext_getElem?
  intro j
  by_cases hj : q = j
  · subst hj
    rw [List.getElem?_set_self (List.getElem?_eq_some_iff.mp h).1, h]
  · rw [List.getElem?_set_ne hj]
theorem sm_fs_at {ad : Nat → Nat} {fm : Value} {μ : mm_M} {q n b : Nat} {rs : List (Option Nat)} (hb : b < mm_N.getD n 0) : (sm_fs ad fm μ q n rs)[b]? = some (match mm_fc n b with
  | 0 => .int (μ.1 q b)
  | 1 => sm_v ad fm (va_rf (μ.2.2 q b))
  | _ => sm_v ad fm (va_rf (rs.getD b none))) := by
  unfold sm_fs
  rw [List.getElem?_map, List.getElem?_range hb]
  rfl
theorem sm_fs_len {ad : Nat → Nat} {fm : Value} {μ : mm_M} {q n : Nat} {rs : List (Option Nat)} : (sm_fs ad fm μ q n rs).length = mm_N.getD n 0 := by simp [sm_fs]
theorem sm_fs_set {ad : Nat → Nat} {fm : Value} {μ μ' : mm_M} {q n b : Nat} {rs rs' : List (Option Nat)} {v : Value} (hb : b < mm_N.getD n 0) (h1 : (sm_fs ad fm μ' q n rs')[b]? = some v) (h2 : ∀ j, j ≠ b → μ'.1 q j = μ.1 q j ∧ μ'.2.2 q j = μ.2.2 q j ∧ rs'.getD j none = rs.getD j none) : (sm_fs ad fm μ q n rs).set b v = sm_fs ad fm μ' q n rs' := by
  apply List.ext_getElem?
  intro j
  by_cases hj : b = j
  · subst hj
    rw [List.getElem?_set_self (by rw [sm_fs_len]; exact hb), h1]
  · rw [List.getElem?_set_ne hj]
    by_cases hl : j < mm_N.getD n 0
    · rw [sm_fs_at hl, sm_fs_at hl]
      obtain ⟨a1, a2, a3⟩ := h2 j (Ne.symm hj)
      rw [a1, a2, a3]
    · rw [List.getElem?_eq_none (by rw [sm_fs_len]; omega), List.getElem?_eq_none (by rw [sm_fs_len]; omega)]
theorem sm_wdc {ad : Nat → Nat} {fm : Value} (hfc : fm.category = 1) : ∀ st : List Value, ((st.map (sm_v ad fm)).map (fun v => v.category)).sum = mm_wd st
  | [] => rfl
  | v :: st => by
    have := sm_wdc (ad := ad) hfc st
    simp only [List.map_cons, List.sum_cons]
    rw [this, sm_v_cat hfc]
    cases v <;> simp only [Value.category, mm_wd] <;> omega
theorem sm_O_ne {L : Nat} {xs : Nat → Int32} {q : Nat} {D : mm_D} (h : (sm_O L xs)[q]? = some D) (hD : D.1 ≠ 11) : q ≠ 13 := by
  intro e
  subst e
  cases h
  exact hD rfl
theorem sm_wf.rd {L : Nat} {xs : Nat → Int32} {Λ : List mm_D} (h : sm_wf L xs Λ) {q : Nat} {D : mm_D} (hq : Λ[q]? = some D) (h7 : 7 ≤ D.1) : (sm_O L xs)[q]? = some D := by
  rcases Nat.lt_or_ge q 14 with h1 | h1
  · exact h.old hq h1
  · have := (h.2 q D h1 hq).1
    omega
/-- the size of the heap is known: a bound stands in the machine, the cells lie below -/
theorem sm_sized {p : Program} {l : Launch} {e : Env} {R : Room} {s : State} {m : MethodId} {args : Array Value} {below : List Frame} {meth : Method} {c : Code} {H : Heap} {locs : List Loc} {cells slots : Nat} {Q : State → Prop} {g : JFrame} (k : H.size ≤ s.heap.size + cells → W p l e R s m args below meth c H locs cells slots Q g) : W p l e R s m args below meth c H locs cells slots Q g :=
  fun T hT X => k (by rw [← hT]; exact X.heapSize) T hT X
section
variable {p : Program} {l : Launch} {e : Env} {R : Room} {s : State} {m : MethodId} {args : Array Value} {below : List Frame} {meth : Method} {c : Code} {H : Heap} {locs : List Loc} {cells slots : Nat} {Q : State → Prop}
variable {bs : Nat} {cy : Nat → ClassId} {ad : Nat → Nat} {fm : Value} {Dg : va_G} {Ls : Nat} {xs : Nat → Int32} {Y : MethodName × ByteArray × Option FieldType} {pc a b c0 n hh ml d q : Nat} {ls : Array Slot} {st : List Value} {w w' : mm_W} {v : Value} {j x : Int32}
set_option maxHeartbeats 4000000 in
theorem sm_gf (hE : sm_En p R s m args meth c Y ml d) (hSt : sm_St bs cy ad fm Dg Ls xs s) (hwf : sm_wf Ls xs w.1) (had : ∀ j, 14 ≤ j → ad j = bs + (j - 14)) (hP : va_P Dg vwCl (sm_w bs cy ad fm w) H) (hS : va_S (sm_A bs) s.heap H locs) (hd : decode Y.2.1 pc = .ok (.getfield n, 3))
    (ok : (match c0 with
      | 3 => mm_has hh (.fieldLink Y.1.cls n "java/lang/String" "value" "[B")
      | 4 => mm_has hh (.fieldLink Y.1.cls n "java/lang/String" "coder" "B")
      | c => Nat.blt a 10 && Nat.blt b (mm_N.getD a 0) && decide (mm_fc a b = c) && mm_has hh (.fieldLink Y.1.cls n (((mm_T1 a).2.1 b).1) (((mm_T1 a).2.1 b).2.1) (((mm_T1 a).2.1 b).2.2.1))) = true)
    (h : mm_gf w q a b c0 = some v) (k : W p l e R s m args below meth c H locs cells slots Q (F0 m (pc + 3) ls (sm_v ad fm v :: st))) : W p l e R s m args below meth c H locs cells slots Q (F0 m pc ls (sm_v ad fm (.ref q) :: st)) := by
  obtain ⟨hx, hb, hr, hml, hown, hts, hlocks, hnm, hfr, hlo⟩ := hE
  unfold mm_gf at h
  cases hq : w.1[q]? with
  | none => rw [hq] at h; cases h
  | some D =>
    obtain ⟨t, n0, f, rs⟩ := D
    rw [hq] at h
    dsimp only at h
    have own : ∀ cc : Nat, (t == 0 && n0 == a) = true → cc ≠ 3 → cc ≠ 4 → c0 = cc → (match mm_fc a b with
        | 0 => Value.int (w.2.1 q b)
        | 1 => sm_v ad fm (va_rf (w.2.2.2 q b))
        | _ => sm_v ad fm (va_rf (rs.getD b none))) = sm_v ad fm v → W p l e R s m args below meth c H locs cells slots Q (F0 m pc ls (sm_v ad fm (.ref q) :: st)) := by
      intro cc h0 h3 h4 hc hv
      simp only [Bool.and_eq_true, beq_iff_eq] at h0
      obtain ⟨rfl, rfl⟩ := h0
      have h14 : 14 ≤ q := hwf.new hq (by show 0 ≤ 6; decide)
      rw [sm_ref (by omega), had q h14]
      have ok2 : (Nat.blt n0 10 && Nat.blt b (mm_N.getD n0 0) && decide (mm_fc n0 b = c0) && mm_has hh (.fieldLink Y.1.cls n (((mm_T1 n0).2.1 b).1) (((mm_T1 n0).2.1 b).2.1) (((mm_T1 n0).2.1 b).2.2.1))) = true := by
        subst hc
        split at ok
        · exact absurd rfl h3
        · exact absurd rfl h4
        · exact ok
      simp only [Bool.and_eq_true, decide_eq_true_eq] at ok2
      obtain ⟨⟨⟨o1, o2⟩, o3⟩, o4⟩ := ok2
      have o1 : n0 < 10 := mm_blt o1
      have o2 : b < mm_N.getD n0 0 := mm_blt o2
      obtain ⟨C, T, N, c1, c2, c3, c4, c5, c6, c7, c8⟩ := sm_cls n0 o1
      have hm := mm_has_mem o4
      rw [c2] at hm
      have he := sm_get (bs := bs) (cy := cy) (ad := ad) (fm := fm) hq h14
      refine va_get hx hb hts c4 hown hSt.1 hP (q - 14) he c1 b (by rw [← c3]; exact o2) (hts _ hm) (fun _ z => z) (v := sm_v ad fm v) ?_ hd k
      rw [← hv]
      exact sm_fs_at o2
    split at h
    · rename_i h0
      cases h
      refine own 0 h0 (by decide) (by decide) rfl ?_
      have e0 : mm_fc a b = 0 := by
        try dsimp only at ok
        simp only [Bool.and_eq_true, decide_eq_true_eq] at ok
        exact ok.1.2
      rw [e0]
      rfl
    · rename_i h0
      cases h
      refine own 1 h0 (by decide) (by decide) rfl ?_
      have e0 : mm_fc a b = 1 := by
        try dsimp only at ok
        simp only [Bool.and_eq_true, decide_eq_true_eq] at ok
        exact ok.1.2
      rw [e0]
      rfl
    · rename_i h0
      cases h
      refine own 2 h0 (by decide) (by decide) rfl ?_
      have e0 : mm_fc a b = 2 := by
        try dsimp only at ok
        simp only [Bool.and_eq_true, decide_eq_true_eq] at ok
        exact ok.1.2
      rw [e0]
      rfl
    · rename_i h9
      cases h
      simp only [beq_iff_eq] at h9
      subst h9
      have hO := hwf.rd hq (by show 7 ≤ 9; decide)
      obtain ⟨a1, a2, a3⟩ := hSt.2.2.2.2.2.2.2.2.1 q _ hO rfl
      rw [sm_ref (sm_O_ne hO (by show (9 : Nat) ≠ 11; decide))]
      have hn : n0 ≠ 13 := by
        intro z
        subst z
        have hl := (List.getElem?_eq_some_iff.mp hO).1
        match q, hl, hO with
        | 0, _, hO | 1, _, hO | 2, _, hO | 3, _, hO | 4, _, hO | 5, _, hO | 6, _, hO | 7, _, hO | 8, _, hO | 9, _, hO | 10, _, hO | 11, _, hO | 12, _, hO | 13, _, hO => simp [sm_O] at hO
      rw [sm_ref hn] at k
      exact vk_getf hx hb a3 hS hown (hts _ (mm_has_mem ok)) (fun _ z => z) hd k
    · rename_i h9
      cases h
      simp only [beq_iff_eq] at h9
      subst h9
      have hO := hwf.rd hq (by show 7 ≤ 9; decide)
      obtain ⟨a1, a2, a3⟩ := hSt.2.2.2.2.2.2.2.2.1 q _ hO rfl
      rw [sm_ref (sm_O_ne hO (by show (9 : Nat) ≠ 11; decide))]
      exact vk_getf hx hb a2 hS hown (hts _ (mm_has_mem ok)) (fun _ z => z) hd k
    · cases h
end
end
section
theorem sm_wa1 : Cond.arrayClass .int ∈ mm_good := mm_has_mem (h := 1086) (by decide +kernel)
theorem sm_wa2 : Cond.arrayClass .byte ∈ mm_good := mm_has_mem (h := 1157) (by decide +kernel)
theorem sm_wa3 : Cond.arrayClass .boolean ∈ mm_good := mm_has_mem (h := 4234) (by decide +kernel)
theorem sm_wa4 : Cond.arrayClass .long ∈ mm_good := mm_has_mem (h := 2001) (by decide +kernel)
theorem sm_wo1 : Cond.instanceMethod Lib.objectInit ∈ mm_good := mm_has_mem (h := 1026) (by decide +kernel)
theorem sm_wo2 : Cond.code Lib.objectInit ⟨#[0xb1]⟩ 1 none ∈ mm_good := mm_has_mem (h := 1027) (by decide +kernel)
theorem sm_wmx1 : Cond.static Lib.Math.max.name ∈ mm_good := mm_has_mem (h := 2105) (by decide +kernel)
theorem sm_wmx2 : Cond.code Lib.Math.max.name Lib.Math.max.code 2 (some .int) ∈ mm_good := mm_has_mem (h := 2106) (by decide +kernel)
theorem sm_wmn1 : Cond.static Lib.Math.min.name ∈ mm_good := mm_has_mem (h := 2079) (by decide +kernel)
theorem sm_wmn2 : Cond.code Lib.Math.min.name Lib.Math.min.code 2 (some .int) ∈ mm_good := mm_has_mem (h := 2080) (by decide +kernel)
theorem sm_wma1 : Cond.static Lib.MathLoose.abs_long.x ∈ mm_good := mm_has_mem (h := 5214) (by decide +kernel)
theorem sm_wma2 : Cond.code Lib.MathLoose.abs_long.x Lib.MathLoose.abs_long.code 2 (some .long) ∈ mm_good := mm_has_mem (h := 5215) (by decide +kernel)
theorem sm_wm : Cond.initialized "java/lang/Math" ∈ mm_good := mm_has_mem (h := 1012) (by decide +kernel)
theorem sm_wy : Cond.initialized "java/lang/System" ∈ mm_good := mm_has_mem (h := 1013) (by decide +kernel)
theorem sm_wc1 : Cond.native arraycopyName ∈ mm_good := mm_has_mem (h := 2117) (by decide +kernel)
theorem sm_wc2 : Cond.static arraycopyName ∈ mm_good := mm_has_mem (h := 2116) (by decide +kernel)
theorem sm_sI_q {μ : mm_M} {q : Nat} {f : Nat → Int32} : (mm_sI μ q f).1 q = f := by simp [mm_sI]
theorem sm_sJ_q {μ : mm_M} {q : Nat} {f : Nat → Int64} : (mm_sJ μ q f).2.1 q = f := by simp [mm_sJ]
theorem sm_sR_q {μ : mm_M} {q : Nat} {f : Nat → Option Nat} : (mm_sR μ q f).2.2 q = f := by simp [mm_sR]
theorem sm_sI_o {μ : mm_M} {q : Nat} {f : Nat → Int32} : ∀ c, c ≠ q → (mm_sI μ q f).1 c = μ.1 c ∧ (mm_sI μ q f).2.1 c = μ.2.1 c ∧ (mm_sI μ q f).2.2 c = μ.2.2 c := fun c h => ⟨by simp [mm_sI, h], rfl, rfl⟩
theorem sm_sJ_o {μ : mm_M} {q : Nat} {f : Nat → Int64} : ∀ c, c ≠ q → (mm_sJ μ q f).1 c = μ.1 c ∧ (mm_sJ μ q f).2.1 c = μ.2.1 c ∧ (mm_sJ μ q f).2.2 c = μ.2.2 c := fun c h => ⟨rfl, by simp [mm_sJ, h], rfl⟩
theorem sm_sR_o {μ : mm_M} {q : Nat} {f : Nat → Option Nat} : ∀ c, c ≠ q → (mm_sR μ q f).1 c = μ.1 c ∧ (mm_sR μ q f).2.1 c = μ.2.1 c ∧ (mm_sR μ q f).2.2 c = μ.2.2 c := fun c h => ⟨rfl, rfl, by simp [mm_sR, h]⟩
theorem sm_mem {bs : Nat} {cy : Nat → ClassId} {ad : Nat → Nat} {fm : Value} {Λ : List mm_D} {μ μ' : mm_M} {q : Nat} {D : mm_D} (hq : Λ[q]? = some D) (h14 : 14 ≤ q) (hμ : ∀ c, c ≠ q → μ'.1 c = μ.1 c ∧ μ'.2.1 c = μ.2.1 c ∧ μ'.2.2 c = μ.2.2 c) : (sm_w bs cy ad fm (Λ, μ)).set (q - 14) (bs + (q - 14), sm_e cy ad fm μ' q D) = sm_w bs cy ad fm (Λ, μ') := by
  rw [sm_set hq h14 hμ, sm_set_same hq]
section
variable {p : Program} {l : Launch} {e : Env} {R : Room} {s : State} {m : MethodId} {args : Array Value} {below : List Frame} {meth : Method} {c : Code} {H : Heap} {locs : List Loc} {cells slots : Nat} {Q : State → Prop}
variable {bs : Nat} {cy : Nat → ClassId} {ad : Nat → Nat} {fm : Value} {Dg : va_G} {Ls : Nat} {xs : Nat → Int32} {Y : MethodName × ByteArray × Option FieldType} {pc a b c0 n hh ml d q : Nat} {ls : Array Slot} {st : List Value} {w w' : mm_W} {v : Value} {j x : Int32}
theorem sm_fits {C : String} (hfm : fm = .null ∨ ∃ t, fm = .ref t) (x : Nat) : narrow (.object C) (sm_v ad fm (.ref x)) = sm_v ad fm (.ref x) ∧ fits (.object C) (sm_v ad fm (.ref x)) = true := by
  rcases sm_vr (ad := ad) hfm x with e | ⟨t, e⟩ <;> rw [e] <;> exact ⟨rfl, rfl⟩
set_option maxHeartbeats 4000000 in
theorem sm_pf (hE : sm_En p R s m args meth c Y ml d) (hSt : sm_St bs cy ad fm Dg Ls xs s) (hwf : sm_wf Ls xs w.1) (had : ∀ j, 14 ≤ j → ad j = bs + (j - 14)) (hP : va_P Dg vwCl (sm_w bs cy ad fm w) H) (hS : va_S (sm_A bs) s.heap H locs) (hd : decode Y.2.1 pc = .ok (.putfield n, 3))
    (o1 : Nat.blt a 10 = true) (o2 : Nat.blt b (mm_N.getD a 0) = true) (o4 : mm_has hh (.fieldLink Y.1.cls n (((mm_T1 a).2.1 b).1) (((mm_T1 a).2.1 b).2.1) (((mm_T1 a).2.1 b).2.2.1)) = true)
    (ok : (match c0 with
    | 0 => decide (mm_fc a b = 0) && !((mm_T1 a).2.1 b).2.2.2 && decide (parseFieldDescriptor ((mm_T1 a).2.1 b).2.2.1 = some .int)
    | 5 => decide (mm_fc a b = 0) && !((mm_T1 a).2.1 b).2.2.2 && decide (parseFieldDescriptor ((mm_T1 a).2.1 b).2.2.1 = some .boolean)
    | 1 => decide (mm_fc a b = 1) && !((mm_T1 a).2.1 b).2.2.2 && decide (parseFieldDescriptor ((mm_T1 a).2.1 b).2.2.1 = some (.object "GlobeCorner$School"))
    | 2 => decide (mm_fc a b = 2) && ((mm_T1 a).2.1 b).2.2.2 && decide (((mm_T1 a).2.1 b).1 = Y.1.cls) && decide (Y.1.name = "<init>") && (match parseFieldDescriptor ((mm_T1 a).2.1 b).2.2.1 with
      | some (.object _) => true
      | some (.array _) => true
      | _ => false)
    | _ => false) = true)
    (h : mm_pf w q a b c0 v = some w') (k : ∀ (H1 : Heap) (locs1 : List Loc), sm_wf Ls xs w'.1 → w'.1.length = w.1.length → sm_sz w'.1 = sm_sz w.1 → va_P Dg vwCl (sm_w bs cy ad fm w') H1 → va_S (sm_A bs) s.heap H1 locs1 → W p l e R s m args below meth c H1 locs1 cells slots Q (F0 m (pc + 3) ls st)) : W p l e R s m args below meth c H locs cells slots Q (F0 m pc ls (sm_v ad fm v :: sm_v ad fm (.ref q) :: st)) := by
  obtain ⟨hx, hb, hr, hml, hown, hts, hlocks, hnm, hfr, hlo⟩ := hE
  obtain ⟨Λ, μ⟩ := w
  have hfm := hSt.2.2.2.2.2.2.2.2.2
  unfold mm_pf at h
  dsimp only at h k hwf hP
  cases hq : Λ[q]? with
  | none => rw [hq] at h; cases h
  | some D =>
    obtain ⟨t, n0, f, rs⟩ := D
    rw [hq] at h
    dsimp only at h
    have ht : (t == 0 && n0 == a) = true := by
      cases hz : (t == 0 && n0 == a) with
      | true => rfl
      | false => rw [hz] at h; cases h
    rw [ht] at h
    simp only [Bool.and_eq_true, beq_iff_eq] at ht
    obtain ⟨rfl, rfl⟩ := ht
    have h14 : 14 ≤ q := hwf.new hq (by show 0 ≤ 6; decide)
    rw [sm_ref (q := q) (by omega), had q h14]
    have o1 : n0 < 10 := mm_blt o1
    have o2 : b < mm_N.getD n0 0 := mm_blt o2
    obtain ⟨C, T, N, c1, c2, c3, c4, ⟨ty, c5, -⟩, c6, c7, c8⟩ := sm_cls n0 o1
    have hm := mm_has_mem o4
    rw [c2] at hm ok
    dsimp only at hm ok
    have he := sm_get (bs := bs) (cy := cy) (ad := ad) (fm := fm) (w := (Λ, μ)) hq h14
    have hbN : b < N := by rw [← c3]; exact o2
    split at h
    · rename_i x he0
      cases h
      try dsimp only at ok
      simp only [Bool.and_eq_true, decide_eq_true_eq, Bool.not_eq_true'] at ok
      obtain ⟨⟨k1, k2⟩, k3⟩ := ok
      refine va_put hx hb hts c4 ty c5 c6 hown hSt.1 hP sm_D hS (q - 14) he c1 b hbN (hts _ hm) (fun _ z => z) k2 k3 (v := .int x) rfl rfl (by rw [sm_fs_len]; exact o2) hd (fun H1 locs1 hP1 hD1 hS1 => k H1 locs1 hwf rfl rfl ?_ hS1)
      dsimp only at hP1
      rw [sm_fs_set (ad := ad) (fm := fm) (μ := μ) (q := q) (n := n0) (rs := rs) (μ' := mm_sI μ q (upd (μ.1 q) b x)) (rs' := rs) o2 (by rw [sm_fs_at o2, k1, sm_sI_q]; simp [upd]) (fun j hj => ⟨by rw [sm_sI_q]; simp [upd, hj], rfl, rfl⟩)] at hP1
      have e1 := sm_mem (bs := bs) (cy := cy) (ad := ad) (fm := fm) (μ := μ) (μ' := mm_sI μ q (upd (μ.1 q) b x)) hq h14 sm_sI_o
      rw [← e1]
      exact hP1
    · rename_i x he0
      split at h
      · rename_i hx01
        cases h
        try dsimp only at ok
        simp only [Bool.and_eq_true, decide_eq_true_eq, Bool.not_eq_true'] at ok
        obtain ⟨⟨k1, k2⟩, k3⟩ := ok
        refine va_put hx hb hts c4 ty c5 c6 hown hSt.1 hP sm_D hS (q - 14) he c1 b hbN (hts _ hm) (fun _ z => z) k2 k3 (v := .int x) (by rcases hx01 with rfl | rfl <;> rfl) (by rcases hx01 with rfl | rfl <;> rfl) (by rw [sm_fs_len]; exact o2) hd (fun H1 locs1 hP1 hD1 hS1 => k H1 locs1 hwf rfl rfl ?_ hS1)
        dsimp only at hP1
        rw [sm_fs_set (ad := ad) (fm := fm) (μ := μ) (q := q) (n := n0) (rs := rs) (μ' := mm_sI μ q (upd (μ.1 q) b x)) (rs' := rs) o2 (by rw [sm_fs_at o2, k1, sm_sI_q]; simp [upd]) (fun j hj => ⟨by rw [sm_sI_q]; simp [upd, hj], rfl, rfl⟩)] at hP1
        have e1 := sm_mem (bs := bs) (cy := cy) (ad := ad) (fm := fm) (μ := μ) (μ' := mm_sI μ q (upd (μ.1 q) b x)) hq h14 sm_sI_o
        rw [← e1]
        exact hP1
      · cases h
    · rename_i x he0
      cases h
      try dsimp only at ok
      simp only [Bool.and_eq_true, decide_eq_true_eq, Bool.not_eq_true'] at ok
      obtain ⟨⟨k1, k2⟩, k3⟩ := ok
      refine va_put hx hb hts c4 ty c5 c6 hown hSt.1 hP sm_D hS (q - 14) he c1 b hbN (hts _ hm) (fun _ z => z) k2 k3 (v := sm_v ad fm (.ref x)) (sm_fits hfm x).1 (sm_fits hfm x).2 (by rw [sm_fs_len]; exact o2) hd (fun H1 locs1 hP1 hD1 hS1 => k H1 locs1 hwf rfl rfl ?_ hS1)
      dsimp only at hP1
      rw [sm_fs_set (ad := ad) (fm := fm) (μ := μ) (q := q) (n := n0) (rs := rs) (μ' := mm_sR μ q (va_up (μ.2.2 q) b (some x))) (rs' := rs) o2 (by rw [sm_fs_at o2, k1, sm_sR_q]; simp [va_up, va_rf]) (fun j hj => ⟨rfl, by rw [sm_sR_q]; simp [va_up, hj], rfl⟩)] at hP1
      have e1 := sm_mem (bs := bs) (cy := cy) (ad := ad) (fm := fm) (μ := μ) (μ' := mm_sR μ q (va_up (μ.2.2 q) b (some x))) hq h14 sm_sR_o
      rw [← e1]
      exact hP1
    · cases h
      try dsimp only at ok
      simp only [Bool.and_eq_true, decide_eq_true_eq, Bool.not_eq_true'] at ok
      obtain ⟨⟨k1, k2⟩, k3⟩ := ok
      refine va_put hx hb hts c4 ty c5 c6 hown hSt.1 hP sm_D hS (q - 14) he c1 b hbN (hts _ hm) (fun _ z => z) k2 k3 (v := .null) rfl rfl (by rw [sm_fs_len]; exact o2) hd (fun H1 locs1 hP1 hD1 hS1 => k H1 locs1 hwf rfl rfl ?_ hS1)
      dsimp only at hP1
      rw [sm_fs_set (ad := ad) (fm := fm) (μ := μ) (q := q) (n := n0) (rs := rs) (μ' := mm_sR μ q (va_up (μ.2.2 q) b none)) (rs' := rs) o2 (by rw [sm_fs_at o2, k1, sm_sR_q]; simp [va_up, va_rf, sm_v]) (fun j hj => ⟨rfl, by rw [sm_sR_q]; simp [va_up, hj], rfl⟩)] at hP1
      have e1 := sm_mem (bs := bs) (cy := cy) (ad := ad) (fm := fm) (μ := μ) (μ' := mm_sR μ q (va_up (μ.2.2 q) b none)) hq h14 sm_sR_o
      rw [← e1]
      exact hP1
    · rename_i x he0
      split at h
      · rename_i hbl
        cases h
        have hbl : b < rs.length := mm_blt hbl
        try dsimp only at ok
        simp only [Bool.and_eq_true, decide_eq_true_eq] at ok
        obtain ⟨⟨⟨⟨k1, k2⟩, k3⟩, k4⟩, k5⟩ := ok
        have hty : ∃ ty0, parseFieldDescriptor (T b).2.2.1 = some ty0 ∧ narrow ty0 (sm_v ad fm (.ref x)) = sm_v ad fm (.ref x) ∧ fits ty0 (sm_v ad fm (.ref x)) = true := by
          split at k5
          · rename_i C1 hp; exact ⟨_, hp, sm_fits hfm x⟩
          · rename_i C1 hp
            refine ⟨_, hp, ?_⟩
            rcases sm_vr (ad := ad) hfm x with e | ⟨t, e⟩ <;> rw [e] <;> exact ⟨rfl, rfl⟩
          · cases k5
        obtain ⟨ty0, t1, t2, t3⟩ := hty
        refine va_putF hx hb hts c4 ty c5 c6 hown hSt.1 hP sm_D hS (q - 14) he c1 b hbN (hts _ hm) (fun _ z => z) k2 (hnm k4) k3 t1 t2 t3 (by rw [sm_fs_len]; exact o2) hd (fun H1 locs1 hP1 hD1 hS1 => k H1 locs1 (hwf.set h14 ⟨by show 0 ≤ 6; decide, fun z => by rcases z with z | z <;> cases z⟩) (by rw [List.length_set]) (sm_sz_set _ _ _ _ hq rfl rfl) ?_ hS1)
        dsimp only at hP1
        rw [sm_fs_set (ad := ad) (fm := fm) (μ := μ) (q := q) (n := n0) (rs := rs) (μ' := μ) (rs' := rs.set b (some x)) o2 (by rw [sm_fs_at o2, k1]; simp [List.getD_eq_getElem?_getD, hbl, va_rf]) (fun j hj => ⟨rfl, rfl, by simp [List.getD_eq_getElem?_getD, List.getElem?_set_ne (Ne.symm hj)]⟩)] at hP1
        have e1 := sm_set (bs := bs) (cy := cy) (ad := ad) (fm := fm) (μ := μ) (μ' := μ) (D' := (0, n0, f, rs.set b (some x))) hq h14 (fun c _ => ⟨rfl, rfl, rfl⟩)
        rw [← e1]
        exact hP1
      · cases h
    · cases h
end
end
section
section
variable {p : Program} {l : Launch} {e : Env} {R : Room} {s : State} {m : MethodId} {args : Array Value} {below : List Frame} {meth : Method} {c : Code} {H : Heap} {locs : List Loc} {cells slots : Nat} {Q : State → Prop}
variable {bs : Nat} {cy : Nat → ClassId} {ad : Nat → Nat} {fm : Value} {Dg : va_G} {Ls : Nat} {xs : Nat → Int32} {Y : MethodName × ByteArray × Option FieldType} {pc ml d q : Nat} {ls : Array Slot} {st : List Value} {w w' : mm_W} {v : Value} {j x : Int32} {z : Int64}
set_option maxHeartbeats 4000000 in
theorem sm_ial (hE : sm_En p R s m args meth c Y ml d) (hSt : sm_St bs cy ad fm Dg Ls xs s) (hwf : sm_wf Ls xs w.1) (had : ∀ j, 14 ≤ j → ad j = bs + (j - 14)) (hP : va_P Dg vwCl (sm_w bs cy ad fm w) H) (hS : va_S (sm_A bs) s.heap H locs) (hd : decode Y.2.1 pc = .ok (.iaload, 1))
    (h : mm_ial w q j = some x) (k : W p l e R s m args below meth c H locs cells slots Q (F0 m (pc + 1) ls (.int x :: st))) : W p l e R s m args below meth c H locs cells slots Q (F0 m pc ls (.int j :: sm_v ad fm (.ref q) :: st)) := by
  obtain ⟨hx, hb, hr, hml, hown, hts, hlocks, hnm, hfr, hlo⟩ := hE
  unfold mm_ial at h
  cases hq : w.1[q]? with
  | none => rw [hq] at h; cases h
  | some D =>
    obtain ⟨t, n, f, rs⟩ := D
    rw [hq] at h
    dsimp only at h
    by_cases hin : j < 0 ∨ n ≤ j.toNatClampNeg
    · rw [if_pos hin] at h; cases h
    · rw [if_neg hin] at h
      split at h
      · rename_i h0
        cases h
        simp only [beq_iff_eq] at h0
        subst h0
        have h14 : 14 ≤ q := hwf.new hq (by show 1 ≤ 6; decide)
        rw [sm_ref (by omega), had q h14]
        exact va_iald hx hb hSt.1 hP (q - 14) 0 (sm_get hq h14) rfl hin hd k
      · rename_i h0 hno
        cases h
        simp only [beq_iff_eq] at h0
        subst h0
        have hO := hwf.rd hq (by show 7 ≤ 7; decide)
        rw [sm_ref (sm_O_ne hO (by show (7 : Nat) ≠ 11; decide))]
        exact va_ti hx hb (hSt.2.2.2.2.2.2.1 q _ hO rfl) hS hin rfl hd k
      · cases h
set_option maxHeartbeats 4000000 in
theorem sm_bal (hE : sm_En p R s m args meth c Y ml d) (hSt : sm_St bs cy ad fm Dg Ls xs s) (hwf : sm_wf Ls xs w.1) (had : ∀ j, 14 ≤ j → ad j = bs + (j - 14)) (hP : va_P Dg vwCl (sm_w bs cy ad fm w) H) (hS : va_S (sm_A bs) s.heap H locs) (hd : decode Y.2.1 pc = .ok (.baload, 1))
    (h : mm_bal w q j = some x) (k : W p l e R s m args below meth c H locs cells slots Q (F0 m (pc + 1) ls (.int x :: st))) : W p l e R s m args below meth c H locs cells slots Q (F0 m pc ls (.int j :: sm_v ad fm (.ref q) :: st)) := by
  obtain ⟨hx, hb, hr, hml, hown, hts, hlocks, hnm, hfr, hlo⟩ := hE
  unfold mm_bal at h
  cases hq : w.1[q]? with
  | none => rw [hq] at h; cases h
  | some D =>
    obtain ⟨t, n, f, rs⟩ := D
    rw [hq] at h
    dsimp only at h
    by_cases hin : j < 0 ∨ n ≤ j.toNatClampNeg
    · rw [if_pos hin] at h; cases h
    · rw [if_neg hin] at h
      split at h
      · rename_i h0
        cases h
        simp only [Bool.or_eq_true, beq_iff_eq] at h0
        rcases h0 with rfl | rfl
        · have h14 : 14 ≤ q := hwf.new hq (by show 2 ≤ 6; decide)
          rw [sm_ref (by omega), had q h14]
          exact va_bald hx hb hSt.1 hP (q - 14) 1 (sm_get hq h14) rfl hin hd k
        · have h14 : 14 ≤ q := hwf.new hq (by show 3 ≤ 6; decide)
          rw [sm_ref (by omega), had q h14]
          exact va_zald hx hb hSt.1 hP (q - 14) 2 (sm_get hq h14) rfl hin hd k
      · rename_i h0 hno
        cases h
        simp only [beq_iff_eq] at h0
        subst h0
        have hO := hwf.rd hq (by show 7 ≤ 8; decide)
        rw [sm_ref (sm_O_ne hO (by show (8 : Nat) ≠ 11; decide))]
        exact va_tb hx hb (hSt.2.2.2.2.2.2.2.1 q _ hO rfl) hS hin rfl hd k
      · cases h
set_option maxHeartbeats 4000000 in
theorem sm_lal (hE : sm_En p R s m args meth c Y ml d) (hSt : sm_St bs cy ad fm Dg Ls xs s) (hwf : sm_wf Ls xs w.1) (had : ∀ j, 14 ≤ j → ad j = bs + (j - 14)) (hP : va_P Dg vwCl (sm_w bs cy ad fm w) H) (hd : decode Y.2.1 pc = .ok (.laload, 1))
    (h : mm_lal w q j = some z) (k : W p l e R s m args below meth c H locs cells slots Q (F0 m (pc + 1) ls (.long z :: st))) : W p l e R s m args below meth c H locs cells slots Q (F0 m pc ls (.int j :: sm_v ad fm (.ref q) :: st)) := by
  obtain ⟨hx, hb, hr, hml, hown, hts, hlocks, hnm, hfr, hlo⟩ := hE
  unfold mm_lal at h
  cases hq : w.1[q]? with
  | none => rw [hq] at h; cases h
  | some D =>
    obtain ⟨t, n, f, rs⟩ := D
    rw [hq] at h
    dsimp only at h
    by_cases hin : j < 0 ∨ n ≤ j.toNatClampNeg
    · rw [if_pos hin] at h; cases h
    · rw [if_neg hin] at h
      split at h
      · rename_i h0
        cases h
        simp only [beq_iff_eq] at h0
        subst h0
        have h14 : 14 ≤ q := hwf.new hq (by show 4 ≤ 6; decide)
        rw [sm_ref (by omega), had q h14]
        exact va_lald hx hb hSt.1 hP (q - 14) 3 (sm_get hq h14) rfl hin hd k
      · cases h
set_option maxHeartbeats 4000000 in
theorem sm_aal (hE : sm_En p R s m args meth c Y ml d) (hSt : sm_St bs cy ad fm Dg Ls xs s) (hwf : sm_wf Ls xs w.1) (had : ∀ j, 14 ≤ j → ad j = bs + (j - 14)) (hP : va_P Dg vwCl (sm_w bs cy ad fm w) H) (hd : decode Y.2.1 pc = .ok (.aaload, 1))
    (h : mm_aal w q j = some v) (k : W p l e R s m args below meth c H locs cells slots Q (F0 m (pc + 1) ls (sm_v ad fm v :: st))) : W p l e R s m args below meth c H locs cells slots Q (F0 m pc ls (.int j :: sm_v ad fm (.ref q) :: st)) := by
  obtain ⟨hx, hb, hr, hml, hown, hts, hlocks, hnm, hfr, hlo⟩ := hE
  unfold mm_aal at h
  cases hq : w.1[q]? with
  | none => rw [hq] at h; cases h
  | some D =>
    obtain ⟨t, n, f, rs⟩ := D
    rw [hq] at h
    dsimp only at h
    by_cases hin : j < 0 ∨ n ≤ j.toNatClampNeg
    · rw [if_pos hin] at h; cases h
    · rw [if_neg hin] at h
      split at h
      · rename_i h0
        cases h
        simp only [Bool.or_eq_true, beq_iff_eq] at h0
        have h14 : 14 ≤ q := hwf.new hq (by show t ≤ 6; omega)
        have hdk := (hwf.2 q _ h14 hq).2 h0
        rw [sm_ref (by omega), had q h14]
        have e1 : va_rf ((rs.getD j.toNatClampNeg none).map ad) = sm_v ad fm (va_rf (rs.getD j.toNatClampNeg none)) := by
          cases hv : rs.getD j.toNatClampNeg none with
          | none => rfl
          | some y => exact (sm_ref (hdk _ y hv)).symm
        rw [← e1] at k
        rcases h0 with rfl | rfl
        · exact va_aldq hx hb hSt.1 hP (q - 14) 4 (sm_get hq h14) rfl hin hd k
        · exact va_aldq hx hb hSt.1 hP (q - 14) 5 (sm_get hq h14) rfl hin hd k
      · cases h
set_option maxHeartbeats 4000000 in
theorem sm_al (hE : sm_En p R s m args meth c Y ml d) (hSt : sm_St bs cy ad fm Dg Ls xs s) (hwf : sm_wf Ls xs w.1) (had : ∀ j, 14 ≤ j → ad j = bs + (j - 14)) (hP : va_P Dg vwCl (sm_w bs cy ad fm w) H) (hS : va_S (sm_A bs) s.heap H locs) (hd : decode Y.2.1 pc = .ok (.arraylength, 1))
    (h : mm_len w q = some x) (k : W p l e R s m args below meth c H locs cells slots Q (F0 m (pc + 1) ls (.int x :: st))) : W p l e R s m args below meth c H locs cells slots Q (F0 m pc ls (sm_v ad fm (.ref q) :: st)) := by
  obtain ⟨hx, hb, hr, hml, hown, hts, hlocks, hnm, hfr, hlo⟩ := hE
  unfold mm_len at h
  cases hq : w.1[q]? with
  | none => rw [hq] at h; cases h
  | some D =>
    obtain ⟨t, n, f, rs⟩ := D
    rw [hq] at h
    dsimp only at h
    split at h
    · rename_i h0
      cases h
      simp only [Bool.and_eq_true] at h0
      have a1 : 0 < t := mm_blt h0.1
      have a2 : t < 9 := mm_blt h0.2
      by_cases h7 : t ≤ 6
      · have h14 : 14 ≤ q := hwf.new hq h7
        rw [sm_ref (by omega), had q h14]
        have hg := sm_get (bs := bs) (cy := cy) (ad := ad) (fm := fm) hq h14
        match t, a1, h7, hg with
        | 1, _, _, hg => exact va_alen hx hb hSt.1 hP (q - 14) 0 hg (ty := .int) rfl rfl hd k
        | 2, _, _, hg => exact va_alen hx hb hSt.1 hP (q - 14) 1 hg (ty := .byte) rfl rfl hd k
        | 3, _, _, hg => exact va_alen hx hb hSt.1 hP (q - 14) 2 hg (ty := .boolean) rfl rfl hd k
        | 4, _, _, hg => exact va_alen hx hb hSt.1 hP (q - 14) 3 hg (ty := .long) rfl rfl hd k
        | 5, _, _, hg => exact va_alen hx hb hSt.1 hP (q - 14) 4 hg (ty := .object RX6) rfl rfl hd k
        | 6, _, _, hg => exact va_alen hx hb hSt.1 hP (q - 14) 5 hg (ty := .object RX7) rfl rfl hd k
      · have hO := hwf.rd hq (by show 7 ≤ t; omega)
        rw [sm_ref (sm_O_ne hO (by show t ≠ 11; omega))]
        rcases (show t = 7 ∨ t = 8 by omega) with rfl | rfl
        · exact va_tlen hx hb (hSt.2.2.2.2.2.2.1 q _ hO rfl) hS rfl hd k
        · exact va_tlen hx hb (hSt.2.2.2.2.2.2.2.1 q _ hO rfl) hS rfl hd k
    · cases h
set_option maxHeartbeats 4000000 in
theorem sm_ias (hE : sm_En p R s m args meth c Y ml d) (hSt : sm_St bs cy ad fm Dg Ls xs s) (hwf : sm_wf Ls xs w.1) (had : ∀ j, 14 ≤ j → ad j = bs + (j - 14)) (hP : va_P Dg vwCl (sm_w bs cy ad fm w) H) (hS : va_S (sm_A bs) s.heap H locs) (hd : decode Y.2.1 pc = .ok (.iastore, 1))
    (h : mm_ias w q j x = some w') (k : ∀ (H1 : Heap) (locs1 : List Loc), w'.1 = w.1 → va_P Dg vwCl (sm_w bs cy ad fm w') H1 → va_S (sm_A bs) s.heap H1 locs1 → W p l e R s m args below meth c H1 locs1 cells slots Q (F0 m (pc + 1) ls st)) : W p l e R s m args below meth c H locs cells slots Q (F0 m pc ls (.int x :: .int j :: sm_v ad fm (.ref q) :: st)) := by
  obtain ⟨hx, hb, hr, hml, hown, hts, hlocks, hnm, hfr, hlo⟩ := hE
  obtain ⟨Λ, μ⟩ := w
  unfold mm_ias at h
  dsimp only at h hwf
  cases hq : Λ[q]? with
  | none => rw [hq] at h; cases h
  | some D =>
    obtain ⟨t, n, f, rs⟩ := D
    rw [hq] at h
    dsimp only at h
    by_cases hin : j < 0 ∨ n ≤ j.toNatClampNeg
    · rw [if_pos hin] at h; cases h
    · rw [if_neg hin] at h
      split at h
      · rename_i h0
        cases h
        simp only [beq_iff_eq] at h0
        subst h0
        have h14 : 14 ≤ q := hwf.new hq (by show 1 ≤ 6; decide)
        rw [sm_ref (by omega), had q h14]
        refine va_iast hx hb hSt.1 hP sm_D hS (q - 14) 0 (sm_get (w := (Λ, μ)) hq h14) rfl hin hd (fun H1 locs1 hP1 hD1 hS1 => k H1 locs1 rfl ?_ hS1)
        have e1 := sm_mem (bs := bs) (cy := cy) (ad := ad) (fm := fm) (μ := μ) (μ' := mm_sI μ q (upd (μ.1 q) j.toNatClampNeg x)) hq h14 sm_sI_o
        rw [← e1, show sm_e cy ad fm (mm_sI μ q (upd (μ.1 q) j.toNatClampNeg x)) q (1, n, f, rs) = .inl (cy 1, n, .inl (upd (μ.1 q) j.toNatClampNeg x)) by simp [sm_e, mm_sI]]
        exact hP1
      · cases h
set_option maxHeartbeats 4000000 in
theorem sm_bas (hE : sm_En p R s m args meth c Y ml d) (hSt : sm_St bs cy ad fm Dg Ls xs s) (hwf : sm_wf Ls xs w.1) (had : ∀ j, 14 ≤ j → ad j = bs + (j - 14)) (hP : va_P Dg vwCl (sm_w bs cy ad fm w) H) (hS : va_S (sm_A bs) s.heap H locs) (hd : decode Y.2.1 pc = .ok (.bastore, 1))
    (h : mm_bas w q j x = some w') (k : ∀ (H1 : Heap) (locs1 : List Loc), w'.1 = w.1 → va_P Dg vwCl (sm_w bs cy ad fm w') H1 → va_S (sm_A bs) s.heap H1 locs1 → W p l e R s m args below meth c H1 locs1 cells slots Q (F0 m (pc + 1) ls st)) : W p l e R s m args below meth c H locs cells slots Q (F0 m pc ls (.int x :: .int j :: sm_v ad fm (.ref q) :: st)) := by
  obtain ⟨hx, hb, hr, hml, hown, hts, hlocks, hnm, hfr, hlo⟩ := hE
  obtain ⟨Λ, μ⟩ := w
  unfold mm_bas at h
  dsimp only at h hwf
  cases hq : Λ[q]? with
  | none => rw [hq] at h; cases h
  | some D =>
    obtain ⟨t, n, f, rs⟩ := D
    rw [hq] at h
    dsimp only at h
    by_cases hin : j < 0 ∨ n ≤ j.toNatClampNeg
    · rw [if_pos hin] at h; cases h
    · rw [if_neg hin] at h
      split at h
      · rename_i h0
        cases h
        simp only [beq_iff_eq] at h0
        subst h0
        have h14 : 14 ≤ q := hwf.new hq (by show 2 ≤ 6; decide)
        rw [sm_ref (by omega), had q h14]
        refine va_bast hx hb hSt.1 hP sm_D hS (q - 14) 1 (sm_get (w := (Λ, μ)) hq h14) rfl hin hd (fun H1 locs1 hP1 hD1 hS1 => k H1 locs1 rfl ?_ hS1)
        have e1 := sm_mem (bs := bs) (cy := cy) (ad := ad) (fm := fm) (μ := μ) (μ' := mm_sI μ q (upd (μ.1 q) j.toNatClampNeg (vp_nar .byte x))) hq h14 sm_sI_o
        rw [← e1, show sm_e cy ad fm (mm_sI μ q (upd (μ.1 q) j.toNatClampNeg (vp_nar .byte x))) q (2, n, f, rs) = .inl (cy 2, n, .inl (upd (μ.1 q) j.toNatClampNeg (vp_nar .byte x))) by simp [sm_e, mm_sI]]
        exact hP1
      · rename_i h0 hno
        cases h
        simp only [beq_iff_eq] at h0
        subst h0
        have h14 : 14 ≤ q := hwf.new hq (by show 3 ≤ 6; decide)
        rw [sm_ref (by omega), had q h14]
        refine va_zast hx hb hSt.1 hP sm_D hS (q - 14) 2 (sm_get (w := (Λ, μ)) hq h14) rfl hin hd (fun H1 locs1 hP1 hD1 hS1 => k H1 locs1 rfl ?_ hS1)
        have e1 := sm_mem (bs := bs) (cy := cy) (ad := ad) (fm := fm) (μ := μ) (μ' := mm_sI μ q (upd (μ.1 q) j.toNatClampNeg (vp_nar .boolean x))) hq h14 sm_sI_o
        rw [← e1, show sm_e cy ad fm (mm_sI μ q (upd (μ.1 q) j.toNatClampNeg (vp_nar .boolean x))) q (3, n, f, rs) = .inl (cy 3, n, .inl (upd (μ.1 q) j.toNatClampNeg (vp_nar .boolean x))) by simp [sm_e, mm_sI]]
        exact hP1
      · cases h
set_option maxHeartbeats 4000000 in
theorem sm_las (hE : sm_En p R s m args meth c Y ml d) (hSt : sm_St bs cy ad fm Dg Ls xs s) (hwf : sm_wf Ls xs w.1) (had : ∀ j, 14 ≤ j → ad j = bs + (j - 14)) (hP : va_P Dg vwCl (sm_w bs cy ad fm w) H) (hS : va_S (sm_A bs) s.heap H locs) (hd : decode Y.2.1 pc = .ok (.lastore, 1))
    (h : mm_las w q j z = some w') (k : ∀ (H1 : Heap) (locs1 : List Loc), w'.1 = w.1 → va_P Dg vwCl (sm_w bs cy ad fm w') H1 → va_S (sm_A bs) s.heap H1 locs1 → W p l e R s m args below meth c H1 locs1 cells slots Q (F0 m (pc + 1) ls st)) : W p l e R s m args below meth c H locs cells slots Q (F0 m pc ls (.long z :: .int j :: sm_v ad fm (.ref q) :: st)) := by
  obtain ⟨hx, hb, hr, hml, hown, hts, hlocks, hnm, hfr, hlo⟩ := hE
  obtain ⟨Λ, μ⟩ := w
  unfold mm_las at h
  dsimp only at h hwf
  cases hq : Λ[q]? with
  | none => rw [hq] at h; cases h
  | some D =>
    obtain ⟨t, n, f, rs⟩ := D
    rw [hq] at h
    dsimp only at h
    by_cases hin : j < 0 ∨ n ≤ j.toNatClampNeg
    · rw [if_pos hin] at h; cases h
    · rw [if_neg hin] at h
      split at h
      · rename_i h0
        cases h
        simp only [beq_iff_eq] at h0
        subst h0
        have h14 : 14 ≤ q := hwf.new hq (by show 4 ≤ 6; decide)
        rw [sm_ref (by omega), had q h14]
        refine va_last hx hb hSt.1 hP sm_D hS (q - 14) 3 (sm_get (w := (Λ, μ)) hq h14) rfl hin hd (fun H1 locs1 hP1 hD1 hS1 => k H1 locs1 rfl ?_ hS1)
        have e1 := sm_mem (bs := bs) (cy := cy) (ad := ad) (fm := fm) (μ := μ) (μ' := mm_sJ μ q (vp_updL (μ.2.1 q) j.toNatClampNeg z)) hq h14 sm_sJ_o
        rw [← e1, show sm_e cy ad fm (mm_sJ μ q (vp_updL (μ.2.1 q) j.toNatClampNeg z)) q (4, n, f, rs) = .inl (cy 4, n, .inr (.inl (vp_updL (μ.2.1 q) j.toNatClampNeg z))) by simp [sm_e, mm_sJ]]
        exact hP1
      · cases h
end
end
section
/-- a new cell lies where the heap ended -/
theorem sm_fresh {bs : Nat} {cy : Nat → ClassId} {ad : Nat → Nat} {fm : Value} {w : mm_W} {Dg : va_G} {H1 : Heap} {q N : Nat} {x : va_E} (hP : va_P Dg vwCl (sm_w bs cy ad fm w ++ [(q, x)]) H1) (hD : va_D (sm_A bs) (sm_w bs cy ad fm w ++ [(q, x)])) (hN : N = bs + (w.1.length - 14)) (hs : H1.size ≤ N + 1) : q = N := by
  have hl : (sm_w bs cy ad fm w).length = w.1.length - 14 := sm_len
  have g : (sm_w bs cy ad fm w ++ [(q, x)])[w.1.length - 14]? = some (q, x) := by
    rw [← hl, List.getElem?_append_right (Nat.le_refl _), Nat.sub_self]
    rfl
  have h1 : q < H1.size := (hP _ _ g).lt
  have h2 : bs ≤ q := hD.2 _ _ g
  rcases Nat.lt_or_ge q N with h3 | h3
  · exfalso
    have hj : q - bs < w.1.length - 14 := by omega
    have hE : ∃ E, w.1[14 + (q - bs)]? = some E := ⟨_, List.getElem?_eq_getElem (by omega)⟩
    obtain ⟨E, hE⟩ := hE
    have g2 := sm_get (bs := bs) (cy := cy) (ad := ad) (fm := fm) hE (by omega)
    rw [show 14 + (q - bs) - 14 = q - bs by omega] at g2
    have g3 : (sm_w bs cy ad fm w ++ [(q, x)])[q - bs]? = some (bs + (q - bs), sm_e cy ad fm w.2 (14 + (q - bs)) E) := by
      rw [List.getElem?_append_left (by rw [hl]; exact hj)]
      exact g2
    have := hD.1 _ _ _ _ g g3 (by show q = bs + (q - bs); omega)
    omega
  · omega
theorem sm_zero {Λ : List mm_D} {μ : mm_M} {d : mm_D} : ∀ c, c ≠ Λ.length → (mm_new (Λ, μ) d).2.1 c = μ.1 c ∧ (mm_new (Λ, μ) d).2.2.1 c = μ.2.1 c ∧ (mm_new (Λ, μ) d).2.2.2 c = μ.2.2 c := fun c h => by
  simp [mm_new, mm_sI, mm_sJ, mm_sR, h]
section
variable {p : Program} {l : Launch} {e : Env} {R : Room} {s : State} {m : MethodId} {args : Array Value} {below : List Frame} {meth : Method} {c : Code} {H : Heap} {locs : List Loc} {cells slots : Nat} {Q : State → Prop}
variable {bs : Nat} {cy : Nat → ClassId} {ad : Nat → Nat} {fm : Value} {Dg : va_G} {Ls : Nat} {xs : Nat → Int32} {Y : MethodName × ByteArray × Option FieldType} {pc a n hh ml d q x : Nat} {ls : Array Slot} {st st' : List Value} {w w' : mm_W} {v : Value} {j : Int32} {z : Int64}
set_option maxHeartbeats 4000000 in
theorem sm_aas (hE : sm_En p R s m args meth c Y ml d) (hSt : sm_St bs cy ad fm Dg Ls xs s) (hwf : sm_wf Ls xs w.1) (had : ∀ j, 14 ≤ j → ad j = bs + (j - 14)) (hP : va_P Dg vwCl (sm_w bs cy ad fm w) H) (hS : va_S (sm_A bs) s.heap H locs) (hd : decode Y.2.1 pc = .ok (.aastore, 1))
    (h : mm_aas w q j x = some w') (k : ∀ (H1 : Heap) (locs1 : List Loc), sm_wf Ls xs w'.1 → w'.1.length = w.1.length → sm_sz w'.1 = sm_sz w.1 → va_P Dg vwCl (sm_w bs cy ad fm w') H1 → va_S (sm_A bs) s.heap H1 locs1 → W p l e R s m args below meth c H1 locs1 cells slots Q (F0 m (pc + 1) ls st)) : W p l e R s m args below meth c H locs cells slots Q (F0 m pc ls (sm_v ad fm (.ref x) :: .int j :: sm_v ad fm (.ref q) :: st)) := by
  obtain ⟨hx, hb, hr, hml, hown, hts, hlocks, hnm, hfr, hlo⟩ := hE
  obtain ⟨Λ, μ⟩ := w
  unfold mm_aas at h
  dsimp only at h hwf k
  cases hq : Λ[q]? with
  | none => rw [hq] at h; cases h
  | some D =>
    cases hq2 : Λ[x]? with
    | none => rw [hq, hq2] at h; cases h
    | some D2 =>
      obtain ⟨t, n, f, rs⟩ := D
      obtain ⟨tx, nx, fx, rx⟩ := D2
      rw [hq, hq2] at h
      dsimp only at h
      by_cases hin : j < 0 ∨ n ≤ j.toNatClampNeg ∨ rs.length ≤ j.toNatClampNeg
      · rw [if_pos hin] at h; cases h
      · rw [if_neg hin] at h
        have hin1 : ¬ (j < 0 ∨ n ≤ j.toNatClampNeg) := fun z => hin (z.elim Or.inl (fun z => Or.inr (Or.inl z)))
        have hin2 : j.toNatClampNeg < rs.length := Nat.not_le.mp (fun z => hin (Or.inr (Or.inr z)))
        split at h
        · rename_i h0
          cases h
          simp only [Bool.or_eq_true, Bool.and_eq_true, beq_iff_eq] at h0
          have hx14 : 14 ≤ x := hwf.new hq2 (by show tx ≤ 6; omega)
          have h14 : 14 ≤ q := hwf.new hq (by show t ≤ 6; omega)
          have hdk := (hwf.2 q _ h14 hq)
          have hwf' : sm_wf Ls xs (Λ.set q (t, n, f, rs.set j.toNatClampNeg (some x))) := by
            refine hwf.set h14 ⟨hdk.1, fun ht i y hy => ?_⟩
            show y ≠ 13
            dsimp only at hy
            rw [List.getD_eq_getElem?_getD, List.getElem?_set] at hy
            split at hy
            · simp only [Option.getD_some, Option.some.injEq] at hy
              omega
            · exact hdk.2 ht i y (by rw [List.getD_eq_getElem?_getD]; exact hy)
          have e1 := sm_set (bs := bs) (cy := cy) (ad := ad) (fm := fm) (μ := μ) (μ' := μ) (D' := (t, n, f, rs.set j.toNatClampNeg (some x))) hq h14 (fun c _ => ⟨rfl, rfl, rfl⟩)
          have e2 : (fun i => ((rs.set j.toNatClampNeg (some x)).getD i none).map ad) = va_up (fun i => (rs.getD i none).map ad) j.toNatClampNeg (some (ad x)) := by
            funext i
            unfold va_up
            rw [List.getD_eq_getElem?_getD, List.getElem?_set]
            by_cases hi : j.toNatClampNeg = i
            · subst hi; simp [hin2]
            · simp [hi, Ne.symm hi, List.getD_eq_getElem?_getD]
          rw [sm_ref (q := q) (by omega), had q h14, sm_ref (q := x) (by omega)]
          have ex : ad x = bs + (x - 14) := had x hx14
          rcases h0 with ⟨rfl, rfl, rfl⟩ | ⟨rfl, rfl, rfl⟩
          · refine va_astq hx hb hSt.1 hP sm_D hS (q - 14) 4 (x - 14) 6 (r := (RX6, TX6, 6)) (sm_get (w := (Λ, μ)) hq h14) rfl (by rw [ex]; exact sm_get (w := (Λ, μ)) hq2 hx14) rfl hin1 hd (fun H1 locs1 hP1 hD1 hS1 => k H1 locs1 hwf' (by rw [List.length_set]) (sm_sz_set _ _ _ _ hq rfl rfl) ?_ hS1)
            rw [← e1]
            show va_P Dg vwCl ((sm_w bs cy ad fm (Λ, μ)).set (q - 14) (bs + (q - 14), .inl (cy 5, n, .inr (.inr (.inr (.inr (fun i => ((rs.set j.toNatClampNeg (some x)).getD i none).map ad))))))) H1
            rw [e2]
            exact hP1
          · refine va_astq hx hb hSt.1 hP sm_D hS (q - 14) 5 (x - 14) 7 (r := (RX7, TX7, 3)) (sm_get (w := (Λ, μ)) hq h14) rfl (by rw [ex]; exact sm_get (w := (Λ, μ)) hq2 hx14) rfl hin1 hd (fun H1 locs1 hP1 hD1 hS1 => k H1 locs1 hwf' (by rw [List.length_set]) (sm_sz_set _ _ _ _ hq rfl rfl) ?_ hS1)
            rw [← e1]
            show va_P Dg vwCl ((sm_w bs cy ad fm (Λ, μ)).set (q - 14) (bs + (q - 14), .inl (cy 6, n, .inr (.inr (.inr (.inr (fun i => ((rs.set j.toNatClampNeg (some x)).getD i none).map ad))))))) H1
            rw [e2]
            exact hP1
        · cases h
set_option maxHeartbeats 4000000 in
theorem sm_cp (hE : sm_En p R s m args meth c Y ml d) (hSt : sm_St bs cy ad fm Dg Ls xs s) (hwf : sm_wf Ls xs w.1) (had : ∀ j, 14 ≤ j → ad j = bs + (j - 14)) (hls : c.maxLocals = ls.size) (hP : va_P Dg vwCl (sm_w bs cy ad fm w) H) (hS : va_S (sm_A bs) s.heap H locs) (hd : decode Y.2.1 pc = .ok (.invokestatic n, 3)) (ok : mm_has hh (.methodLink Y.1.cls n arraycopyName) = true)
    (h : mm_cp st w = some (st', w')) (k : ∀ (H1 : Heap) (locs1 : List Loc), w'.1 = w.1 → va_P Dg vwCl (sm_w bs cy ad fm w') H1 → va_S (sm_A bs) s.heap H1 locs1 → W p l e R s m args below meth c H1 locs1 cells slots Q (F0 m (pc + 3) ls (st'.map (sm_v ad fm)))) : W p l e R s m args below meth c H locs cells slots Q (F0 m pc ls (st.map (sm_v ad fm))) := by
  have hfc := sm_St_fm hSt
  obtain ⟨hx, hb, hr, hml, hown, hts, hlocks, hnm, hfr, hlo⟩ := hE
  obtain ⟨Λ, μ⟩ := w
  unfold mm_cp at h
  dsimp only at h hwf k
  split at h
  · rename_i n1 dp b0 sp a0 s1
    cases hqa : Λ[a0]? with
    | none => rw [hqa] at h; cases h
    | some Da =>
      cases hqb : Λ[b0]? with
      | none => rw [hqa, hqb] at h; cases h
      | some Db =>
        obtain ⟨ta, na, fa, ra⟩ := Da
        obtain ⟨tb, nb, fb, rb⟩ := Db
        rw [hqa, hqb] at h
        dsimp only at h
        split at h
        · cases h
        · rename_i hc
          have c1 : ¬ n1 < 0 := fun z => hc (Or.inl z)
          have c2 : ¬ sp < 0 := fun z => hc (Or.inr (Or.inl z))
          have c3 : ¬ dp < 0 := fun z => hc (Or.inr (Or.inr (Or.inl z)))
          have c4 : sp.toNatClampNeg + n1.toNatClampNeg ≤ na := Nat.not_lt.mp (fun z => hc (Or.inr (Or.inr (Or.inr (Or.inl z)))))
          have c5 : dp.toNatClampNeg + n1.toNatClampNeg ≤ nb := Nat.not_lt.mp (fun z => hc (Or.inr (Or.inr (Or.inr (Or.inr (Or.inl z))))))
          have c6 : mm_wd s1 ≤ 8 := Nat.not_lt.mp (fun z => hc (Or.inr (Or.inr (Or.inr (Or.inr (Or.inr z))))))
          have hfw : ((s1.map (sm_v ad fm)).map (fun v => v.category)).sum + (nativeFrameWords "java/lang/System" "arraycopy" 5 + 11) ≤ R.locals := by
            rw [sm_wdc hfc]
            have : nativeFrameWords "java/lang/System" "arraycopy" 5 ≤ 40 := by decide +kernel
            omega
          split at h
          · rename_i h0
            cases h
            simp only [Bool.and_eq_true, beq_iff_eq] at h0
            obtain ⟨rfl, rfl⟩ := h0
            have a14 : 14 ≤ a0 := hwf.new hqa (by show 1 ≤ 6; decide)
            have b14 : 14 ≤ b0 := hwf.new hqb (by show 1 ≤ 6; decide)
            simp only [List.map_cons]
            rw [sm_ref (q := a0) (Nat.ne_of_gt (Nat.lt_of_lt_of_le (by decide) a14)), sm_ref (q := b0) (Nat.ne_of_gt (Nat.lt_of_lt_of_le (by decide) b14)), had a0 a14, had b0 b14]
            refine va_copyi hx hb hls hown (hts _ (mm_has_mem ok)) (hts _ sm_wc1) (hts _ sm_wc2) (hts _ sm_wy) hSt.1 hP sm_D hS (a0 - 14) (b0 - 14) 0 0 (ty := .int) (sm_get (w := (Λ, μ)) hqa a14) (sm_get (w := (Λ, μ)) hqb b14) rfl rfl rfl c2 c3 c1 c4 c5 (fun i _ => rfl) (by omega) hfw hd (fun H1 locs1 hP1 hD1 hS1 => k H1 locs1 rfl ?_ hS1)
            have e1 := sm_mem (bs := bs) (cy := cy) (ad := ad) (fm := fm) (μ := μ) (μ' := mm_sI μ b0 (va_cpy (μ.1 a0) (μ.1 b0) sp.toNatClampNeg dp.toNatClampNeg n1.toNatClampNeg)) hqb b14 sm_sI_o
            rw [← e1, show sm_e cy ad fm (mm_sI μ b0 (va_cpy (μ.1 a0) (μ.1 b0) sp.toNatClampNeg dp.toNatClampNeg n1.toNatClampNeg)) b0 (1, nb, fb, rb) = .inl (cy 1, nb, .inl (va_cpy (μ.1 a0) (μ.1 b0) sp.toNatClampNeg dp.toNatClampNeg n1.toNatClampNeg)) by simp [sm_e, mm_sI]]
            exact hP1
          · rename_i h0 hno
            cases h
            simp only [Bool.and_eq_true, beq_iff_eq] at h0
            obtain ⟨rfl, rfl⟩ := h0
            have a14 : 14 ≤ a0 := hwf.new hqa (by show 4 ≤ 6; decide)
            have b14 : 14 ≤ b0 := hwf.new hqb (by show 4 ≤ 6; decide)
            simp only [List.map_cons]
            rw [sm_ref (q := a0) (Nat.ne_of_gt (Nat.lt_of_lt_of_le (by decide) a14)), sm_ref (q := b0) (Nat.ne_of_gt (Nat.lt_of_lt_of_le (by decide) b14)), had a0 a14, had b0 b14]
            refine va_copyl hx hb hls hown (hts _ (mm_has_mem ok)) (hts _ sm_wc1) (hts _ sm_wc2) (hts _ sm_wy) hSt.1 hP sm_D hS (a0 - 14) (b0 - 14) 3 3 (ty := .long) (sm_get (w := (Λ, μ)) hqa a14) (sm_get (w := (Λ, μ)) hqb b14) rfl rfl rfl c2 c3 c1 c4 c5 (fun i _ => rfl) (by omega) hfw hd (fun H1 locs1 hP1 hD1 hS1 => k H1 locs1 rfl ?_ hS1)
            have e1 := sm_mem (bs := bs) (cy := cy) (ad := ad) (fm := fm) (μ := μ) (μ' := mm_sJ μ b0 (va_cpy (μ.2.1 a0) (μ.2.1 b0) sp.toNatClampNeg dp.toNatClampNeg n1.toNatClampNeg)) hqb b14 sm_sJ_o
            rw [← e1, show sm_e cy ad fm (mm_sJ μ b0 (va_cpy (μ.2.1 a0) (μ.2.1 b0) sp.toNatClampNeg dp.toNatClampNeg n1.toNatClampNeg)) b0 (4, nb, fb, rb) = .inl (cy 4, nb, .inr (.inl (va_cpy (μ.2.1 a0) (μ.2.1 b0) sp.toNatClampNeg dp.toNatClampNeg n1.toNatClampNeg))) by simp [sm_e, mm_sJ]]
            exact hP1
          · cases h
  · cases h
set_option maxHeartbeats 4000000 in
theorem sm_nw (hE : sm_En p R s m args meth c Y ml d) (hSt : sm_St bs cy ad fm Dg Ls xs s) (hwf : sm_wf Ls xs w.1) (had : ∀ j, 14 ≤ j → ad j = bs + (j - 14)) (hn : s.heap.size + cells = bs + (w.1.length - 14)) (hbs : bs ≤ s.heap.size) (hP : va_P Dg vwCl (sm_w bs cy ad fm w) H) (hS : va_S (sm_A bs) s.heap H locs) (hd : decode Y.2.1 pc = .ok (.new n, 3)) (o1 : Nat.blt a 10 = true) (ok : mm_has hh (.classLink Y.1.cls n (mm_T1 a).1) = true)
    (hcl : cells + 1 ≤ R.cells) (hsl : slots + mm_N.getD a 0 ≤ R.slots)
    (k : ∀ (H1 : Heap), sm_wf Ls xs (mm_new w (0, a, (fun _ => 0), List.replicate (mm_N.getD a 0) none)).1 → va_P Dg vwCl (sm_w bs cy ad fm (mm_new w (0, a, (fun _ => 0), List.replicate (mm_N.getD a 0) none))) H1 → va_S (sm_A bs) s.heap H1 locs → W p l e R s m args below meth c H1 locs (cells + 1) (slots + mm_N.getD a 0) Q (F0 m (pc + 3) ls (sm_v ad fm (.ref w.1.length) :: st))) : W p l e R s m args below meth c H locs cells slots Q (F0 m pc ls st) := by
  obtain ⟨hx, hb, hr, hml, hown, hts, hlocks, hnm, hfr, hlo⟩ := hE
  obtain ⟨Λ, μ⟩ := w
  dsimp only at hwf hn k
  have h14 := hwf.len
  have o1 : a < 10 := mm_blt o1
  obtain ⟨C, T, N, c1, c2, c3, c4, ⟨ty, c5, c5'⟩, c6, c7, c8⟩ := sm_cls a o1
  have hm := mm_has_mem ok
  rw [c2] at hm
  dsimp only at hm
  rw [c3] at hsl k
  have hfs : ∀ j, j < N → defaultValue (ty j) = vp_V (sm_fs ad fm (mm_new (Λ, μ) (0, a, (fun _ => 0), List.replicate N none)).2 Λ.length a (List.replicate N none)) j := by
    intro j hj
    rw [c5' j hj]
    unfold vp_V
    rw [List.getD_eq_getElem?_getD, sm_fs_at (by rw [c3]; exact hj)]
    show _ = (match mm_fc a j with
      | 0 => Value.int ((mm_new (Λ, μ) (0, a, (fun _ => 0), List.replicate N none)).2.1 Λ.length j)
      | 1 => sm_v ad fm (va_rf ((mm_new (Λ, μ) (0, a, (fun _ => 0), List.replicate N none)).2.2.2 Λ.length j))
      | _ => sm_v ad fm (va_rf ((List.replicate N none).getD j none)))
    by_cases h0 : mm_fc a j = 0
    · rw [if_pos h0, h0]
      simp [mm_new, mm_sI, mm_sJ, mm_sR]
    · rw [if_neg h0]
      have e9 : (List.replicate N (none : Option Nat)).getD j none = none := by simp [List.getD_eq_getElem?_getD, List.getElem?_replicate, hj]
      rw [e9]
      split
      · rename_i h1; exact absurd h1 h0
      · simp [mm_new, mm_sI, mm_sJ, mm_sR, va_rf, sm_v]
      · rfl
  refine va_new (ci := a) hx hb hts c4 ty c5 hown (hts _ hm) (hts _ c7) (hts _ c8) hSt.1 hP sm_D hS (fun q hq => Nat.le_trans hbs hq) c1 hfs hcl hsl hd (fun q H1 hP1 hD1 hS1 => ?_)
  refine sm_sized (fun hsz => ?_)
  have hq := sm_fresh (w := (Λ, μ)) (N := s.heap.size + cells) hP1 hD1 hn (by omega)
  have h2 : q = bs + (Λ.length - 14) := by rw [hq]; exact hn
  have k1 := k H1 (hwf.push ⟨by show 0 ≤ 6; decide, fun z => by rcases z with z | z <;> cases z⟩)
  have e1 := sm_push (bs := bs) (cy := cy) (ad := ad) (fm := fm) (D := (0, a, (fun _ => 0), List.replicate N none)) (μ := μ) (μ' := (mm_new (Λ, μ) (0, a, (fun _ => 0), List.replicate N none)).2) h14 sm_zero
  rw [sm_ref (by omega), had _ h14, ← h2] at k1
  rw [← h2] at e1
  exact k1 (by rw [show mm_new (Λ, μ) (0, a, (fun _ => 0), List.replicate N none) = (Λ ++ [(0, a, (fun _ => 0), List.replicate N none)], (mm_new (Λ, μ) (0, a, (fun _ => 0), List.replicate N none)).2) from rfl, ← e1]; exact hP1) hS1
set_option maxHeartbeats 4000000 in
theorem sm_na (hE : sm_En p R s m args meth c Y ml d) (hSt : sm_St bs cy ad fm Dg Ls xs s) (hwf : sm_wf Ls xs w.1) (had : ∀ j, 14 ≤ j → ad j = bs + (j - 14)) (hn : s.heap.size + cells = bs + (w.1.length - 14)) (hbs : bs ≤ s.heap.size) (hP : va_P Dg vwCl (sm_w bs cy ad fm w) H) (hS : va_S (sm_A bs) s.heap H locs) {aty : ArrayType} (hd : decode Y.2.1 pc = .ok (.newarray aty, 2))
    (ok : (match aty with
    | .int => decide (a = 1)
    | .byte => decide (a = 2)
    | .boolean => decide (a = 3)
    | .long => decide (a = 4)
    | _ => false) = true) (hj : ¬ j < 0) (hj2 : j.toNatClampNeg ≤ 100000)
    (hcl : cells + 1 ≤ R.cells) (hsl : slots + j.toNatClampNeg ≤ R.slots)
    (k : ∀ (H1 : Heap), sm_wf Ls xs (mm_new w (a, j.toNatClampNeg, (fun _ => 0), [])).1 → va_P Dg vwCl (sm_w bs cy ad fm (mm_new w (a, j.toNatClampNeg, (fun _ => 0), []))) H1 → va_S (sm_A bs) s.heap H1 locs → W p l e R s m args below meth c H1 locs (cells + 1) (slots + j.toNatClampNeg) Q (F0 m (pc + 2) ls (sm_v ad fm (.ref w.1.length) :: st))) : W p l e R s m args below meth c H locs cells slots Q (F0 m pc ls (.int j :: st)) := by
  obtain ⟨hx, hb, hr, hml, hown, hts, hlocks, hnm, hfr, hlo⟩ := hE
  obtain ⟨Λ, μ⟩ := w
  dsimp only at hwf hn k
  have h14 := hwf.len
  have key : ∀ (ty : FieldType) (a0 : vp_A) (t0 : Nat), newarray.typeOf aty = ty → a ≤ 4 → (sm_t cy)[t0]? = some (cy a, ty) → t0 < 6 → (∀ cA : ClassId, va_RA s cA ty → s.vm.findClass ("[" ++ ty.toString) = some cA) → (∀ cA : ClassId, vp_cell cA a0 = arrV cA j.toNatClampNeg (fun _ => defaultValue ty)) → j.toNatClampNeg * componentBytes ty ≤ 536870912 → Cond.arrayClass (newarray.typeOf aty) ∈ mm_good → sm_e cy ad fm (mm_new (Λ, μ) (a, j.toNatClampNeg, (fun _ => 0), [])).2 Λ.length (a, j.toNatClampNeg, (fun _ => 0), []) = .inl (cy a, a0) → W p l e R s m args below meth c H locs cells slots Q (F0 m pc ls (.int j :: st)) := by
    intro ty a0 t0 hty ha4 ht0 ht6 hRA ha0 hby hwd hel
    refine va_newa hx hb (hts _ hwd) hty hSt.1 hP sm_D hS (fun q hq => Nat.le_trans hbs hq) ha0 hj rfl hby hcl hsl hd (fun q cA H1 hK1 hP1 hD1 hS1 => ?_)
    have r1 := hRA _ (hK1.2 6 _ rfl).2
    have r2 := hRA _ (hSt.1.2 t0 _ ht0).2
    have r3 : cA = cy a := Option.some.inj (r1.symm.trans r2)
    subst r3
    refine sm_sized (fun hsz => ?_)
    have hq := sm_fresh (w := (Λ, μ)) (N := s.heap.size + cells) hP1 hD1 hn (by omega)
    have h2 : q = bs + (Λ.length - 14) := by rw [hq]; exact hn
    have k1 := k H1 (hwf.push ⟨by show a ≤ 6; omega, fun z => by rcases z with z | z <;> (have z : a = _ := z; omega)⟩)
    have e1 := sm_push (bs := bs) (cy := cy) (ad := ad) (fm := fm) (D := (a, j.toNatClampNeg, (fun _ => 0), [])) (μ := μ) (μ' := (mm_new (Λ, μ) (a, j.toNatClampNeg, (fun _ => 0), [])).2) h14 sm_zero
    rw [sm_ref (by omega), had _ h14, ← h2] at k1
    rw [← h2, hel] at e1
    exact k1 (by rw [show mm_new (Λ, μ) (a, j.toNatClampNeg, (fun _ => 0), []) = (Λ ++ [(a, j.toNatClampNeg, (fun _ => 0), [])], (mm_new (Λ, μ) (a, j.toNatClampNeg, (fun _ => 0), [])).2) from rfl, ← e1]; exact hP1) hS1
  cases aty
  case boolean =>
    simp only [decide_eq_true_eq] at ok
    subst ok
    exact key .boolean (j.toNatClampNeg, .inl (fun _ => 0)) 2 rfl (by decide) rfl (by decide) (fun cA z => z) (fun cA => rfl) (by show j.toNatClampNeg * 1 ≤ _; omega) sm_wa3 (by simp [sm_e, mm_new, mm_sI, mm_sJ, mm_sR])
  case byte =>
    simp only [decide_eq_true_eq] at ok
    subst ok
    exact key .byte (j.toNatClampNeg, .inl (fun _ => 0)) 1 rfl (by decide) rfl (by decide) (fun cA z => z) (fun cA => rfl) (by show j.toNatClampNeg * 1 ≤ _; omega) sm_wa2 (by simp [sm_e, mm_new, mm_sI, mm_sJ, mm_sR])
  case int =>
    simp only [decide_eq_true_eq] at ok
    subst ok
    exact key .int (j.toNatClampNeg, .inl (fun _ => 0)) 0 rfl (by decide) rfl (by decide) (fun cA z => z) (fun cA => rfl) (by show j.toNatClampNeg * 4 ≤ _; omega) sm_wa1 (by simp [sm_e, mm_new, mm_sI, mm_sJ, mm_sR])
  case long =>
    simp only [decide_eq_true_eq] at ok
    subst ok
    exact key .long (j.toNatClampNeg, .inr (.inl (fun _ => 0))) 3 rfl (by decide) rfl (by decide) (fun cA z => z) (fun cA => rfl) (by show j.toNatClampNeg * 8 ≤ _; omega) sm_wa4 (by simp [sm_e, mm_new, mm_sI, mm_sJ, mm_sR])
  all_goals cases ok
set_option maxHeartbeats 4000000 in
theorem sm_nq (hE : sm_En p R s m args meth c Y ml d) (hSt : sm_St bs cy ad fm Dg Ls xs s) (hwf : sm_wf Ls xs w.1) (had : ∀ j, 14 ≤ j → ad j = bs + (j - 14)) (hn : s.heap.size + cells = bs + (w.1.length - 14)) (hbs : bs ≤ s.heap.size) (hP : va_P Dg vwCl (sm_w bs cy ad fm w) H) (hS : va_S (sm_A bs) s.heap H locs) (hd : decode Y.2.1 pc = .ok (.anewarray n, 3))
    (ok : (match a with
    | 5 => mm_has hh (.classLink Y.1.cls n RX6)
    | 6 => mm_has hh (.classLink Y.1.cls n RX7)
    | _ => false) = true) (hj : ¬ j < 0) (hj2 : j.toNatClampNeg ≤ 100000)
    (hcl : cells + 1 ≤ R.cells) (hsl : slots + j.toNatClampNeg ≤ R.slots)
    (k : ∀ (H1 : Heap), sm_wf Ls xs (mm_new w (a, j.toNatClampNeg, (fun _ => 0), List.replicate j.toNatClampNeg none)).1 → va_P Dg vwCl (sm_w bs cy ad fm (mm_new w (a, j.toNatClampNeg, (fun _ => 0), List.replicate j.toNatClampNeg none))) H1 → va_S (sm_A bs) s.heap H1 locs → W p l e R s m args below meth c H1 locs (cells + 1) (slots + j.toNatClampNeg) Q (F0 m (pc + 3) ls (sm_v ad fm (.ref w.1.length) :: st))) : W p l e R s m args below meth c H locs cells slots Q (F0 m pc ls (.int j :: st)) := by
  obtain ⟨hx, hb, hr, hml, hown, hts, hlocks, hnm, hfr, hlo⟩ := hE
  obtain ⟨Λ, μ⟩ := w
  dsimp only at hwf hn k
  have h14 := hwf.len
  have hnone : (fun i => ((List.replicate j.toNatClampNeg (none : Option Nat)).getD i none).map ad) = (fun _ => none) := by
    funext i
    have : (List.replicate j.toNatClampNeg (none : Option Nat)).getD i none = none := by
      rw [List.getD_eq_getElem?_getD, List.getElem?_replicate]
      split <;> rfl
    rw [this]
    rfl
  have key : ∀ (C : String) (t0 : Nat), (a = 5 ∨ a = 6) → va_AO C s → (sm_t cy)[t0]? = some (cy a, .object C) → Cond.classLink Y.1.cls n C ∈ mm_good → sm_e cy ad fm (mm_new (Λ, μ) (a, j.toNatClampNeg, (fun _ => 0), List.replicate j.toNatClampNeg none)).2 Λ.length (a, j.toNatClampNeg, (fun _ => 0), List.replicate j.toNatClampNeg none) = .inl (cy a, j.toNatClampNeg, .inr (.inr (.inr (.inr (fun _ => none))))) → W p l e R s m args below meth c H locs cells slots Q (F0 m pc ls (.int j :: st)) := by
    intro C t0 ha hao ht0 hwd hel
    refine va_newq hx hb hown (hts _ hwd) hao hSt.1 hP sm_D hS (fun q hq => Nat.le_trans hbs hq) hj rfl (by omega) hcl hsl hd (fun q cA H1 hK1 hP1 hD1 hS1 => ?_)
    have r1 : s.vm.findClass ("[" ++ (FieldType.object C).toString) = some cA := by
      obtain ⟨kA, comp, g1, g2, g3, g4⟩ := (hK1.2 6 _ rfl).2
      exact g4
    have r2 : s.vm.findClass ("[" ++ (FieldType.object C).toString) = some (cy a) := by
      obtain ⟨kA, comp, g1, g2, g3, g4⟩ := (hSt.1.2 t0 _ ht0).2
      exact g4
    have r3 : cA = cy a := Option.some.inj (r1.symm.trans r2)
    subst r3
    refine sm_sized (fun hsz => ?_)
    have hq := sm_fresh (w := (Λ, μ)) (N := s.heap.size + cells) hP1 hD1 hn (by omega)
    have h2 : q = bs + (Λ.length - 14) := by rw [hq]; exact hn
    have k1 := k H1 (hwf.push ⟨by show a ≤ 6; omega, fun _ i y hy => by
      dsimp only at hy
      rw [List.getD_eq_getElem?_getD, List.getElem?_replicate] at hy
      split at hy <;> cases hy⟩)
    have e1 := sm_push (bs := bs) (cy := cy) (ad := ad) (fm := fm) (D := (a, j.toNatClampNeg, (fun _ => 0), List.replicate j.toNatClampNeg none)) (μ := μ) (μ' := (mm_new (Λ, μ) (a, j.toNatClampNeg, (fun _ => 0), List.replicate j.toNatClampNeg none)).2) h14 sm_zero
    rw [sm_ref (by omega), had _ h14, ← h2] at k1
    rw [← h2, hel] at e1
    exact k1 (by rw [show mm_new (Λ, μ) (a, j.toNatClampNeg, (fun _ => 0), List.replicate j.toNatClampNeg none) = (Λ ++ [(a, j.toNatClampNeg, (fun _ => 0), List.replicate j.toNatClampNeg none)], (mm_new (Λ, μ) (a, j.toNatClampNeg, (fun _ => 0), List.replicate j.toNatClampNeg none)).2) from rfl, ← e1]; exact hP1) hS1
  split at ok
  · exact key RX6 4 (Or.inl rfl) hSt.2.1.1 rfl (mm_has_mem ok) (by
      show Sum.inl (cy 5, j.toNatClampNeg, _) = _
      rw [hnone])
  · exact key RX7 5 (Or.inr rfl) hSt.2.1.2 rfl (mm_has_mem ok) (by
      show Sum.inl (cy 6, j.toNatClampNeg, _) = _
      rw [hnone])
  · cases ok
end
end
section
theorem mm_pf_mono {w w' : mm_W} {q a b c0 : Nat} {v : Value} (h : mm_pf w q a b c0 v = some w') : w.1.length = w'.1.length ∧ sm_sz w.1 = sm_sz w'.1 := by
  unfold mm_pf at h
  cases hq : w.1[q]? with
  | none => rw [hq] at h; cases h
  | some D =>
    obtain ⟨t, n, f, rs⟩ := D
    rw [hq] at h
    dsimp only at h
    split at h
    · cases h; exact ⟨rfl, rfl⟩
    · split at h
      · cases h; exact ⟨rfl, rfl⟩
      · cases h
    · cases h; exact ⟨rfl, rfl⟩
    · cases h; exact ⟨rfl, rfl⟩
    · split at h
      · cases h; exact ⟨by rw [List.length_set], (sm_sz_set _ _ _ _ hq rfl rfl).symm⟩
      · cases h
    · cases h
theorem mm_aas_mono {w w' : mm_W} {q x : Nat} {j : Int32} (h : mm_aas w q j x = some w') : w.1.length = w'.1.length ∧ sm_sz w.1 = sm_sz w'.1 := by
  unfold mm_aas at h
  cases hq : w.1[q]? with
  | none => rw [hq] at h; cases h
  | some D =>
    cases hq2 : w.1[x]? with
    | none => rw [hq, hq2] at h; cases h
    | some D2 =>
      obtain ⟨t, n, f, rs⟩ := D
      rw [hq, hq2] at h
      dsimp only at h
      split at h
      · cases h
      · split at h
        · cases h; exact ⟨by rw [List.length_set], (sm_sz_set _ _ _ _ hq rfl rfl).symm⟩
        · cases h
theorem mm_ias_mono {w w' : mm_W} {q : Nat} {j x : Int32} (h : mm_ias w q j x = some w') : w.1 = w'.1 := by
  unfold mm_ias at h
  split at h
  · split at h
    · cases h
    · split at h
      · cases h; rfl
      · cases h
  · cases h
theorem mm_bas_mono {w w' : mm_W} {q : Nat} {j x : Int32} (h : mm_bas w q j x = some w') : w.1 = w'.1 := by
  unfold mm_bas at h
  split at h
  · split at h
    · cases h
    · split at h
      · cases h; rfl
      · cases h; rfl
      · cases h
  · cases h
theorem mm_las_mono {w w' : mm_W} {q : Nat} {j : Int32} {x : Int64} (h : mm_las w q j x = some w') : w.1 = w'.1 := by
  unfold mm_las at h
  split at h
  · split at h
    · cases h
    · split at h
      · cases h; rfl
      · cases h
  · cases h
theorem mm_cp_mono {w w' : mm_W} {st st' : List Value} (h : mm_cp st w = some (st', w')) : w.1 = w'.1 := by
  unfold mm_cp at h
  split at h
  · split at h
    · split at h
      · cases h
      · split at h
        · cases h; rfl
        · cases h; rfl
        · cases h
    · cases h
  · cases h
theorem mm_new_mono (w : mm_W) (d : mm_D) : w.1.length ≤ (mm_new w d).1.length ∧ sm_sz w.1 ≤ sm_sz (mm_new w d).1 := by
  refine ⟨?_, ?_⟩
  · show w.1.length ≤ (w.1 ++ [d]).length
    rw [List.length_append]; omega
  · show sm_sz w.1 ≤ sm_sz (w.1 ++ [d])
    rw [sm_sz_push]; omega
set_option maxHeartbeats 4000000 in
theorem mm_he_mono {r : mm_R} {st st' : List Value} {w w' : mm_W} (h : mm_he r st w = some (st', w')) : w.1.length ≤ w'.1.length ∧ sm_sz w.1 ≤ sm_sz w'.1 := by
  have eqs : ∀ {a b : mm_W}, a.1 = b.1 → a.1.length ≤ b.1.length ∧ sm_sz a.1 ≤ sm_sz b.1 := fun h => by rw [h]; exact ⟨Nat.le_refl _, Nat.le_refl _⟩
  have eq2 : ∀ {a b : mm_W}, a.1.length = b.1.length ∧ sm_sz a.1 = sm_sz b.1 → a.1.length ≤ b.1.length ∧ sm_sz a.1 ≤ sm_sz b.1 := fun h => ⟨Nat.le_of_eq h.1, Nat.le_of_eq h.2⟩
  obtain ⟨ins, ⟨pc, len⟩, ⟨a, b, c0⟩, ⟨z, zz⟩, ts⟩ := r
  unfold mm_he at h
  dsimp only at h
  cases ins
  case getfield n =>
    dsimp only at h
    split at h
    · split at h
      · cases h; exact eqs rfl
      · cases h
    · cases h
  case putfield n =>
    dsimp only at h
    split at h
    · split at h
      · rename_i hp; cases h; exact eq2 (mm_pf_mono hp)
      · cases h
    · cases h
  case iaload =>
    dsimp only at h
    split at h
    · split at h
      · cases h; exact eqs rfl
      · cases h
    · cases h
  case baload =>
    dsimp only at h
    split at h
    · split at h
      · cases h; exact eqs rfl
      · cases h
    · cases h
  case laload =>
    dsimp only at h
    split at h
    · split at h
      · cases h; exact eqs rfl
      · cases h
    · cases h
  case aaload =>
    dsimp only at h
    split at h
    · split at h
      · cases h; exact eqs rfl
      · cases h
    · cases h
  case iastore =>
    dsimp only at h
    split at h
    · split at h
      · rename_i hp; cases h; exact eqs (mm_ias_mono hp)
      · cases h
    · cases h
  case bastore =>
    dsimp only at h
    split at h
    · split at h
      · rename_i hp; cases h; exact eqs (mm_bas_mono hp)
      · cases h
    · cases h
  case lastore =>
    dsimp only at h
    split at h
    · split at h
      · rename_i hp; cases h; exact eqs (mm_las_mono hp)
      · cases h
    · cases h
  case aastore =>
    dsimp only at h
    split at h
    · split at h
      · rename_i hp; cases h; exact eq2 (mm_aas_mono hp)
      · cases h
    · cases h
  case arraylength =>
    dsimp only at h
    split at h
    · split at h
      · cases h; exact eqs rfl
      · cases h
    · cases h
  case new n => cases h; exact mm_new_mono w _
  case newarray n =>
    dsimp only at h
    split at h
    · split at h
      · cases h
      · cases h; exact mm_new_mono w _
    · cases h
  case anewarray n =>
    dsimp only at h
    split at h
    · split at h
      · cases h
      · cases h; exact mm_new_mono w _
    · cases h
  case invokespecial n =>
    dsimp only at h
    split at h
    · split at h
      · cases h; exact eqs rfl
      · cases h
    · cases h
  case invokestatic n =>
    dsimp only at h
    split at h
    · exact eqs (mm_cp_mono h)
    · split at h
      · split at h
        · cases h; exact eqs rfl
        · cases h
      · cases h
    · split at h
      · split at h
        · cases h; exact eqs rfl
        · cases h
      · cases h
    · split at h
      · split at h
        · cases h; exact eqs rfl
        · cases h
      · cases h
    · cases h
  all_goals cases h
theorem mm_stp_mono {r : mm_R} {i : Nat} {L : mm_L} {st : List Value} {w : mm_W} {c : mm_C} (h : mm_stp r i L st w = some c) : w.1.length ≤ c.2.2.2.1.length ∧ sm_sz w.1 ≤ sm_sz c.2.2.2.1 := by
  unfold mm_stp at h
  split at h
  · cases h; exact ⟨Nat.le_refl _, Nat.le_refl _⟩
  · split at h
    · cases h; exact ⟨Nat.le_refl _, Nat.le_refl _⟩
    · split at h
      · cases h; exact ⟨Nat.le_refl _, Nat.le_refl _⟩
      · split at h
        · rename_i hp; cases h; exact mm_he_mono hp
        · cases h
theorem mm_exec_mono : ∀ (f d y i : Nat) (L : mm_L) (st : List Value) (w : mm_W) (x : Option Value × mm_W), mm_exec f d y i L st w = some x → w.1.length ≤ x.2.1.length ∧ sm_sz w.1 ≤ sm_sz x.2.1 := by
  intro f
  induction f with
  | zero => intro d y i L st w x h; simp [mm_exec] at h
  | succ f ih =>
    intro d y i L st w x h
    rw [mm_exec] at h
    cases hr : mm_rw (mm_rows y) i with
    | none => rw [hr] at h; cases h
    | some r =>
      rw [hr] at h
      dsimp only at h
      cases hs : mm_stp r i L st w with
      | some c =>
        rw [hs] at h
        have a1 := mm_stp_mono hs
        have a2 := ih _ _ _ _ _ _ _ h
        exact ⟨Nat.le_trans a1.1 a2.1, Nat.le_trans a1.2 a2.2⟩
      | none =>
        rw [hs] at h
        dsimp only at h
        cases hv : mm_ret r st with
        | some v => rw [hv] at h; cases h; exact ⟨Nat.le_refl _, Nat.le_refl _⟩
        | none =>
          rw [hv] at h
          dsimp only at h
          cases d with
          | zero => cases h
          | succ d =>
            dsimp only at h
            cases hc : mm_cl r st with
            | none => rw [hc] at h; cases h
            | some q =>
              rw [hc] at h
              dsimp only at h
              cases hrc : mm_rc r q.1 q.2.1 w with
              | false => rw [hrc] at h; cases h
              | true =>
              rw [hrc] at h
              dsimp only at h
              cases ht : mm_T q.1 with
              | none => rw [ht] at h; cases h
              | some t =>
                rw [ht] at h
                dsimp only at h
                cases hu : mm_exec f d q.1 0 (mm_ent t.1 q.2.1) [] w with
                | none => rw [hu] at h; cases h
                | some u =>
                  rw [hu] at h
                  have a1 := ih _ _ _ _ _ _ _ hu
                  have a2 := ih _ _ _ _ _ _ _ h
                  exact ⟨Nat.le_trans a1.1 a2.1, Nat.le_trans a1.2 a2.2⟩
section
variable {p : Program} {l : Launch} {e : Env} {R : Room} {s : State} {m : MethodId} {args : Array Value} {below : List Frame} {meth : Method} {c : Code} {H : Heap} {locs : List Loc} {cells slots : Nat} {Q : State → Prop}
variable {bs : Nat} {cy : Nat → ClassId} {ad : Nat → Nat} {fm : Value} {Dg : va_G} {Ls : Nat} {xs : Nat → Int32} {Y : MethodName × ByteArray × Option FieldType} {RR : List (List mm_R)} {i i' hh ml d : Nat} {r r' : mm_R} {ls : Array Slot} {st st' : List Value} {L L' : mm_L} {w w' : mm_W}
set_option maxHeartbeats 8000000 in
set_option maxRecDepth 100000 in
theorem sm_he (hE : sm_En p R s m args meth c Y ml d) (hSt : sm_St bs cy ad fm Dg Ls xs s) (hwf : sm_wf Ls xs w.1) (had : ∀ j, 14 ≤ j → ad j = bs + (j - 14)) (hn : s.heap.size + cells = bs + (w.1.length - 14)) (hbs : bs ≤ s.heap.size) (hls : c.maxLocals = ls.size) (hP : va_P Dg vwCl (sm_w bs cy ad fm w) H) (hS : va_S (sm_A bs) s.heap H locs) (ok : mm_ok Y RR i hh r = true) (h : mm_he r st w = some (st', w')) (hroom : cells + (w'.1.length - w.1.length) ≤ R.cells ∧ slots + (sm_sz w'.1 - sm_sz w.1) ≤ R.slots)
    (k : ∀ (H1 : Heap) (locs1 : List Loc), sm_wf Ls xs w'.1 → va_P Dg vwCl (sm_w bs cy ad fm w') H1 → va_S (sm_A bs) s.heap H1 locs1 → W p l e R s m args below meth c H1 locs1 (cells + (w'.1.length - w.1.length)) (slots + (sm_sz w'.1 - sm_sz w.1)) Q (F0 m (r.2.1.1 + r.2.1.2) ls (st'.map (sm_v ad fm)))) : W p l e R s m args below meth c H locs cells slots Q (F0 m r.2.1.1 ls (st.map (sm_v ad fm))) := by
  have hd := (mm_ok_d ok).1
  have hfm := hSt.2.2.2.2.2.2.2.2.2
  have hfc := sm_St_fm hSt
  obtain ⟨ins, ⟨pc, len⟩, ⟨a, b, c0⟩, ⟨z, zz⟩, ts⟩ := r
  unfold mm_ok at ok
  rw [Bool.and_eq_true] at ok
  replace ok := ok.2
  unfold mm_he at h
  dsimp only at h ok hd k ⊢
  have same : ∀ (H1 : Heap) (locs1 : List Loc), sm_wf Ls xs w'.1 → w'.1.length = w.1.length → sm_sz w'.1 = sm_sz w.1 → va_P Dg vwCl (sm_w bs cy ad fm w') H1 → va_S (sm_A bs) s.heap H1 locs1 → W p l e R s m args below meth c H1 locs1 cells slots Q (F0 m (pc + len) ls (st'.map (sm_v ad fm))) := by
    intro H1 locs1 h1 h2 h3 h4 h5
    have k1 := k H1 locs1 h1 h4 h5
    rw [h2, h3, Nat.sub_self, Nat.sub_self, Nat.add_zero, Nat.add_zero] at k1
    exact k1
  cases ins
  case getfield n =>
    dsimp only at h ok
    rw [Bool.and_eq_true, decide_eq_true_eq] at ok
    obtain ⟨rfl, ok⟩ := ok
    split at h
    · split at h
      · rename_i hg
        cases h
        exact sm_gf hE hSt hwf had hP hS hd ok hg (same H locs hwf rfl rfl hP hS)
      · cases h
    · cases h
  case putfield n =>
    dsimp only at h ok
    simp only [Bool.and_eq_true, decide_eq_true_eq] at ok
    obtain ⟨⟨⟨⟨rfl, o1⟩, o2⟩, o3⟩, ok⟩ := ok
    split at h
    · split at h
      · rename_i hg
        cases h
        exact sm_pf hE hSt hwf had hP hS hd o1 o2 o3 (by simpa only [Bool.and_eq_true, decide_eq_true_eq] using ok) hg (fun H1 locs1 g1 g2 g3 g4 g5 => same H1 locs1 g1 g2 g3 g4 g5)
      · cases h
    · cases h
  case iaload =>
    simp only [decide_eq_true_eq] at ok
    subst ok
    dsimp only at h
    split at h
    · split at h
      · rename_i hg
        cases h
        exact sm_ial hE hSt hwf had hP hS hd hg (same H locs hwf rfl rfl hP hS)
      · cases h
    · cases h
  case baload =>
    simp only [decide_eq_true_eq] at ok
    subst ok
    dsimp only at h
    split at h
    · split at h
      · rename_i hg
        cases h
        exact sm_bal hE hSt hwf had hP hS hd hg (same H locs hwf rfl rfl hP hS)
      · cases h
    · cases h
  case laload =>
    simp only [decide_eq_true_eq] at ok
    subst ok
    dsimp only at h
    split at h
    · split at h
      · rename_i hg
        cases h
        exact sm_lal hE hSt hwf had hP hd hg (same H locs hwf rfl rfl hP hS)
      · cases h
    · cases h
  case aaload =>
    simp only [decide_eq_true_eq] at ok
    subst ok
    dsimp only at h
    split at h
    · split at h
      · rename_i hg
        cases h
        exact sm_aal hE hSt hwf had hP hd hg (same H locs hwf rfl rfl hP hS)
      · cases h
    · cases h
  case iastore =>
    simp only [decide_eq_true_eq] at ok
    subst ok
    dsimp only at h
    split at h
    · split at h
      · rename_i hg
        cases h
        exact sm_ias hE hSt hwf had hP hS hd hg (fun H1 locs1 g1 g4 g5 => same H1 locs1 (by rw [g1]; exact hwf) (by rw [g1]) (by rw [g1]) g4 g5)
      · cases h
    · cases h
  case bastore =>
    simp only [decide_eq_true_eq] at ok
    subst ok
    dsimp only at h
    split at h
    · split at h
      · rename_i hg
        cases h
        exact sm_bas hE hSt hwf had hP hS hd hg (fun H1 locs1 g1 g4 g5 => same H1 locs1 (by rw [g1]; exact hwf) (by rw [g1]) (by rw [g1]) g4 g5)
      · cases h
    · cases h
  case lastore =>
    simp only [decide_eq_true_eq] at ok
    subst ok
    dsimp only at h
    split at h
    · split at h
      · rename_i hg
        cases h
        exact sm_las hE hSt hwf had hP hS hd hg (fun H1 locs1 g1 g4 g5 => same H1 locs1 (by rw [g1]; exact hwf) (by rw [g1]) (by rw [g1]) g4 g5)
      · cases h
    · cases h
  case aastore =>
    simp only [decide_eq_true_eq] at ok
    subst ok
    dsimp only at h
    split at h
    · split at h
      · rename_i hg
        cases h
        exact sm_aas hE hSt hwf had hP hS hd hg (fun H1 locs1 g1 g2 g3 g4 g5 => same H1 locs1 g1 g2 g3 g4 g5)
      · cases h
    · cases h
  case arraylength =>
    simp only [decide_eq_true_eq] at ok
    subst ok
    dsimp only at h
    split at h
    · split at h
      · rename_i hg
        cases h
        exact sm_al hE hSt hwf had hP hS hd hg (same H locs hwf rfl rfl hP hS)
      · cases h
    · cases h
  case new n =>
    dsimp only at h ok
    simp only [Bool.and_eq_true, decide_eq_true_eq] at ok
    obtain ⟨⟨rfl, o1⟩, o2⟩ := ok
    cases h
    have e1 : (mm_new w (0, a, (fun _ => 0), List.replicate (mm_N.getD a 0) none)).1.length - w.1.length = 1 := by
      show (w.1 ++ [_]).length - _ = 1
      rw [List.length_append]; simp
    have e2 : sm_sz (mm_new w (0, a, (fun _ => 0), List.replicate (mm_N.getD a 0) none)).1 - sm_sz w.1 = mm_N.getD a 0 := by
      show sm_sz (w.1 ++ [_]) - _ = _
      rw [sm_sz_push]; simp
    rw [e1, e2] at hroom k
    exact sm_nw hE hSt hwf had hn hbs hP hS hd o1 o2 hroom.1 hroom.2 (fun H1 g1 g2 g3 => k H1 locs g1 g2 g3)
  case newarray n =>
    dsimp only at h ok
    rw [Bool.and_eq_true, decide_eq_true_eq] at ok
    obtain ⟨rfl, ok⟩ := ok
    split at h
    · rename_i j s1
      split at h
      · cases h
      · rename_i hj
        cases h
        have ha : a ≠ 0 := by
          intro ha
          subst ha
          cases n <;> simp at ok
        have e1 : (mm_new w (a, j.toNatClampNeg, (fun _ => 0), [])).1.length - w.1.length = 1 := by
          show (w.1 ++ [_]).length - _ = 1
          rw [List.length_append]; simp
        have e2 : sm_sz (mm_new w (a, j.toNatClampNeg, (fun _ => 0), [])).1 - sm_sz w.1 = j.toNatClampNeg := by
          show sm_sz (w.1 ++ [_]) - _ = _
          rw [sm_sz_push]; simp [ha]
        rw [e1, e2] at hroom k
        exact sm_na hE hSt hwf had hn hbs hP hS hd ok (fun z => hj (Or.inl z)) (Nat.not_lt.mp (fun z => hj (Or.inr z))) hroom.1 hroom.2 (fun H1 g1 g2 g3 => k H1 locs g1 g2 g3)
    · cases h
  case anewarray n =>
    dsimp only at h ok
    rw [Bool.and_eq_true, decide_eq_true_eq] at ok
    obtain ⟨rfl, ok⟩ := ok
    split at h
    · rename_i j s1
      split at h
      · cases h
      · rename_i hj
        cases h
        have ha : a ≠ 0 := by
          intro ha
          subst ha
          simp at ok
        have e1 : (mm_new w (a, j.toNatClampNeg, (fun _ => 0), List.replicate j.toNatClampNeg none)).1.length - w.1.length = 1 := by
          show (w.1 ++ [_]).length - _ = 1
          rw [List.length_append]; simp
        have e2 : sm_sz (mm_new w (a, j.toNatClampNeg, (fun _ => 0), List.replicate j.toNatClampNeg none)).1 - sm_sz w.1 = j.toNatClampNeg := by
          show sm_sz (w.1 ++ [_]) - _ = _
          rw [sm_sz_push]; simp [ha]
        rw [e1, e2] at hroom k
        exact sm_nq hE hSt hwf had hn hbs hP hS hd ok (fun z => hj (Or.inl z)) (Nat.not_lt.mp (fun z => hj (Or.inr z))) hroom.1 hroom.2 (fun H1 g1 g2 g3 => k H1 locs g1 g2 g3)
    · cases h
  case invokespecial n =>
    dsimp only at h ok
    rw [Bool.and_eq_true, decide_eq_true_eq] at ok
    obtain ⟨rfl, ok⟩ := ok
    split at h
    · rename_i x s1
      split at h
      · rename_i hw8
        cases h
        rw [Bool.and_eq_true] at hw8
        have hx13 : x ≠ 13 := by simpa using hw8.2
        have hw8 : mm_wd s1 ≤ 8 := Nat.le_of_ble_eq_true hw8.1
        have k1 := same H locs hwf rfl rfl hP hS
        obtain ⟨hx, hb, hr, hml, hown, hts, hlocks, hnm, hfr, hlo⟩ := hE
        dsimp only at ok
        rw [List.map_cons, sm_ref hx13]
        refine W.objInit hx hb hown (hts _ (mm_has_mem ok)) (hts _ sm_wo1) (hts _ sm_wo2) rfl hls.symm rfl hd (by omega) ?_ k1
        show 2 * 0 + _ + 12 ≤ _
        rw [sm_wdc hfc]
        omega
      · cases h
    · cases h
  case invokestatic n =>
    dsimp only at h ok
    rw [Bool.and_eq_true, decide_eq_true_eq] at ok
    obtain ⟨rfl, ok⟩ := ok
    split at h
    · exact sm_cp hE hSt hwf had hls hP hS hd ok h (fun H1 locs1 g1 g4 g5 => same H1 locs1 (by rw [g1]; exact hwf) (by rw [g1]) (by rw [g1]) g4 g5)
    · split at h
      · split at h
        · rename_i hw8
          cases h
          have hw8 := Nat.le_of_ble_eq_true hw8
          have k1 := same H locs hwf rfl rfl hP hS
          obtain ⟨hx, hb, hr, hml, hown, hts, hlocks, hnm, hfr, hlo⟩ := hE
          exact va_mmax hx hb hls hown (hts _ (mm_has_mem ok)) (hts _ sm_wmx1) (hts _ sm_wm) (hts _ sm_wmx2) (by omega) (by rw [sm_wdc hfc]; omega) (by omega) (by omega) hd k1
        · cases h
      · cases h
    · split at h
      · split at h
        · rename_i hw8
          cases h
          have hw8 := Nat.le_of_ble_eq_true hw8
          have k1 := same H locs hwf rfl rfl hP hS
          obtain ⟨hx, hb, hr, hml, hown, hts, hlocks, hnm, hfr, hlo⟩ := hE
          exact va_mmin hx hb hls hown (hts _ (mm_has_mem ok)) (hts _ sm_wmn1) (hts _ sm_wm) (hts _ sm_wmn2) (by omega) (by rw [sm_wdc hfc]; omega) (by omega) (by omega) hd k1
        · cases h
      · cases h
    · split at h
      · split at h
        · rename_i hw8
          cases h
          have hw8 := Nat.le_of_ble_eq_true hw8
          have k1 := same H locs hwf rfl rfl hP hS
          obtain ⟨hx, hb, hr, hml, hown, hts, hlocks, hnm, hfr, hlo⟩ := hE
          exact va_mabs_long hx hb hls hown (hts _ (mm_has_mem ok)) (hts _ sm_wma1) (hts _ sm_wm) (hts _ sm_wma2) (by omega) (by rw [sm_wdc hfc]; omega) (by omega) (by omega) hd k1
        · cases h
      · cases h
    · cases h
  all_goals cases h
end
end
section
theorem sm_good_in {ws : List Cond} (h : ∀ w ∈ ws, w ∈ mm_good) : GoodIn mm_good ws := fun w hw => ⟨h w hw, good_of_word (List.mem_filter.mp (h w hw)).2⟩
def sm_rm (d mc ms : Nat) : Room := { frames := d + 1, cells := mc, slots := ms, locals := 64 * (d + 1) }
def sm_Q (bs : Nat) (cy : Nat → ClassId) (ad : Nat → Nat) (fm : Value) (Dg : va_G) (Ls : Nat) (xs : Nat → Int32) (w1 : mm_W) (v1 : Option Value) : Array Value → State → Outcome → State → Prop := fun _ st oc t => oc = .returned (v1.map (sm_v ad fm)) ∧ sm_wf Ls xs w1.1 ∧ va_P Dg vwCl (sm_w bs cy ad fm w1) t.heap ∧ va_F (sm_A bs) st t
def sm_Pc (bs : Nat) (cy : Nat → ClassId) (ad : Nat → Nat) (fm : Value) (Dg : va_G) (Ls : Nat) (xs : Nat → Int32) (as : List Value) (w : mm_W) : Array Value → State → Prop := fun v U => v = (as.map (sm_v ad fm)).toArray ∧ sm_St bs cy ad fm Dg Ls xs U ∧ U.heap.size = bs + (w.1.length - 14) ∧ va_P Dg vwCl (sm_w bs cy ad fm w) U.heap
theorem sm_ret_inv {r : mm_R} {st : List Value} {v : Option Value} (h : mm_ret r st = some v) : st = v.toList := by
  unfold mm_ret at h
  split at h
  · split at h
    · split at h
      · cases h; rfl
      · split at h
        · cases h; rfl
        · cases h
      · split at h
        · cases h; rfl
        · cases h
      · split at h
        · cases h; rfl
        · cases h
    · cases h
  · split at h
    · cases h; rfl
    · cases h
  · split at h
    · cases h; rfl
    · cases h
  · split at h
    · cases h; rfl
    · cases h
  · cases h
theorem sm_ent_ld {ad : Nat → Nat} {fm : Value} (hfc : fm.category = 1) : ∀ (as : List Value) (k i : Nat) (v : Value), mm_ld (mm_sl as) i = some v → (k + i, sm_v ad fm v) ∈ lv_args k (as.map (sm_v ad fm))
  | [], k, i, v, h => by simp [mm_sl, mm_ld] at h
  | a :: as, k, i, v, h => by
    rw [List.map_cons, lv_args, sm_v_cat hfc]
    have one : a.category = 1 → mm_ld (some a :: mm_sl as) i = some v → (k + i, sm_v ad fm v) ∈ (k, sm_v ad fm a) :: lv_args (if a.category = 2 then k + 2 else k + 1) (as.map (sm_v ad fm)) := by
      intro hc h1
      rw [if_neg (by omega)]
      cases i with
      | zero =>
        have : a = v := by simpa [mm_ld] using h1
        rw [this]
        exact List.mem_cons_self
      | succ i =>
        have h2 : mm_ld (mm_sl as) i = some v := by simpa [mm_ld] using h1
        have := sm_ent_ld hfc as (k + 1) i v h2
        rw [show k + (i + 1) = k + 1 + i by omega]
        exact List.mem_cons_of_mem _ this
    have two : a.category = 2 → mm_ld (some a :: none :: mm_sl as) i = some v → (k + i, sm_v ad fm v) ∈ (k, sm_v ad fm a) :: lv_args (if a.category = 2 then k + 2 else k + 1) (as.map (sm_v ad fm)) := by
      intro hc h1
      rw [if_pos hc]
      match i, h1 with
      | 0, h1 =>
        have : a = v := by simpa [mm_ld] using h1
        rw [this]
        exact List.mem_cons_self
      | 1, h1 => simp [mm_ld] at h1
      | i + 2, h1 =>
        have h2 : mm_ld (mm_sl as) i = some v := by simpa [mm_ld] using h1
        have := sm_ent_ld hfc as (k + 2) i v h2
        rw [show k + (i + 2) = k + 2 + i by omega]
        exact List.mem_cons_of_mem _ this
    cases a <;> rw [mm_sl] at h <;> first | exact one rfl h | exact two rfl h | skip
    all_goals first | (intro x y; intro hh; cases hh) | (intro x; intro hh; cases hh)
theorem sm_ent_len {ad : Nat → Nat} {fm : Value} (hfc : fm.category = 1) : ∀ (as : List Value), (lg_sl (as.map (sm_v ad fm))).length = (mm_sl as).length
  | [] => rfl
  | a :: as => by
    have ih := sm_ent_len (ad := ad) hfc as
    unfold lg_sl at ih ⊢
    rw [List.map_cons, List.flatMap_cons, List.length_append, ih, sm_v_cat hfc]
    cases a <;> simp [mm_sl, Value.category] <;> omega
section
variable {p : Program} {l : Launch} {e : Env} {R : Room} {s : State} {m : MethodId} {args : Array Value} {below : List Frame} {meth : Method} {c : Code} {H : Heap} {locs : List Loc} {cells slots : Nat} {Q : State → Prop}
variable {bs : Nat} {cy : Nat → ClassId} {ad : Nat → Nat} {fm : Value} {Dg : va_G} {Ls : Nat} {xs : Nat → Int32} {Y : MethodName × ByteArray × Option FieldType} {RR : List (List mm_R)} {i i' hh ml d : Nat} {r r' : mm_R} {ls : Array Slot} {st st' : List Value} {L L' : mm_L} {w w' : mm_W}
set_option maxHeartbeats 4000000 in
theorem sm_step (hE : sm_En p R s m args meth c Y ml d) (hSt : sm_St bs cy ad fm Dg Ls xs s) (hwf : sm_wf Ls xs w.1) (had : ∀ j, 14 ≤ j → ad j = bs + (j - 14)) (hn : s.heap.size + cells = bs + (w.1.length - 14)) (hbs : bs ≤ s.heap.size) (hls : c.maxLocals = ls.size) (hl : sm_l ad fm ls L) (hP : va_P Dg vwCl (sm_w bs cy ad fm w) H) (hS : va_S (sm_A bs) s.heap H locs) (ok : mm_ok Y RR i hh r = true) (h : mm_stp r i L st w = some (i', L', st', w')) (hr' : mm_rw RR i' = some r') (hroom : cells + (w'.1.length - w.1.length) ≤ R.cells ∧ slots + (sm_sz w'.1 - sm_sz w.1) ≤ R.slots)
    (k : ∀ (H1 : Heap) (locs1 : List Loc) (ls1 : Array Slot), sm_wf Ls xs w'.1 → sm_l ad fm ls1 L' → L'.length = L.length → va_P Dg vwCl (sm_w bs cy ad fm w') H1 → va_S (sm_A bs) s.heap H1 locs1 → W p l e R s m args below meth c H1 locs1 (cells + (w'.1.length - w.1.length)) (slots + (sm_sz w'.1 - sm_sz w.1)) Q (F0 m r'.2.1.1 ls1 (st'.map (sm_v ad fm)))) : W p l e R s m args below meth c H locs cells slots Q (F0 m r.2.1.1 ls (st.map (sm_v ad fm))) := by
  have hnx := (mm_ok_d ok).2
  have hfm := hSt.2.2.2.2.2.2.2.2.2
  unfold mm_stp at h
  split at h
  · rename_i st1 hop
    cases h
    have k1 := k H locs ls hwf hl rfl hP hS
    rw [Nat.sub_self, Nat.sub_self, Nat.add_zero, Nat.add_zero, mm_pcis_at hnx hr'] at k1
    exact sm_op hE hSt hS ok hop k1
  · split at h
    · rename_i L1 st1 hlo
      cases h
      refine sm_lo hE hfm hl ok hlo (fun ls1 g1 g2 => ?_)
      have k1 := k H locs ls1 hwf g1 g2 hP hS
      rw [Nat.sub_self, Nat.sub_self, Nat.add_zero, Nat.add_zero, mm_pcis_at hnx hr'] at k1
      exact k1
    · split at h
      · rename_i i1 st1 hjp
        cases h
        have k1 := k H locs ls hwf hl rfl hP hS
        rw [Nat.sub_self, Nat.sub_self, Nat.add_zero, Nat.add_zero] at k1
        exact sm_jp hE hfm ok hjp hr' k1
      · split at h
        · rename_i st1 w1 hhe
          cases h
          refine sm_he hE hSt hwf had hn hbs hls hP hS ok hhe hroom (fun H1 locs1 g1 g2 g3 => ?_)
          have k1 := k H1 locs1 ls g1 hl rfl g2 g3
          rw [mm_pcis_at hnx hr'] at k1
          exact k1
        · cases h
theorem sm_callg {mc ms pc : Nat} {st0 rest : List Value} {a : Array Value} {w1 : mm_W} {v1 : Option Value} (hr : va_Run p l e R s m args below meth c H locs cells slots mc ms (F0 m pc ls st0) rest (sm_Q bs cy ad fm Dg Ls xs w1 v1 a) (sm_A bs)) (hS : va_S (sm_A bs) s.heap H locs)
    (kk : ∀ (H1 : Heap) (locs1 : List Loc), sm_wf Ls xs w1.1 → va_P Dg vwCl (sm_w bs cy ad fm w1) H1 → va_S (sm_A bs) s.heap H1 locs1 → W p l e R s m args below meth c H1 locs1 (cells + mc) (slots + ms) Q (F0 m (pc + 3) ls ((v1.map (sm_v ad fm)).toList ++ rest))) : W p l e R s m args below meth c H locs cells slots Q (F0 m pc ls st0) := by
  intro T hT X
  obtain ⟨v, st₀, t, T', LL, h0, X', hL, e1, e2, ⟨hv, hwf1, hP1, hz, hk⟩, st⟩ := hr T hT X
  cases hv
  rw [h0] at hz hk
  obtain ⟨t2, a1, b1⟩ := kk T'.heap (locs ++ LL) hwf1 (by rw [e1]; exact hP1)
    ⟨Nat.le_trans hS.1 (by rw [e1]; exact hz), fun q h1 h2 => by rw [e1, hk q (Nat.lt_of_lt_of_le h1 hS.1) h2]; exact hS.2.1 q h1 h2, fun q hq => by
      rcases List.mem_append.mp hq with h | h
      · exact hS.2.2 q h
      · exact hL q h⟩ T' rfl X'
  exact ⟨t2, st t2 a1, b1⟩
/-- a method's end -/
theorem sm_end {v : Option Value} (hE : sm_En p R s m args meth c Y ml d) (hfm : fm = .null ∨ ∃ t, fm = .ref t) (hwf : sm_wf Ls xs w.1) (hP : va_P Dg vwCl (sm_w bs cy ad fm w) H) (hS : va_S (sm_A bs) s.heap H locs) (ok : mm_ok Y RR i hh r = true) (h : mm_ret r v.toList = some v) : W p l e R s m args below meth c H locs cells slots (MQ below (sm_Q bs cy ad fm Dg Ls xs w v) args s cells slots (sm_A bs)) (F0 m r.2.1.1 ls (v.toList.map (sm_v ad fm))) := by
  obtain ⟨hx, hb, hr, hml, hown, hts, hlocks, hnm, hfr, hlo⟩ := hE
  have hd := (mm_ok_d ok).1
  obtain ⟨ins, ⟨pc, len⟩, ⟨a, b, c0⟩, ⟨z, zz⟩, ts⟩ := r
  unfold mm_ok at ok
  rw [Bool.and_eq_true] at ok
  replace ok := ok.2
  unfold mm_ret at h
  dsimp only at h ok hd ⊢
  have fin : ∀ t : State, t.heap = H → s.WarmedH t.vm → sm_Q bs cy ad fm Dg Ls xs w v args s (.returned (v.map (sm_v ad fm))) t := fun t ht _ => ⟨rfl, hwf, by rw [ht]; exact hP, hS.F ht⟩
  cases ins
  case ireturn =>
    dsimp only at h ok
    rw [Bool.and_eq_true, decide_eq_true_eq] at ok
    obtain ⟨rfl, ok⟩ := ok
    split at h
    · rename_i x hst
      split at h
      · cases h
        simp only [decide_eq_true_eq] at ok
        exact W.iret hx hb (by rw [hr]; exact ok) fin hS.2.2 hd hlocks
      · split at h
        · rename_i h01
          cases h
          simp only [decide_eq_true_eq] at ok
          exact W.zret hx hb (by rw [hr]; exact ok) (by rcases h01 with rfl | rfl <;> rfl) fin hS.2.2 hd hlocks
        · cases h
      · split at h
        · rename_i h01
          cases h
          simp only [decide_eq_true_eq] at ok
          exact W.zret hx hb (by rw [hr]; exact ok) (by
            have e1 : narrow .char (.int x) = .int (vp_nar .char x) := rfl
            rw [e1, h01]) fin hS.2.2 hd hlocks
        · cases h
      · split at h
        · rename_i h01
          cases h
          simp only [decide_eq_true_eq] at ok
          exact W.zret hx hb (by rw [hr]; exact ok) (by
            have e1 : narrow .byte (.int x) = .int (vp_nar .byte x) := rfl
            rw [e1, h01]) fin hS.2.2 hd hlocks
        · cases h
    · cases h
  case lreturn =>
    dsimp only at h ok
    simp only [Bool.and_eq_true, decide_eq_true_eq] at ok
    obtain ⟨rfl, ok⟩ := ok
    split at h
    · cases h
      exact W.lret hx hb (by rw [hr]; exact ok) fin hS.2.2 hd hlocks
    · cases h
  case areturn =>
    dsimp only at h ok
    simp only [Bool.and_eq_true, decide_eq_true_eq] at ok
    obtain ⟨rfl, ok⟩ := ok
    split at h
    · rename_i x hst
      cases h
      exact W.aret hx hb (by rw [hr]; exact ok) (Or.inr ⟨_, rfl⟩) (sm_vr hfm x) fin hS.2.2 hd hlocks
    · cases h
  case return_ =>
    dsimp only at h ok
    simp only [Bool.and_eq_true, decide_eq_true_eq] at ok
    obtain ⟨rfl, ok⟩ := ok
    split at h
    · cases h
      exact W.vret hx hb (by rw [hr]; exact ok) fin hS.2.2 hd hlocks
    · cases h
  all_goals cases h
end
end
section
theorem sm_pc0 : ∀ y, y < 204 → (mm_rw (mm_rows y) 0).map (fun r => r.2.1.1) = some 0 := by decide +kernel
theorem sm_rkc : ∀ y, y < 203 → (mm_rk y < 10 → (mm_T1 (mm_rk y)).1 = (mm_I y).1.cls) ∧ (mm_rk y = 10 → (mm_I y).1.cls = "java/lang/String") ∧ ((mm_I y).1.name = "<init>" → (mm_I y).2.2 = none) := by decide +kernel
theorem mm_exec_row {f d y i : Nat} {L : mm_L} {st : List Value} {w : mm_W} {x : Option Value × mm_W} (h : mm_exec f d y i L st w = some x) : ∃ r, mm_rw (mm_rows y) i = some r := by
  cases f with
  | zero => simp [mm_exec] at h
  | succ f =>
    rw [mm_exec] at h
    cases hr : mm_rw (mm_rows y) i with
    | none => rw [hr] at h; cases h
    | some r => exact ⟨r, rfl⟩
theorem mm_cl_inv {r : mm_R} {st as rest : List Value} {y : Nat} (h : mm_cl r st = some (y, as, rest)) : st = as.reverse ++ rest ∧ as.length = r.2.2.1.2.1 ∧ mm_wd rest ≤ 8 ∧ r.2.2.1.2.2 < 4 ∧ y = r.2.2.1.1 ∧ ((∃ n, r.1 = .invokevirtual n) ∨ (∃ n, r.1 = .invokestatic n) ∨ ∃ n, r.1 = .invokespecial n) := by
  unfold mm_cl at h
  split at h
  · rename_i h1 h2
    rw [Bool.and_eq_true] at h1
    have b1 : r.2.2.1.2.1 ≤ st.length := Nat.le_of_ble_eq_true h1.1
    have b2 := Nat.le_of_ble_eq_true h1.2
    have b3 : r.2.2.1.2.2 < 4 := mm_blt h2
    have key : (r.2.2.1.1, (st.take r.2.2.1.2.1).reverse, st.drop r.2.2.1.2.1) = (y, as, rest) → st = as.reverse ++ rest ∧ as.length = r.2.2.1.2.1 ∧ mm_wd rest ≤ 8 ∧ r.2.2.1.2.2 < 4 ∧ y = r.2.2.1.1 := by
      intro e
      cases e
      refine ⟨by rw [List.reverse_reverse, List.take_append_drop], by rw [List.length_reverse, List.length_take]; omega, b2, b3, rfl⟩
    split at h
    · rename_i n hn
      obtain ⟨k1, k2, k3, k4, k5⟩ := key (Option.some.inj h)
      exact ⟨k1, k2, k3, k4, k5, Or.inl ⟨n, hn⟩⟩
    · rename_i n hn
      obtain ⟨k1, k2, k3, k4, k5⟩ := key (Option.some.inj h)
      exact ⟨k1, k2, k3, k4, k5, Or.inr (Or.inl ⟨n, hn⟩)⟩
    · rename_i n hn
      obtain ⟨k1, k2, k3, k4, k5⟩ := key (Option.some.inj h)
      exact ⟨k1, k2, k3, k4, k5, Or.inr (Or.inr ⟨n, hn⟩)⟩
    · cases h
  · cases h
theorem sm_blind {bs : Nat} {cy : Nat → ClassId} {ad : Nat → Nat} {fm : Value} {Dg : va_G} {Ls : Nat} {xs : Nat → Int32} {as : List Value} {w : mm_W} : FrameBlind (sm_Pc bs cy ad fm Dg Ls xs as w) := fun a U g mk h => by
  obtain ⟨h1, h2, h3, h4⟩ := h
  exact ⟨h1, h2.same rfl rfl, h3, h4⟩
theorem sm_wmap {ad : Nat → Nat} {fm : Value} (v : Option Value) (rest : List Value) : (v.map (sm_v ad fm)).toList ++ rest.map (sm_v ad fm) = (v.toList ++ rest).map (sm_v ad fm) := by
  cases v <;> simp
set_option maxHeartbeats 8000000 in
set_option maxRecDepth 100000 in
theorem sm_main (l : Launch) {bs : Nat} {cy : Nat → ClassId} {ad : Nat → Nat} {fm : Value} {Dg : va_G} {Ls : Nat} {xs : Nat → Int32} (had : ∀ j, 14 ≤ j → ad j = bs + (j - 14)) : ∀ (f d y i : Nat) (L : mm_L) (st : List Value) (w : mm_W) (v : Option Value) (w' : mm_W), mm_exec f d y i L st w = some (v, w') → ∀ (ml : Nat) (RT : List (List mm_R)), mm_T y = some (ml, RT) →
    ∀ (p : Program) (e : Env) (R : Room) (s : State) (m : MethodId) (args : Array Value) (below : List Frame) (meth : Method) (c : Code) (H : Heap) (locs : List Loc) (cells slots : Nat) (Q : State → Prop) (ls : Array Slot) (r : mm_R), mm_rw (mm_rows y) i = some r → sm_En p R s m args meth c (mm_I y) ml d → sm_St bs cy ad fm Dg Ls xs s → sm_wf Ls xs w.1 → s.heap.size + cells = bs + (w.1.length - 14) → bs ≤ s.heap.size → sm_l ad fm ls L → L.length = ml → va_P Dg vwCl (sm_w bs cy ad fm w) H → va_S (sm_A bs) s.heap H locs → (cells + (w'.1.length - w.1.length) ≤ R.cells ∧ slots + (sm_sz w'.1 - sm_sz w.1) ≤ R.slots) →
    (∀ (H1 : Heap) (locs1 : List Loc) (ls1 : Array Slot) (i1 h1 : Nat) (r1 : mm_R), sm_wf Ls xs w'.1 → va_P Dg vwCl (sm_w bs cy ad fm w') H1 → va_S (sm_A bs) s.heap H1 locs1 → mm_ok (mm_I y) (mm_rows y) i1 h1 r1 = true → mm_ret r1 v.toList = some v → W p l e R s m args below meth c H1 locs1 (cells + (w'.1.length - w.1.length)) (slots + (sm_sz w'.1 - sm_sz w.1)) Q (F0 m r1.2.1.1 ls1 (v.toList.map (sm_v ad fm)))) →
    W p l e R s m args below meth c H locs cells slots Q (F0 m r.2.1.1 ls (st.map (sm_v ad fm))) := by
  intro f
  induction f with
  | zero => intro d y i L st w v w' h; simp [mm_exec] at h
  | succ f ih =>
    intro d y i L st w v w' h ml RT hT p e R s m args below meth c H locs cells slots Q ls r hr hE hSt hwf hn hbs hl hL hP hS hroom K
    obtain ⟨hh, ok⟩ := mm_aall y i r hr
    have hls : c.maxLocals = ls.size := by rw [hE.2.2.2.1, hl.1, hL]
    have h14 := hwf.len
    rw [mm_exec, hr] at h
    dsimp only at h
    cases hs : mm_stp r i L st w with
    | some c1 =>
      obtain ⟨i1, L1, st1, w1⟩ := c1
      rw [hs] at h
      dsimp only at h
      have m1 := mm_stp_mono hs
      have m2 := mm_exec_mono _ _ _ _ _ _ _ _ h
      dsimp only at m1 m2
      obtain ⟨r1, hr1⟩ := mm_exec_row h
      refine sm_step hE hSt hwf had hn hbs hls hl hP hS ok hs hr1 ⟨by omega, by omega⟩ (fun H1 locs1 ls1 g1 g2 g3 g4 g5 => ?_)
      refine ih d y i1 L1 st1 w1 v w' h ml RT hT p e R s m args below meth c H1 locs1 _ _ Q ls1 r1 hr1 hE hSt g1 (by omega) hbs g2 (by rw [g3, hL]) g4 g5 ⟨by omega, by omega⟩ (fun H2 locs2 ls2 i2 h2 r2 q1 q2 q3 q4 q5 => ?_)
      exact W.cs (by omega) (by omega) (K H2 locs2 ls2 i2 h2 r2 q1 q2 q3 q4 q5)
    | none =>
      rw [hs] at h
      dsimp only at h
      cases hv : mm_ret r st with
      | some v0 =>
        rw [hv] at h
        cases h
        have e1 := sm_ret_inv hv
        have k1 := K H locs ls i hh r hwf hP hS ok (by rw [← e1]; exact hv)
        rw [Nat.sub_self, Nat.sub_self, Nat.add_zero, Nat.add_zero] at k1
        rw [e1]
        exact k1
      | none =>
        rw [hv] at h
        dsimp only at h
        cases d with
        | zero => cases h
        | succ d =>
          dsimp only at h
          cases hc : mm_cl r st with
          | none => rw [hc] at h; cases h
          | some q =>
            obtain ⟨y', as, rest⟩ := q
            rw [hc] at h
            dsimp only at h
            cases hrc : mm_rc r y' as w with
            | false => rw [hrc] at h; cases h
            | true =>
            rw [hrc] at h
            dsimp only at h
            cases ht : mm_T y' with
            | none => rw [ht] at h; cases h
            | some t =>
              obtain ⟨ml', RT'⟩ := t
              rw [ht] at h
              dsimp only at h
              cases hu : mm_exec f d y' 0 (mm_ent ml' as) [] w with
              | none => rw [hu] at h; cases h
              | some u =>
                obtain ⟨v1, w1⟩ := u
                rw [hu] at h
                dsimp only at h
                have m1 := mm_exec_mono _ _ _ _ _ _ _ _ hu
                have m2 := mm_exec_mono _ _ _ _ _ _ _ _ h
                dsimp only at m1 m2
                obtain ⟨r1, hr1⟩ := mm_exec_row h
                obtain ⟨r0, hr0⟩ := mm_exec_row hu
                obtain ⟨c1, c2, c3, c4, c5, c6⟩ := mm_cl_inv hc
                have hfm := hSt.2.2.2.2.2.2.2.2.2
                have hfc := sm_St_fm hSt
                have hnx := (mm_ok_d ok).2
                have hdd := (mm_ok_d ok).1
                have hpc1 := mm_pcis_at hnx hr1
                unfold mm_rc at hrc
                rw [ht] at hrc
                simp only [Bool.and_eq_true] at hrc
                obtain ⟨⟨⟨hy1, hy2⟩, hy3, hy4⟩, hy5⟩ := hrc
                have hy1 : y' < 203 := mm_blt hy1
                have hy2 : y' < 2 ∨ 4 < y' := by
                  rw [Bool.or_eq_true] at hy2
                  rcases hy2 with h | h
                  · exact Or.inl (mm_blt h)
                  · exact Or.inr (mm_blt h)
                have hy3 : (mm_sl as).length ≤ ml' := Nat.le_of_ble_eq_true hy3
                have hy4 : ml' ≤ 45 := Nat.le_of_ble_eq_true hy4
                obtain ⟨a1, a2, a3, a4, hm⟩ := mm_mall y' hy1 hy2
                unfold mm_okm at hm
                rw [ht] at hm
                simp only [Bool.and_eq_true, Bool.or_eq_true, decide_eq_true_eq] at hm
                obtain ⟨⟨⟨⟨⟨n1, n2⟩, n3⟩, n4⟩, n5⟩, n6⟩ := hm
                obtain ⟨rk1, rk2, rk3⟩ := sm_rkc y' hy1
                have hpc0 : r0.2.1.1 = 0 := by
                  have := sm_pc0 y' (by omega)
                  rw [hr0] at this
                  exact Option.some.inj this
                have hM : Met l (mm_I y').1 (Cond.code (mm_I y').1 (mm_I y').2.1 ml' (mm_I y').2.2 :: mm_good) (sm_rm d (w1.1.length - w.1.length) (sm_sz w1.1 - sm_sz w.1)) (sm_Pc bs cy ad fm Dg Ls xs as w) (sm_Q bs cy ad fm Dg Ls xs w1 v1) (w1.1.length - w.1.length) (sm_sz w1.1 - sm_sz w.1) (sm_A bs) := by
                  refine Met.ofW (cc := (mm_I y').2.1) (maxL := ml') (ret := (mm_I y').2.2) n3 rfl ?_
                  intro p e s m args below meth c s₁ B hml hv
                  obtain ⟨rfl, hSt', hsz, hP'⟩ := hv
                  have hts := atoms_spec (ws := Cond.code (mm_I y').1 (mm_I y').2.1 ml' (mm_I y').2.2 :: mm_good) B.pre
                  have hent := lv_entry (as.map (sm_v ad fm)) (n := ml') (by rw [sm_ent_len hfc]; exact hy3)
                  rw [lg_entry_eq]
                  generalize (lg_sl (as.map (sm_v ad fm)) ++ List.replicate (ml' - (lg_sl (as.map (sm_v ad fm))).length) Slot.unset).toArray = ls0 at hent ⊢
                  have hLl : (mm_ent ml' as).length = ml' := by
                    unfold mm_ent
                    rw [List.length_append, List.length_replicate]
                    omega
                  have hl0 : sm_l ad fm ls0 (mm_ent ml' as) := by
                    refine ⟨by rw [hLl]; exact hent.1, hent.2.1, fun j u hju => ?_⟩
                    have hj2 : mm_ld (mm_sl as) j = some u := by
                      unfold mm_ent mm_ld at hju
                      unfold mm_ld
                      by_cases hjl : j < (mm_sl as).length
                      · rw [List.getElem?_append_left hjl] at hju
                        exact hju
                      · rw [List.getElem?_append_right (by omega), List.getElem?_replicate] at hju
                        split at hju
                        · rename_i o ho
                          split at ho
                          · cases ho; cases hju
                          · cases ho
                        · cases hju
                    have := hent.2.2 _ (sm_ent_ld (ad := ad) hfc as 0 j u hj2)
                    rw [Nat.zero_add] at this
                    exact this
                  have g := ih d y' 0 (mm_ent ml' as) [] w v1 w1 hu ml' RT' ht p e (sm_rm d (w1.1.length - w.1.length) (sm_sz w1.1 - sm_sz w.1)) s m (as.map (sm_v ad fm)).toArray below meth c s.heap [] 0 0 (MQ below (sm_Q bs cy ad fm Dg Ls xs w1 v1) (as.map (sm_v ad fm)).toArray s (w1.1.length - w.1.length) (sm_sz w1.1 - sm_sz w.1) (sm_A bs)) ls0 r0 hr0
                    ⟨B.exec, B.bytes, B.returns, hml, findClass_of_methodNamed B.named, fun x hx => hts x (List.mem_cons_of_mem _ hx), B.notSynchronized, (fun hz => (name_of_methodNamed B.named B.method).1.trans hz), Nat.le_refl _, Nat.le_refl _⟩ hSt' hwf (by rw [hsz]; omega) (by rw [hsz]; omega) hl0 hLl hP' va_S.rf ⟨by show 0 + _ ≤ w1.1.length - w.1.length; omega, by show 0 + _ ≤ sm_sz w1.1 - sm_sz w.1; omega⟩
                    (fun H1 locs1 ls1 i1 h1 r1 q1 q2 q3 q4 q5 => by
                      rw [Nat.zero_add, Nat.zero_add]
                      exact sm_end (Y := mm_I y') (ml := ml') (d := d) ⟨B.exec, B.bytes, B.returns, hml, findClass_of_methodNamed B.named, fun x hx => hts x (List.mem_cons_of_mem _ hx), B.notSynchronized, (fun hz => (name_of_methodNamed B.named B.method).1.trans hz), Nat.le_refl _, Nat.le_refl _⟩ hfm q1 q2 q3 q4 q5)
                  rw [hpc0] at g
                  exact g
                have hgo : r.2.1.2 = 3 → ∀ (H1 : Heap) (locs1 : List Loc), sm_wf Ls xs w1.1 → va_P Dg vwCl (sm_w bs cy ad fm w1) H1 → va_S (sm_A bs) s.heap H1 locs1 → W p l e R s m args below meth c H1 locs1 (cells + (w1.1.length - w.1.length)) (slots + (sm_sz w1.1 - sm_sz w.1)) Q (F0 m (r.2.1.1 + 3) ls ((v1.map (sm_v ad fm)).toList ++ rest.map (sm_v ad fm))) := by
                  intro g4 H1 locs1 g3 g1 g2
                  rw [sm_wmap]
                  have g := ih (d + 1) y (i + 1) L (v1.toList ++ rest) w1 v w' h ml RT hT p e R s m args below meth c H1 locs1 (cells + (w1.1.length - w.1.length)) (slots + (sm_sz w1.1 - sm_sz w.1)) Q ls r1 hr1 hE hSt g3 (by omega) hbs hl hL g1 g2 ⟨by omega, by omega⟩ (fun H2 locs2 ls2 i2 h2 r2 q1 q2 q3 q4 q5 => W.cs (by omega) (by omega) (K H2 locs2 ls2 i2 h2 r2 q1 q2 q3 q4 q5))
                  rw [hpc1, g4] at g
                  exact g
                refine sm_sized (fun hsz => ?_)
                have hHs : H.size = bs + (w.1.length - 14) := by
                  rcases Nat.lt_or_ge 14 w.1.length with h5 | h5
                  · have := sm_last hP h5
                    omega
                  · have := hS.1
                    omega
                obtain ⟨hx, hb, hrr, hml, hown, hts, hlocks, hnm, hfr, hlo⟩ := id hE
                have hwd8 : ((rest.map (sm_v ad fm)).map (fun v => v.category)).sum ≤ 8 := by rw [sm_wdc hfc]; exact c3
                have hroomc : (sm_rm d (w1.1.length - w.1.length) (sm_sz w1.1 - sm_sz w.1)).frames + 1 ≤ R.frames ∧ 8 + (ml' + 11) + (sm_rm d (w1.1.length - w.1.length) (sm_sz w1.1 - sm_sz w.1)).locals ≤ R.locals := ⟨by show d + 1 + 1 ≤ _; exact hfr, by show 8 + (ml' + 11) + 64 * (d + 1) ≤ _; omega⟩
                have hPcU : ∀ U : State, U.heap = H → s.WarmedH U.vm → sm_Pc bs cy ad fm Dg Ls xs as w (as.map (sm_v ad fm)).toArray U := fun U hU hW => ⟨rfl, hSt.warm hW hU hS, by rw [hU]; exact hHs, by rw [hU]; exact hP⟩
                have hrm2 : cells + (w1.1.length - w.1.length) ≤ R.cells ∧ slots + (sm_sz w1.1 - sm_sz w.1) ≤ R.slots := ⟨by omega, by omega⟩
                have hwsin : ∀ x ∈ (Cond.code (mm_I y').1 (mm_I y').2.1 ml' (mm_I y').2.2 :: mm_good), x ∈ mm_good := fun x hx => by
                  rcases List.mem_cons.mp hx with rfl | hx
                  · exact mm_has_mem n1
                  · exact hx
                clear ih hr hs hv hc h hu hT K hnx hpc1 hr1 hr0
                obtain ⟨ins, ⟨pc, len⟩, ⟨a, b, c0⟩, ⟨z, zz⟩, ts⟩ := r
                unfold mm_ok at ok
                rw [Bool.and_eq_true] at ok
                replace ok := ok.2
                dsimp only at ok hdd c2 c4 c5 c6 hgo hy5 ⊢
                subst c5
                subst c1
                rcases c6 with ⟨n, rfl⟩ | ⟨n, rfl⟩ | ⟨n, rfl⟩
                · dsimp only at ok hy5
                  rw [Bool.and_eq_true, decide_eq_true_eq] at ok
                  obtain ⟨rfl, ok⟩ := ok
                  have hc01 : c0 = 1 := by
                    rcases (show c0 = 0 ∨ c0 = 1 ∨ c0 = 2 ∨ c0 = 3 by omega) with rfl | rfl | rfl | rfl
                    · exact absurd ok (by decide)
                    · rfl
                    · exact absurd ok (by decide)
                    · exact absurd ok (by decide)
                  subst hc01
                  simp only [Bool.and_eq_true, decide_eq_true_eq] at ok
                  obtain ⟨⟨o1, o2⟩, o3⟩ := ok
                  split at hy5
                  · rename_i x as'
                    cases hxq : w.1[x]? with
                    | none => rw [hxq] at hy5; cases hy5
                    | some D =>
                      rw [hxq] at hy5
                      dsimp only at hy5
                      simp only [Bool.or_eq_true, Bool.and_eq_true, beq_iff_eq] at hy5
                      have hx13 : x ≠ 13 := by
                        intro e
                        subst e
                        have := hwf.old hxq (by decide)
                        cases this
                        rcases hy5 with ⟨h6, -⟩ | ⟨h6, -⟩ <;> cases h6
                      have hsel := (sm_kda y' hy1 hy2).2.2 (by
                        rcases hy5 with ⟨-, h6, h7⟩ | ⟨-, h6⟩
                        · have h7 : D.2.1 < 10 := mm_blt h7
                          omega
                        · omega)
                      have hrecv : ∃ cellB : Cell, H[ad x]? = some cellB ∧ cellB.vm.isStatics = false ∧ s.vm.findClass (mm_I y').1.cls = some cellB.cls := by
                        rcases hy5 with ⟨h6, h7, h8⟩ | ⟨h6, h7⟩
                        · obtain ⟨t, n0, ff, rs⟩ := D
                          have h6 : t = 0 := h6
                          have h7 : n0 = mm_rk y' := h7
                          subst h6
                          have hx14 : 14 ≤ x := hwf.new hxq (by show 0 ≤ 6; decide)
                          have hn0 : n0 < 10 := mm_blt h8
                          obtain ⟨C, T, N, k1, k2, -⟩ := sm_cls n0 hn0
                          have hC := rk1 (by rw [← h7]; exact hn0)
                          rw [← h7, k2] at hC
                          rw [had x hx14, ← hC]
                          exact va_recv hSt.1 hP (q := (C, T, N)) k1 (sm_get hxq hx14)
                        · have hO := hwf.rd hxq (by rw [h6]; decide)
                          obtain ⟨cell, e1, e2, e3, -⟩ := ((hSt.2.2.2.2.2.2.2.2.1 x D hO h6).1).kept hS.2.1
                          rw [rk2 h7]
                          exact ⟨cell, e1, e2, e3⟩
                      have hst : ((Value.ref x :: as').reverse ++ rest).map (sm_v ad fm) = (as'.map (sm_v ad fm)).reverse ++ .ref (ad x) :: rest.map (sm_v ad fm) := by
                        simp [sm_ref hx13]
                      rw [hst]
                      refine sm_callg (va_runV (C := (mm_I y').1.cls) (As := as'.map (sm_v ad fm)) (rest := rest.map (sm_v ad fm)) (b := ad x) (n := b - 1) (nL := ls.size) ⟨hx, hb, hls, hown, hts⟩ hM (cwV (b - 1) hts (sm_good_in (fun x hx => ?_)) rfl rfl rfl ⟨rfl, n4, n5, o2⟩ hroomc) ⟨sm_blind, hrecv, ?_⟩ rfl ?_ rfl rfl (lv_room hwd8) hdd hrm2) hS (hgo rfl)
                      · rcases List.mem_append.mp hx with hx | hx
                        · simp only [List.mem_cons, List.not_mem_nil, or_false] at hx
                          rcases hx with rfl | rfl | rfl | rfl
                          · exact mm_has_mem o1
                          · exact hsel.1
                          · exact hsel.2
                          · exact mm_has_mem n2
                        · exact hwsin x hx
                      · intro U hU hW
                        have g := hPcU U hU hW
                        rw [List.map_cons, sm_ref hx13] at g
                        exact g
                      · rw [List.length_map]
                        have : as'.length + 1 = b := c2
                        omega
                  · cases hy5
                · dsimp only at ok hy5
                  rw [Bool.and_eq_true, decide_eq_true_eq] at ok
                  obtain ⟨rfl, ok⟩ := ok
                  have hc01 : c0 = 0 := by
                    rcases (show c0 = 0 ∨ c0 = 1 ∨ c0 = 2 ∨ c0 = 3 by omega) with rfl | rfl | rfl | rfl
                    · rfl
                    · exact absurd ok (by decide)
                    · exact absurd ok (by decide)
                    · exact absurd ok (by decide)
                  subst hc01
                  simp only [Bool.and_eq_true, decide_eq_true_eq] at ok
                  obtain ⟨o1, o2⟩ := ok
                  have hsel := (sm_kda y' hy1 hy2).1 (by simpa using hy5)
                  have hst : (as.reverse ++ rest).map (sm_v ad fm) = (as.map (sm_v ad fm)).reverse ++ rest.map (sm_v ad fm) := by simp
                  rw [hst]
                  refine sm_callg (va_runS (As := as.map (sm_v ad fm)) (rest := rest.map (sm_v ad fm)) (n := b) (nL := ls.size) ⟨hx, hb, hls, hown, hts⟩ hM (va_cwS b hts (sm_good_in (fun x hx => ?_)) rfl rfl rfl ⟨n4, n5, o2⟩ hroomc) ⟨sm_blind, hPcU⟩ rfl (by rw [List.length_map]; exact c2) rfl rfl (lv_room hwd8) hdd hrm2) hS (hgo rfl)
                  rcases List.mem_append.mp hx with hx | hx
                  · simp only [List.mem_cons, List.not_mem_nil, or_false] at hx
                    rcases hx with rfl | rfl | rfl
                    · exact mm_has_mem o1
                    · exact hsel
                    · exact mm_has_mem n2
                  · exact hwsin x hx
                · dsimp only at ok hy5
                  rw [Bool.and_eq_true, decide_eq_true_eq] at ok
                  obtain ⟨rfl, ok⟩ := ok
                  split at hy5
                  · rename_i x as'
                    cases hxq : w.1[x]? with
                    | none => rw [hxq] at hy5; cases hy5
                    | some D =>
                      rw [hxq] at hy5
                      simp only [Bool.and_eq_true, beq_iff_eq] at hy5
                      have hx13 : x ≠ 13 := by
                        intro e
                        subst e
                        have := hwf.old hxq (by decide)
                        cases this
                        cases hy5.1
                      have hst : ((Value.ref x :: as').reverse ++ rest).map (sm_v ad fm) = (as'.map (sm_v ad fm)).reverse ++ .ref (ad x) :: rest.map (sm_v ad fm) := by
                        simp [sm_ref hx13]
                      have hPcU2 : ∀ U : State, U.heap = H → s.WarmedH U.vm → sm_Pc bs cy ad fm Dg Ls xs (.ref x :: as') w (Value.ref (ad x) :: as'.map (sm_v ad fm)).toArray U := by
                        intro U hU hW
                        have g := hPcU U hU hW
                        rw [List.map_cons, sm_ref hx13] at g
                        exact g
                      have hlen2 : (as'.map (sm_v ad fm)).length = b - 1 := by
                        rw [List.length_map]
                        have : as'.length + 1 = b := c2
                        omega
                      have hsel := (sm_kda y' hy1 hy2).2.1 (by omega)
                      have hnone := rk3 hsel.2
                      rw [hnone] at hM hwsin
                      rw [hst]
                      rcases (show c0 = 0 ∨ c0 = 1 ∨ c0 = 2 ∨ c0 = 3 by omega) with rfl | rfl | rfl | rfl
                      · exact absurd ok (by decide)
                      · exact absurd ok (by decide)
                      · simp only [Bool.and_eq_true, decide_eq_true_eq] at ok
                        obtain ⟨⟨⟨o1, o2⟩, o3⟩, o4⟩ := ok
                        exact sm_callg (va_runI (As := as'.map (sm_v ad fm)) (rest := rest.map (sm_v ad fm)) (b := ad x) (n := b - 1) (nL := ls.size) ⟨hx, hb, hls, hown, hts⟩ hM (cwI (b - 1) hts (sm_good_in hwsin) rfl rfl rfl (hts _ (mm_has_mem n2)) (hts _ (mm_has_mem o1)) (hts _ hsel.1) hsel.2 ⟨n4, n5, o2⟩ hroomc) ⟨sm_blind, hPcU2⟩ rfl hlen2 rfl rfl (lv_room hwd8) hdd hrm2) hS (hgo rfl)
                      · simp only [Bool.and_eq_true, decide_eq_true_eq] at ok
                        obtain ⟨⟨⟨⟨o0, o1⟩, o2⟩, o3⟩, o4⟩ := ok
                        have hown2 := hown
                        rw [o0] at hown2
                        exact sm_callg (va_runIN (own := "GlobeCorner") (host := "GlobeCorner") (As := as'.map (sm_v ad fm)) (rest := rest.map (sm_v ad fm)) (b := ad x) (n := b - 1) (nL := ls.size) ⟨hx, hb, hls, hown2, hts⟩ hM ⟨va_cnB (b - 1) hts (sm_good_in hwsin) rfl rfl rfl (hSt.2.2.1 _ o1) (hts _ (mm_has_mem n2)) ⟨n4, n5, o2⟩ hroomc, hsel.2, hts _ hsel.1⟩ ⟨sm_blind, hPcU2⟩ rfl hlen2 rfl rfl (lv_room hwd8) hdd hrm2) hS (hgo rfl)
                  · cases hy5
end
section
/-! A RUN THAT KEEPS OFF SOME CELLS: cells of tag 12 are nobody's; what runs without them runs with them, and leaves them as they are -/
def mm_sub (E : Nat → mm_D) (Λ Λ2 : List mm_D) : Prop := Λ.length = Λ2.length ∧ ∀ q : Nat, Λ2[q]? = (Λ[q]?).map (fun D => if D.1 = 12 then E q else D)
/-- the cells that nothing here writes are as they were -/
def mm_loc (Λ : List mm_D) (μ μ' : mm_M) : Prop := ∀ (c : Nat) (D : mm_D), Λ[c]? = some D → 7 ≤ D.1 → μ'.1 c = μ.1 c ∧ μ'.2.1 c = μ.2.1 c ∧ μ'.2.2 c = μ.2.2 c
def mm_keep (Λ Λ' : List mm_D) : Prop := ∀ (c : Nat) (D : mm_D), Λ[c]? = some D → 7 ≤ D.1 → Λ'[c]? = some D
theorem mm_loc.rf {Λ : List mm_D} {μ : mm_M} : mm_loc Λ μ μ := fun _ _ _ _ => ⟨rfl, rfl, rfl⟩
theorem mm_keep.rf {Λ : List mm_D} : mm_keep Λ Λ := fun _ _ h _ => h
theorem mm_loc.at {Λ : List mm_D} {μ μ' : mm_M} {q : Nat} {D : mm_D} (hq : Λ[q]? = some D) (h6 : D.1 < 7) (h : ∀ c, c ≠ q → μ'.1 c = μ.1 c ∧ μ'.2.1 c = μ.2.1 c ∧ μ'.2.2 c = μ.2.2 c) : mm_loc Λ μ μ' := fun c E hE h7 => by
  refine h c (fun z => ?_)
  subst z
  rw [hq] at hE
  cases hE
  omega
theorem mm_sub.get {E : Nat → mm_D} {Λ Λ2 : List mm_D} (h : mm_sub E Λ Λ2) {q t n : Nat} {f : Nat → Int32} {rs : List (Option Nat)} (hq : Λ[q]? = some (t, n, f, rs)) (h12 : t ≠ 12) : Λ2[q]? = some (t, n, f, rs) := by
  rw [h.2 q, hq]
  simp [h12]
theorem mm_sub.set {E : Nat → mm_D} {Λ Λ2 : List mm_D} (h : mm_sub E Λ Λ2) {q : Nat} {D : mm_D} (h6 : D.1 ≠ 12) : mm_sub E (Λ.set q D) (Λ2.set q D) := by
  refine ⟨by rw [List.length_set, List.length_set]; exact h.1, fun c => ?_⟩
  rw [List.getElem?_set, List.getElem?_set]
  by_cases hc : q = c
  · subst hc
    simp only [if_true]
    by_cases hl : q < Λ.length
    · rw [if_pos hl, if_pos (by rw [← h.1]; exact hl)]
      simp [h6]
    · rw [if_neg hl, if_neg (by rw [← h.1]; exact hl)]
      rfl
  · rw [if_neg hc, if_neg hc]
    exact h.2 c
theorem mm_sub.push {E : Nat → mm_D} {Λ Λ2 : List mm_D} (h : mm_sub E Λ Λ2) {D : mm_D} (h6 : D.1 ≠ 12) : mm_sub E (Λ ++ [D]) (Λ2 ++ [D]) := by
  refine ⟨by rw [List.length_append, List.length_append, h.1], fun c => ?_⟩
  by_cases hc : c < Λ.length
  · rw [List.getElem?_append_left hc, List.getElem?_append_left (by rw [← h.1]; exact hc)]
    exact h.2 c
  · rw [List.getElem?_append_right (by omega), List.getElem?_append_right (by rw [← h.1]; omega), ← h.1]
    by_cases hz : c - Λ.length = 0
    · rw [hz]
      simp [h6]
    · rw [List.getElem?_eq_none (by simp; omega)]
      rfl
theorem mm_sub.eq {E : Nat → mm_D} {Λ Λ2 Λ3 : List mm_D} (h : mm_sub E Λ Λ2) (h3 : mm_sub E Λ Λ3) : Λ2 = Λ3 := by
  apply List.ext_getElem?
  intro q
  rw [h.2 q, h3.2 q]
theorem mm_keep.set {Λ : List mm_D} {q : Nat} {D D' : mm_D} (hq : Λ[q]? = some D) (h6 : D.1 < 7) : mm_keep Λ (Λ.set q D') := fun c E hE h7 => by
  rw [List.getElem?_set_ne (fun z => by subst z; rw [hq] at hE; cases hE; omega)]
  exact hE
theorem mm_keep.push {Λ : List mm_D} {D : mm_D} : mm_keep Λ (Λ ++ [D]) := fun c E hE _ => by
  rw [List.getElem?_append_left (List.getElem?_eq_some_iff.mp hE).1]
  exact hE
section
variable {E : Nat → mm_D} {Λ Λ2 : List mm_D} {μ : mm_M} {w' : mm_W} {q a b c0 x : Nat} {j y : Int32} {z : Int64} {v : Value}
theorem mm_ial_sub (hs : mm_sub E Λ Λ2) (h : mm_ial (Λ, μ) q j = some y) : mm_ial (Λ2, μ) q j = some y := by
  unfold mm_ial at h ⊢
  dsimp only at h ⊢
  cases hq : Λ[q]? with
  | none => rw [hq] at h; cases h
  | some D =>
    obtain ⟨t, n, f, rs⟩ := D
    rw [hq] at h
    dsimp only at h
    by_cases hin : j < 0 ∨ n ≤ j.toNatClampNeg
    · rw [if_pos hin] at h; cases h
    · rw [if_neg hin] at h
      split at h
      · rename_i h0
        have g1 := hs.get hq (by simp only [beq_iff_eq] at h0; omega)
        rw [g1]
        dsimp only
        rw [if_neg hin, h0]
        exact h
      · rename_i h0 h1
        have h7 : t = 7 := by simpa using h0
        have g1 := hs.get hq (by omega)
        rw [g1]
        dsimp only
        rw [if_neg hin, h0]
        subst h7
        exact h
      · cases h
theorem mm_bal_sub (hs : mm_sub E Λ Λ2) (h : mm_bal (Λ, μ) q j = some y) : mm_bal (Λ2, μ) q j = some y := by
  unfold mm_bal at h ⊢
  dsimp only at h ⊢
  cases hq : Λ[q]? with
  | none => rw [hq] at h; cases h
  | some D =>
    obtain ⟨t, n, f, rs⟩ := D
    rw [hq] at h
    dsimp only at h
    by_cases hin : j < 0 ∨ n ≤ j.toNatClampNeg
    · rw [if_pos hin] at h; cases h
    · rw [if_neg hin] at h
      split at h
      · rename_i h0
        have g1 := hs.get hq (by simp only [Bool.or_eq_true, beq_iff_eq] at h0; omega)
        rw [g1]
        dsimp only
        rw [if_neg hin, h0]
        exact h
      · rename_i h0 h1
        have h7 : t = 8 := by simpa using h0
        have g1 := hs.get hq (by omega)
        rw [g1]
        dsimp only
        rw [if_neg hin, h0]
        subst h7
        exact h
      · cases h
theorem mm_lal_sub (hs : mm_sub E Λ Λ2) (h : mm_lal (Λ, μ) q j = some z) : mm_lal (Λ2, μ) q j = some z := by
  unfold mm_lal at h ⊢
  dsimp only at h ⊢
  cases hq : Λ[q]? with
  | none => rw [hq] at h; cases h
  | some D =>
    obtain ⟨t, n, f, rs⟩ := D
    rw [hq] at h
    dsimp only at h
    by_cases hin : j < 0 ∨ n ≤ j.toNatClampNeg
    · rw [if_pos hin] at h; cases h
    · rw [if_neg hin] at h
      split at h
      · rename_i h0
        have g1 := hs.get hq (by simp only [beq_iff_eq] at h0; omega)
        rw [g1]
        dsimp only
        rw [if_neg hin, h0]
        exact h
      · cases h
theorem mm_aal_sub (hs : mm_sub E Λ Λ2) (h : mm_aal (Λ, μ) q j = some v) : mm_aal (Λ2, μ) q j = some v := by
  unfold mm_aal at h ⊢
  dsimp only at h ⊢
  cases hq : Λ[q]? with
  | none => rw [hq] at h; cases h
  | some D =>
    obtain ⟨t, n, f, rs⟩ := D
    rw [hq] at h
    dsimp only at h
    by_cases hin : j < 0 ∨ n ≤ j.toNatClampNeg
    · rw [if_pos hin] at h; cases h
    · rw [if_neg hin] at h
      split at h
      · rename_i h0
        have g1 := hs.get hq (by simp only [Bool.or_eq_true, beq_iff_eq] at h0; omega)
        rw [g1]
        dsimp only
        rw [if_neg hin, h0]
        exact h
      · cases h
theorem mm_len_sub (hs : mm_sub E Λ Λ2) (h : mm_len (Λ, μ) q = some y) : mm_len (Λ2, μ) q = some y := by
  unfold mm_len at h ⊢
  dsimp only at h ⊢
  cases hq : Λ[q]? with
  | none => rw [hq] at h; cases h
  | some D =>
    obtain ⟨t, n, f, rs⟩ := D
    rw [hq] at h
    dsimp only at h
    split at h
    · rename_i h0
      have g1 := hs.get hq (by
        simp only [Bool.and_eq_true] at h0
        have : t < 9 := mm_blt h0.2
        omega)
      rw [g1]
      dsimp only
      rw [h0]
      exact h
    · cases h
theorem mm_gf_sub (hs : mm_sub E Λ Λ2) (h : mm_gf (Λ, μ) q a b c0 = some v) : mm_gf (Λ2, μ) q a b c0 = some v := by
  unfold mm_gf at h ⊢
  dsimp only at h ⊢
  cases hq : Λ[q]? with
  | none => rw [hq] at h; cases h
  | some D =>
    obtain ⟨t, n, f, rs⟩ := D
    rw [hq] at h
    dsimp only at h
    have h12 : t ≠ 12 := by
      intro e
      subst e
      simp at h
    have g1 := hs.get hq h12
    rw [g1]
    exact h
theorem mm_pf_sub (hs : mm_sub E Λ Λ2) (h : mm_pf (Λ, μ) q a b c0 v = some w') : (∃ Λ2', mm_pf (Λ2, μ) q a b c0 v = some (Λ2', w'.2) ∧ mm_sub E w'.1 Λ2') ∧ mm_loc Λ μ w'.2 ∧ mm_keep Λ w'.1 := by
  unfold mm_pf at h ⊢
  dsimp only at h ⊢
  cases hq : Λ[q]? with
  | none => rw [hq] at h; cases h
  | some D =>
    obtain ⟨t, n, f, rs⟩ := D
    rw [hq] at h
    dsimp only at h
    have ht : (t == 0 && n == a) = true := by
      cases hz : (t == 0 && n == a) with
      | true => rfl
      | false => rw [hz] at h; cases h
    have h0 : t = 0 := by simp only [Bool.and_eq_true, beq_iff_eq] at ht; exact ht.1
    have g1 := hs.get hq (by omega)
    rw [g1]
    dsimp only
    rw [ht] at h ⊢
    split at h
    · cases h; exact ⟨⟨Λ2, rfl, hs⟩, mm_loc.at hq (by show t < 7; omega) sm_sI_o, mm_keep.rf⟩
    · split at h
      · rename_i h01; cases h; exact ⟨⟨Λ2, by dsimp only; rw [if_pos h01], hs⟩, mm_loc.at hq (by show t < 7; omega) sm_sI_o, mm_keep.rf⟩
      · cases h
    · cases h; exact ⟨⟨Λ2, rfl, hs⟩, mm_loc.at hq (by show t < 7; omega) sm_sR_o, mm_keep.rf⟩
    · cases h; exact ⟨⟨Λ2, rfl, hs⟩, mm_loc.at hq (by show t < 7; omega) sm_sR_o, mm_keep.rf⟩
    · split at h
      · rename_i hbl; cases h; exact ⟨⟨_, by dsimp only; rw [hbl], hs.set (by show t ≠ 12; omega)⟩, mm_loc.rf, mm_keep.set hq (by show t < 7; omega)⟩
      · cases h
    · cases h
theorem mm_ias_sub (hs : mm_sub E Λ Λ2) (h : mm_ias (Λ, μ) q j y = some w') : (∃ Λ2', mm_ias (Λ2, μ) q j y = some (Λ2', w'.2) ∧ mm_sub E w'.1 Λ2') ∧ mm_loc Λ μ w'.2 ∧ mm_keep Λ w'.1 := by
  unfold mm_ias at h ⊢
  dsimp only at h ⊢
  cases hq : Λ[q]? with
  | none => rw [hq] at h; cases h
  | some D =>
    obtain ⟨t, n, f, rs⟩ := D
    rw [hq] at h
    dsimp only at h
    by_cases hin : j < 0 ∨ n ≤ j.toNatClampNeg
    · rw [if_pos hin] at h; cases h
    · rw [if_neg hin] at h
      split at h
      · rename_i h0
        have ht : t = 1 := by simpa using h0
        have g1 := hs.get hq (by omega)
        rw [g1]
        dsimp only
        rw [if_neg hin, h0]
        cases h
        exact ⟨⟨Λ2, rfl, hs⟩, mm_loc.at hq (by show t < 7; omega) sm_sI_o, mm_keep.rf⟩
      · cases h
theorem mm_bas_sub (hs : mm_sub E Λ Λ2) (h : mm_bas (Λ, μ) q j y = some w') : (∃ Λ2', mm_bas (Λ2, μ) q j y = some (Λ2', w'.2) ∧ mm_sub E w'.1 Λ2') ∧ mm_loc Λ μ w'.2 ∧ mm_keep Λ w'.1 := by
  unfold mm_bas at h ⊢
  dsimp only at h ⊢
  cases hq : Λ[q]? with
  | none => rw [hq] at h; cases h
  | some D =>
    obtain ⟨t, n, f, rs⟩ := D
    rw [hq] at h
    dsimp only at h
    by_cases hin : j < 0 ∨ n ≤ j.toNatClampNeg
    · rw [if_pos hin] at h; cases h
    · rw [if_neg hin] at h
      split at h
      · rename_i h0
        have ht : t = 2 := by simpa using h0
        have g1 := hs.get hq (by omega)
        rw [g1]
        dsimp only
        rw [if_neg hin, h0]
        cases h
        exact ⟨⟨Λ2, rfl, hs⟩, mm_loc.at hq (by show t < 7; omega) sm_sI_o, mm_keep.rf⟩
      · rename_i h0 h1
        have ht : t = 3 := by simpa using h0
        have g1 := hs.get hq (by omega)
        rw [g1]
        dsimp only
        rw [if_neg hin, h0]
        subst ht
        cases h
        exact ⟨⟨Λ2, rfl, hs⟩, mm_loc.at hq (by show 3 < 7; omega) sm_sI_o, mm_keep.rf⟩
      · cases h
theorem mm_las_sub (hs : mm_sub E Λ Λ2) (h : mm_las (Λ, μ) q j z = some w') : (∃ Λ2', mm_las (Λ2, μ) q j z = some (Λ2', w'.2) ∧ mm_sub E w'.1 Λ2') ∧ mm_loc Λ μ w'.2 ∧ mm_keep Λ w'.1 := by
  unfold mm_las at h ⊢
  dsimp only at h ⊢
  cases hq : Λ[q]? with
  | none => rw [hq] at h; cases h
  | some D =>
    obtain ⟨t, n, f, rs⟩ := D
    rw [hq] at h
    dsimp only at h
    by_cases hin : j < 0 ∨ n ≤ j.toNatClampNeg
    · rw [if_pos hin] at h; cases h
    · rw [if_neg hin] at h
      split at h
      · rename_i h0
        have ht : t = 4 := by simpa using h0
        have g1 := hs.get hq (by omega)
        rw [g1]
        dsimp only
        rw [if_neg hin, h0]
        cases h
        exact ⟨⟨Λ2, rfl, hs⟩, mm_loc.at hq (by show t < 7; omega) sm_sJ_o, mm_keep.rf⟩
      · cases h
theorem mm_aas_sub (hs : mm_sub E Λ Λ2) (h : mm_aas (Λ, μ) q j x = some w') : (∃ Λ2', mm_aas (Λ2, μ) q j x = some (Λ2', w'.2) ∧ mm_sub E w'.1 Λ2') ∧ mm_loc Λ μ w'.2 ∧ mm_keep Λ w'.1 := by
  unfold mm_aas at h ⊢
  dsimp only at h ⊢
  cases hq : Λ[q]? with
  | none => rw [hq] at h; cases h
  | some D =>
    cases hx : Λ[x]? with
    | none => rw [hq, hx] at h; cases h
    | some E =>
      obtain ⟨t, n, f, rs⟩ := D
      obtain ⟨tx, nx, fx, rx⟩ := E
      rw [hq, hx] at h
      dsimp only at h
      by_cases hin : j < 0 ∨ n ≤ j.toNatClampNeg ∨ rs.length ≤ j.toNatClampNeg
      · rw [if_pos hin] at h; cases h
      · rw [if_neg hin] at h
        split at h
        · rename_i h0
          have h1 := h0
          simp only [Bool.or_eq_true, Bool.and_eq_true, beq_iff_eq] at h1
          have g1 := hs.get hq (by omega)
          have g3 := hs.get hx (by omega)
          rw [g1, g3]
          dsimp only
          rw [if_neg hin, h0]
          cases h
          exact ⟨⟨_, rfl, hs.set (by show t ≠ 12; omega)⟩, mm_loc.rf, mm_keep.set hq (by show t < 7; omega)⟩
        · cases h
theorem mm_cp_sub {st st' : List Value} (hs : mm_sub E Λ Λ2) (h : mm_cp st (Λ, μ) = some (st', w')) : (∃ Λ2', mm_cp st (Λ2, μ) = some (st', (Λ2', w'.2)) ∧ mm_sub E w'.1 Λ2') ∧ mm_loc Λ μ w'.2 ∧ mm_keep Λ w'.1 := by
  unfold mm_cp at h ⊢
  dsimp only at h ⊢
  split at h
  · rename_i n dp bb sp aa s1
    cases hq : Λ[aa]? with
    | none => rw [hq] at h; cases h
    | some D =>
      cases hx : Λ[bb]? with
      | none => rw [hq, hx] at h; cases h
      | some E =>
        obtain ⟨ta, na, fa, ra⟩ := D
        obtain ⟨tb, nb, fb, rb⟩ := E
        rw [hq, hx] at h
        dsimp only at h
        split at h
        · cases h
        · rename_i hc
          split at h
          · rename_i h0
            have h1 := h0
            simp only [Bool.and_eq_true, beq_iff_eq] at h1
            have g1 := hs.get hq (by omega)
            have g3 := hs.get hx (by omega)
            dsimp only
            rw [g1, g3]
            dsimp only
            rw [if_neg hc, h0]
            cases h
            exact ⟨⟨_, rfl, hs⟩, mm_loc.at hx (by show tb < 7; omega) sm_sI_o, mm_keep.rf⟩
          · rename_i h0 h2
            have h1 := h0
            simp only [Bool.and_eq_true, beq_iff_eq] at h1
            have g1 := hs.get hq (by omega)
            have g3 := hs.get hx (by omega)
            dsimp only
            rw [g1, g3]
            dsimp only
            rw [if_neg hc, h0]
            obtain ⟨rfl, rfl⟩ := h1
            cases h
            exact ⟨⟨_, rfl, hs⟩, mm_loc.at hx (by show 4 < 7; omega) sm_sJ_o, mm_keep.rf⟩
          · cases h
  · cases h
end
end
section
section
variable {E : Nat → mm_D} {Λ Λ2 : List mm_D} {μ : mm_M} {w' : mm_W} {r : mm_R} {i : Nat} {L : mm_L} {st st' : List Value}
theorem mm_new_sub (hs : mm_sub E Λ Λ2) {D : mm_D} (h12 : D.1 ≠ 12) : (∃ Λ2', mm_new (Λ2, μ) D = (Λ2', (mm_new (Λ, μ) D).2) ∧ mm_sub E (mm_new (Λ, μ) D).1 Λ2') ∧ mm_loc Λ μ (mm_new (Λ, μ) D).2 ∧ mm_keep Λ (mm_new (Λ, μ) D).1 := by
  refine ⟨⟨Λ2 ++ [D], ?_, hs.push h12⟩, fun c E hE _ => ?_, mm_keep.push⟩
  · show (Λ2 ++ [D], _) = _
    rw [show (mm_new (Λ, μ) D).2 = mm_sR (mm_sJ (mm_sI μ Λ.length (fun _ => 0)) Λ.length (fun _ => 0)) Λ.length (fun _ => none) from rfl, hs.1]
  · have hl := (List.getElem?_eq_some_iff.mp hE).1
    exact sm_zero c (by omega)
set_option maxHeartbeats 4000000 in
theorem mm_he_sub (hs : mm_sub E Λ Λ2) (ok : ∃ Y RR i hh, mm_ok Y RR i hh r = true) (h : mm_he r st (Λ, μ) = some (st', w')) : (∃ Λ2', mm_he r st (Λ2, μ) = some (st', (Λ2', w'.2)) ∧ mm_sub E w'.1 Λ2') ∧ mm_loc Λ μ w'.2 ∧ mm_keep Λ w'.1 := by
  obtain ⟨ins, ⟨pc, len⟩, ⟨a, b, c0⟩, ⟨z, zz⟩, ts⟩ := r
  obtain ⟨Y, RR, i0, hh, ok⟩ := ok
  unfold mm_ok at ok
  rw [Bool.and_eq_true] at ok
  replace ok := ok.2
  unfold mm_he at h ⊢
  dsimp only at h ok ⊢
  cases ins
  case getfield n =>
    dsimp only at h ⊢
    split at h
    · split at h
      · rename_i hg; cases h; exact ⟨⟨Λ2, by dsimp only; rw [mm_gf_sub hs hg], hs⟩, mm_loc.rf, mm_keep.rf⟩
      · cases h
    · cases h
  case putfield n =>
    dsimp only at h ⊢
    split at h
    · split at h
      · rename_i hg; cases h
        obtain ⟨⟨Λ3, g1, g2⟩, g3, g4⟩ := mm_pf_sub hs hg
        exact ⟨⟨Λ3, by dsimp only; rw [g1], g2⟩, g3, g4⟩
      · cases h
    · cases h
  case iaload =>
    dsimp only at h ⊢
    split at h
    · split at h
      · rename_i hg; cases h; exact ⟨⟨Λ2, by dsimp only; rw [mm_ial_sub hs hg], hs⟩, mm_loc.rf, mm_keep.rf⟩
      · cases h
    · cases h
  case baload =>
    dsimp only at h ⊢
    split at h
    · split at h
      · rename_i hg; cases h; exact ⟨⟨Λ2, by dsimp only; rw [mm_bal_sub hs hg], hs⟩, mm_loc.rf, mm_keep.rf⟩
      · cases h
    · cases h
  case laload =>
    dsimp only at h ⊢
    split at h
    · split at h
      · rename_i hg; cases h; exact ⟨⟨Λ2, by dsimp only; rw [mm_lal_sub hs hg], hs⟩, mm_loc.rf, mm_keep.rf⟩
      · cases h
    · cases h
  case aaload =>
    dsimp only at h ⊢
    split at h
    · split at h
      · rename_i hg; cases h; exact ⟨⟨Λ2, by dsimp only; rw [mm_aal_sub hs hg], hs⟩, mm_loc.rf, mm_keep.rf⟩
      · cases h
    · cases h
  case arraylength =>
    dsimp only at h ⊢
    split at h
    · split at h
      · rename_i hg; cases h; exact ⟨⟨Λ2, by dsimp only; rw [mm_len_sub hs hg], hs⟩, mm_loc.rf, mm_keep.rf⟩
      · cases h
    · cases h
  case iastore =>
    dsimp only at h ⊢
    split at h
    · split at h
      · rename_i hg; cases h
        obtain ⟨⟨Λ3, g1, g2⟩, g3, g4⟩ := mm_ias_sub hs hg
        exact ⟨⟨Λ3, by dsimp only; rw [g1], g2⟩, g3, g4⟩
      · cases h
    · cases h
  case bastore =>
    dsimp only at h ⊢
    split at h
    · split at h
      · rename_i hg; cases h
        obtain ⟨⟨Λ3, g1, g2⟩, g3, g4⟩ := mm_bas_sub hs hg
        exact ⟨⟨Λ3, by dsimp only; rw [g1], g2⟩, g3, g4⟩
      · cases h
    · cases h
  case lastore =>
    dsimp only at h ⊢
    split at h
    · split at h
      · rename_i hg; cases h
        obtain ⟨⟨Λ3, g1, g2⟩, g3, g4⟩ := mm_las_sub hs hg
        exact ⟨⟨Λ3, by dsimp only; rw [g1], g2⟩, g3, g4⟩
      · cases h
    · cases h
  case aastore =>
    dsimp only at h ⊢
    split at h
    · split at h
      · rename_i hg; cases h
        obtain ⟨⟨Λ3, g1, g2⟩, g3, g4⟩ := mm_aas_sub hs hg
        exact ⟨⟨Λ3, by dsimp only; rw [g1], g2⟩, g3, g4⟩
      · cases h
    · cases h
  case new n =>
    cases h
    obtain ⟨⟨Λ3, g1, g2⟩, g3, g4⟩ := mm_new_sub (μ := μ) (D := (0, a, (fun _ => 0), List.replicate (mm_N.getD a 0) none)) hs (by show (0 : Nat) ≠ 12; decide)
    exact ⟨⟨Λ3, by dsimp only; rw [g1, hs.1], g2⟩, g3, g4⟩
  case newarray n =>
    dsimp only at h ⊢
    split at h
    · split at h
      · cases h
      · rename_i j s1 hj
        cases h
        obtain ⟨⟨Λ3, g1, g2⟩, g3, g4⟩ := mm_new_sub (μ := μ) (D := (a, j.toNatClampNeg, (fun _ => 0), [])) hs (by
          show a ≠ 12
          intro z; subst z
          cases n <;> simp at ok)
        exact ⟨⟨Λ3, by dsimp only; rw [if_neg hj, g1, hs.1], g2⟩, g3, g4⟩
    · cases h
  case anewarray n =>
    dsimp only at h ⊢
    split at h
    · split at h
      · cases h
      · rename_i j s1 hj
        cases h
        obtain ⟨⟨Λ3, g1, g2⟩, g3, g4⟩ := mm_new_sub (μ := μ) (D := (a, j.toNatClampNeg, (fun _ => 0), List.replicate j.toNatClampNeg none)) hs (by
          show a ≠ 12
          intro z; subst z
          simp at ok)
        exact ⟨⟨Λ3, by dsimp only; rw [if_neg hj, g1, hs.1], g2⟩, g3, g4⟩
    · cases h
  case invokespecial n =>
    dsimp only at h ⊢
    split at h
    · split at h
      · rename_i hg; cases h; exact ⟨⟨Λ2, by dsimp only; rw [hg], hs⟩, mm_loc.rf, mm_keep.rf⟩
      · cases h
    · cases h
  case invokestatic n =>
    dsimp only at h ⊢
    split at h
    · obtain ⟨⟨Λ3, g1, g2⟩, g3, g4⟩ := mm_cp_sub hs h
      exact ⟨⟨Λ3, g1, g2⟩, g3, g4⟩
    · split at h
      · split at h
        · rename_i hg; cases h; exact ⟨⟨Λ2, by dsimp only; rw [hg], hs⟩, mm_loc.rf, mm_keep.rf⟩
        · cases h
      · cases h
    · split at h
      · split at h
        · rename_i hg; cases h; exact ⟨⟨Λ2, by dsimp only; rw [hg], hs⟩, mm_loc.rf, mm_keep.rf⟩
        · cases h
      · cases h
    · split at h
      · split at h
        · rename_i hg; cases h; exact ⟨⟨Λ2, by dsimp only; rw [hg], hs⟩, mm_loc.rf, mm_keep.rf⟩
        · cases h
      · cases h
    · cases h
  all_goals cases h
theorem mm_op_he {w : mm_W} (h : mm_he r st w = some (st', w')) : mm_op r st = none ∧ mm_lo r L st = none ∧ mm_jp r i st = none := by
  obtain ⟨ins, ⟨pc, len⟩, ⟨a, b, c0⟩, ⟨z, zz⟩, ts⟩ := r
  unfold mm_he at h
  unfold mm_op mm_lo mm_jp
  cases ins <;> first | exact ⟨rfl, rfl, rfl⟩ | cases h
theorem mm_he_none {w w2 : mm_W} (hs : mm_sub E w.1 w2.1) (h : mm_stp r i L st w = none) (hr : (∃ v, mm_ret r st = some v) ∨ ∃ q, mm_cl r st = some q) : mm_stp r i L st w2 = none := by
  obtain ⟨ins, ⟨pc, len⟩, ⟨a, b, c0⟩, ⟨z, zz⟩, ts⟩ := r
  have h4 : (∃ q, mm_cl (ins, (pc, len), (a, b, c0), (z, zz), ts) st = some q) → c0 < 4 := by
    rintro ⟨⟨y, as, rest⟩, hq⟩
    exact (mm_cl_inv hq).2.2.2.1
  have hk : (∃ n, ins = .invokevirtual n) ∨ (∃ n, ins = .invokestatic n) ∨ (∃ n, ins = .invokespecial n) ∨ ins = .ireturn ∨ ins = .lreturn ∨ ins = .areturn ∨ ins = .return_ := by
    rcases hr with ⟨v, hv⟩ | ⟨⟨y, as, rest⟩, hq⟩
    · unfold mm_ret at hv
      dsimp only at hv
      split at hv
      · rename_i e; simp [e]
      · rename_i e; simp [e]
      · rename_i e; simp [e]
      · rename_i e; simp [e]
      · cases hv
    · rcases (mm_cl_inv hq).2.2.2.2.2 with e | e | e
      · exact Or.inl e
      · exact Or.inr (Or.inl e)
      · exact Or.inr (Or.inr (Or.inl e))
  rcases hk with ⟨n, rfl⟩ | ⟨n, rfl⟩ | ⟨n, rfl⟩ | rfl | rfl | rfl | rfl
  · rfl
  · rcases hr with ⟨v, hv⟩ | hq
    · cases hv
    · have h5 := h4 hq
      rcases (show c0 = 0 ∨ c0 = 1 ∨ c0 = 2 ∨ c0 = 3 by omega) with rfl | rfl | rfl | rfl <;> rfl
  · rcases hr with ⟨v, hv⟩ | hq
    · cases hv
    · have h5 := h4 hq
      rcases (show c0 = 0 ∨ c0 = 1 ∨ c0 = 2 ∨ c0 = 3 by omega) with rfl | rfl | rfl | rfl <;> rfl
  · rfl
  · rfl
  · rfl
  · rfl
theorem mm_rc_sub {y : Nat} {as : List Value} (hs : mm_sub E Λ Λ2) (h : mm_rc r y as (Λ, μ) = true) : mm_rc r y as (Λ2, μ) = true := by
  unfold mm_rc at h ⊢
  rw [Bool.and_eq_true] at h ⊢
  refine ⟨h.1, ?_⟩
  have h := h.2
  split at h
  · split at h
    · rename_i x xs
      dsimp only at h ⊢
      cases hq : Λ[x]? with
      | none => rw [hq] at h; cases h
      | some D =>
        rw [hq] at h
        obtain ⟨t, n, f, rs⟩ := D
        have h1 := h
        simp only [Bool.or_eq_true, Bool.and_eq_true, beq_iff_eq] at h1
        have g1 := hs.get hq (by omega)
        rw [g1]
        exact h
    · cases h
  · split at h
    · rename_i x xs
      dsimp only at h ⊢
      cases hq : Λ[x]? with
      | none => rw [hq] at h; cases h
      | some D =>
        rw [hq] at h
        obtain ⟨t, n, f, rs⟩ := D
        have h1 := h
        simp only [Bool.and_eq_true, beq_iff_eq] at h1
        have g1 := hs.get hq (by omega)
        rw [g1]
        exact h
    · cases h
  · exact h
  · rfl
end
theorem mm_stp_sub {E : Nat → mm_D} {Λ Λ2 : List mm_D} {μ : mm_M} {r : mm_R} {i : Nat} {L : mm_L} {st : List Value} {c : mm_C} (hs : mm_sub E Λ Λ2) (ok : ∃ Y RR i hh, mm_ok Y RR i hh r = true) (h : mm_stp r i L st (Λ, μ) = some c) : (∃ Λ2', mm_stp r i L st (Λ2, μ) = some (c.1, c.2.1, c.2.2.1, (Λ2', c.2.2.2.2)) ∧ mm_sub E c.2.2.2.1 Λ2') ∧ mm_loc Λ μ c.2.2.2.2 ∧ mm_keep Λ c.2.2.2.1 := by
  unfold mm_stp at h
  split at h
  · rename_i st1 hop
    cases h
    exact ⟨⟨Λ2, by unfold mm_stp; rw [hop], hs⟩, mm_loc.rf, mm_keep.rf⟩
  · rename_i hop
    split at h
    · rename_i L1 st1 hlo
      cases h
      exact ⟨⟨Λ2, by unfold mm_stp; rw [hop]; dsimp only; rw [hlo], hs⟩, mm_loc.rf, mm_keep.rf⟩
    · rename_i hlo
      split at h
      · rename_i i1 st1 hjp
        cases h
        exact ⟨⟨Λ2, by unfold mm_stp; rw [hop]; dsimp only; rw [hlo]; dsimp only; rw [hjp], hs⟩, mm_loc.rf, mm_keep.rf⟩
      · rename_i hjp
        split at h
        · rename_i st1 w1 hhe
          cases h
          obtain ⟨⟨Λ3, g1, g2⟩, g3, g4⟩ := mm_he_sub hs ok hhe
          exact ⟨⟨Λ3, by unfold mm_stp; rw [hop]; dsimp only; rw [hlo]; dsimp only; rw [hjp]; dsimp only; rw [g1], g2⟩, g3, g4⟩
        · cases h
theorem mm_loc.trans {Λ Λ1 : List mm_D} {μ μ1 μ2 : mm_M} (h1 : mm_loc Λ μ μ1) (hk : mm_keep Λ Λ1) (h2 : mm_loc Λ1 μ1 μ2) : mm_loc Λ μ μ2 := fun c D hD h7 => by
  obtain ⟨a1, a2, a3⟩ := h1 c D hD h7
  obtain ⟨b1, b2, b3⟩ := h2 c D (hk c D hD h7) h7
  exact ⟨b1.trans a1, b2.trans a2, b3.trans a3⟩
theorem mm_keep.trans {Λ Λ1 Λ2 : List mm_D} (h1 : mm_keep Λ Λ1) (h2 : mm_keep Λ1 Λ2) : mm_keep Λ Λ2 := fun c D hD h7 => h2 c D (h1 c D hD h7) h7
theorem mm_exec_sub {E : Nat → mm_D} : ∀ (f d y i : Nat) (L : mm_L) (st : List Value) (Λ Λ2 : List mm_D) (μ : mm_M) (v : Option Value) (w' : mm_W), mm_sub E Λ Λ2 → mm_exec f d y i L st (Λ, μ) = some (v, w') → (∃ Λ2', mm_exec f d y i L st (Λ2, μ) = some (v, (Λ2', w'.2)) ∧ mm_sub E w'.1 Λ2') ∧ mm_loc Λ μ w'.2 ∧ mm_keep Λ w'.1 := by
  intro f
  induction f with
  | zero => intro d y i L st Λ Λ2 μ v w' hs h; simp [mm_exec] at h
  | succ f ih =>
    intro d y i L st Λ Λ2 μ v w' hs h
    rw [mm_exec] at h ⊢
    cases hr : mm_rw (mm_rows y) i with
    | none => rw [hr] at h; cases h
    | some r =>
      rw [hr] at h
      dsimp only at h ⊢
      cases hst : mm_stp r i L st (Λ, μ) with
      | some c =>
        obtain ⟨i1, L1, st1, w1⟩ := c
        obtain ⟨Λ1, μ1⟩ := w1
        rw [hst] at h
        obtain ⟨⟨Λ3, g1, g2⟩, g3, g4⟩ := mm_stp_sub hs (by obtain ⟨hh, ok⟩ := mm_aall y i r hr; exact ⟨_, _, _, _, ok⟩) hst
        dsimp only at g1 g2 g3 g4 h
        rw [g1]
        dsimp only
        obtain ⟨k1, k2, k3⟩ := ih d y i1 L1 st1 Λ1 Λ3 μ1 v w' g2 h
        exact ⟨k1, g3.trans g4 k2, g4.trans k3⟩
      | none =>
        rw [hst] at h
        dsimp only at h
        cases hv : mm_ret r st with
        | some v0 =>
          rw [hv] at h
          cases h
          rw [mm_he_none (w := (Λ, μ)) (w2 := (Λ2, μ)) hs hst (Or.inl ⟨_, hv⟩)]
          exact ⟨⟨Λ2, rfl, hs⟩, mm_loc.rf, mm_keep.rf⟩
        | none =>
          rw [hv] at h
          dsimp only at h
          cases d with
          | zero => cases h
          | succ d =>
            dsimp only at h
            cases hc : mm_cl r st with
            | none => rw [hc] at h; cases h
            | some q =>
              rw [hc] at h
              dsimp only at h
              cases hrc : mm_rc r q.1 q.2.1 (Λ, μ) with
              | false => rw [hrc] at h; cases h
              | true =>
              rw [hrc] at h
              dsimp only at h
              cases ht : mm_T q.1 with
              | none => rw [ht] at h; cases h
              | some t =>
                rw [ht] at h
                dsimp only at h
                cases hu : mm_exec f d q.1 0 (mm_ent t.1 q.2.1) [] (Λ, μ) with
                | none => rw [hu] at h; cases h
                | some u =>
                  obtain ⟨v1, Λ1, μ1⟩ := u
                  rw [hu] at h
                  dsimp only at h
                  rw [mm_he_none (w := (Λ, μ)) (w2 := (Λ2, μ)) hs hst (Or.inr ⟨_, hc⟩)]
                  dsimp only
                  rw [mm_rc_sub hs hrc]
                  dsimp only
                  obtain ⟨⟨Λ3, k1, k2⟩, k3, k4⟩ := ih d q.1 0 (mm_ent t.1 q.2.1) [] Λ Λ2 μ v1 (Λ1, μ1) hs hu
                  dsimp only at k1 k2 k3 k4
                  rw [k1]
                  dsimp only
                  obtain ⟨j1, j2, j3⟩ := ih (d + 1) y (i + 1) L (v1.toList ++ q.2.2) Λ1 Λ3 μ1 v w' k2 h
                  exact ⟨j1, k3.trans k4 j2, k4.trans j3⟩
theorem mm_call.lift {E : Nat → mm_D} {Λ Λ2 : List mm_D} {d y : Nat} {as : List Value} {μ : mm_M} {Φ : Option Value → mm_M → Prop} (hs : mm_sub E Λ Λ2) (h : mm_call Λ d y as μ Φ) : mm_call Λ2 d y as μ (fun v μ' => Φ v μ' ∧ mm_loc Λ μ μ') := by
  obtain ⟨ml, R, h1, f, v, μ', h2, h3⟩ := h
  obtain ⟨⟨Λ3, k1, k2⟩, k3, -⟩ := mm_exec_sub f d y 0 _ _ Λ Λ2 μ v (Λ, μ') hs h2
  dsimp only at k1 k2 k3
  rw [k2.eq hs] at k1
  exact ⟨ml, R, h1, f, v, μ', k1, h3, k3⟩
end
section
theorem i_vc : Claimed_1_1 ∧ Claimed_1_2 := sorry
end
