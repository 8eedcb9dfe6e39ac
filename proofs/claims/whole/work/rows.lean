section
-- ===== PART A: goes FIRST, ahead of the names: the tables' words, and 'selects' of the private methods out of them =====
/-- a private method of a class that the tables say can be made, by its rows of tables_1 -/
def lw_okq (q : MethodName × Nat) : Prop := (q.1.cls ≠ "java/lang/invoke/MethodHandle" ∧ q.1.cls ≠ "java/lang/invoke/VarHandle") ∧ Cond.instantiable q.1.cls q.2 ∈ tables_1 ∧ Cond.privateMethod q.1 ∈ tables_1 ∧ Cond.instanceMethod q.1 ∈ tables_1
theorem lw_p0 : lw_okq (⟨"LastPenny$Reader", "readClause", "()Z"⟩, 9) := ⟨⟨by decide +kernel, by decide +kernel⟩, List.mem_of_getElem? (i := 142) (by decide +kernel), List.mem_of_getElem? (i := 211) (by decide +kernel), List.mem_of_getElem? (i := 212) (by decide +kernel)⟩
theorem lw_p1 : lw_okq (⟨"LastPenny$Reader", "readWord", "()I"⟩, 9) := ⟨⟨by decide +kernel, by decide +kernel⟩, List.mem_of_getElem? (i := 142) (by decide +kernel), List.mem_of_getElem? (i := 215) (by decide +kernel), List.mem_of_getElem? (i := 216) (by decide +kernel)⟩
theorem lw_p2 : lw_okq (⟨"LastPenny$Reader", "take", "(C)Z"⟩, 9) := ⟨⟨by decide +kernel, by decide +kernel⟩, List.mem_of_getElem? (i := 142) (by decide +kernel), List.mem_of_getElem? (i := 219) (by decide +kernel), List.mem_of_getElem? (i := 220) (by decide +kernel)⟩
theorem lw_p3 : lw_okq (⟨"LastPenny$Reader", "takeAll", "(Ljava/lang/String;)Z"⟩, 9) := ⟨⟨by decide +kernel, by decide +kernel⟩, List.mem_of_getElem? (i := 142) (by decide +kernel), List.mem_of_getElem? (i := 224) (by decide +kernel), List.mem_of_getElem? (i := 225) (by decide +kernel)⟩
theorem lw_p4 : lw_okq (⟨"LastPenny$Reader", "readNumber", "()I"⟩, 9) := ⟨⟨by decide +kernel, by decide +kernel⟩, List.mem_of_getElem? (i := 142) (by decide +kernel), List.mem_of_getElem? (i := 278) (by decide +kernel), List.mem_of_getElem? (i := 279) (by decide +kernel)⟩
theorem lw_p5 : lw_okq (⟨"LastPenny$Reader", "takeOneOf", "(Ljava/lang/String;)I"⟩, 9) := ⟨⟨by decide +kernel, by decide +kernel⟩, List.mem_of_getElem? (i := 142) (by decide +kernel), List.mem_of_getElem? (i := 283) (by decide +kernel), List.mem_of_getElem? (i := 284) (by decide +kernel)⟩
theorem lw_p6 : lw_okq (⟨"LastPenny$Reader", "readEither", "(I)Z"⟩, 9) := ⟨⟨by decide +kernel, by decide +kernel⟩, List.mem_of_getElem? (i := 142) (by decide +kernel), List.mem_of_getElem? (i := 345) (by decide +kernel), List.mem_of_getElem? (i := 346) (by decide +kernel)⟩
theorem lw_p7 : lw_okq (⟨"LastPenny$Reader", "readSingle", "(I)Z"⟩, 9) := ⟨⟨by decide +kernel, by decide +kernel⟩, List.mem_of_getElem? (i := 142) (by decide +kernel), List.mem_of_getElem? (i := 349) (by decide +kernel), List.mem_of_getElem? (i := 350) (by decide +kernel)⟩
theorem lw_p8 : lw_okq (⟨"LastPenny$Reader", "readTest", "()Z"⟩, 9) := ⟨⟨by decide +kernel, by decide +kernel⟩, List.mem_of_getElem? (i := 142) (by decide +kernel), List.mem_of_getElem? (i := 353) (by decide +kernel), List.mem_of_getElem? (i := 354) (by decide +kernel)⟩
theorem lw_p9 : lw_okq (⟨"LastPenny$Reader", "put", "(I)V"⟩, 9) := ⟨⟨by decide +kernel, by decide +kernel⟩, List.mem_of_getElem? (i := 142) (by decide +kernel), List.mem_of_getElem? (i := 359) (by decide +kernel), List.mem_of_getElem? (i := 360) (by decide +kernel)⟩
theorem lw_p10 : lw_okq (⟨"LastPenny$State", "holding", "()LLastPenny$Table;"⟩, 12) := ⟨⟨by decide +kernel, by decide +kernel⟩, List.mem_of_getElem? (i := 32) (by decide +kernel), List.mem_of_getElem? (i := 416) (by decide +kernel), List.mem_of_getElem? (i := 417) (by decide +kernel)⟩
theorem lw_p11 : lw_okq (⟨"LastPenny$Table", "holds", "(II[I)Z"⟩, 4) := ⟨⟨by decide +kernel, by decide +kernel⟩, List.mem_of_getElem? (i := 367) (by decide +kernel), List.mem_of_getElem? (i := 593) (by decide +kernel), List.mem_of_getElem? (i := 594) (by decide +kernel)⟩
theorem lw_p12 : lw_okq (⟨"LastPenny$Chances", "spreadOnce", "(I)V"⟩, 12) := ⟨⟨by decide +kernel, by decide +kernel⟩, List.mem_of_getElem? (i := 93) (by decide +kernel), List.mem_of_getElem? (i := 640) (by decide +kernel), List.mem_of_getElem? (i := 641) (by decide +kernel)⟩
theorem lw_p13 : lw_okq (⟨"LastPenny$Chances", "chooseStake", "(II)V"⟩, 12) := ⟨⟨by decide +kernel, by decide +kernel⟩, List.mem_of_getElem? (i := 93) (by decide +kernel), List.mem_of_getElem? (i := 692) (by decide +kernel), List.mem_of_getElem? (i := 693) (by decide +kernel)⟩
theorem lw_p14 : lw_okq (⟨"LastPenny$Chances", "playTrioOnce", "(I)V"⟩, 12) := ⟨⟨by decide +kernel, by decide +kernel⟩, List.mem_of_getElem? (i := 93) (by decide +kernel), List.mem_of_getElem? (i := 720) (by decide +kernel), List.mem_of_getElem? (i := 721) (by decide +kernel)⟩
theorem lw_p15 : lw_okq (⟨"LastPenny$Chances", "giveAPenny", "(III)V"⟩, 12) := ⟨⟨by decide +kernel, by decide +kernel⟩, List.mem_of_getElem? (i := 93) (by decide +kernel), List.mem_of_getElem? (i := 725) (by decide +kernel), List.mem_of_getElem? (i := 726) (by decide +kernel)⟩
def lw_privs_1 : List (MethodName × Nat) := [(⟨"LastPenny$Reader", "readClause", "()Z"⟩, 9), (⟨"LastPenny$Reader", "readWord", "()I"⟩, 9), (⟨"LastPenny$Reader", "take", "(C)Z"⟩, 9), (⟨"LastPenny$Reader", "takeAll", "(Ljava/lang/String;)Z"⟩, 9), (⟨"LastPenny$Reader", "readNumber", "()I"⟩, 9), (⟨"LastPenny$Reader", "takeOneOf", "(Ljava/lang/String;)I"⟩, 9), (⟨"LastPenny$Reader", "readEither", "(I)Z"⟩, 9), (⟨"LastPenny$Reader", "readSingle", "(I)Z"⟩, 9), (⟨"LastPenny$Reader", "readTest", "()Z"⟩, 9), (⟨"LastPenny$Reader", "put", "(I)V"⟩, 9), (⟨"LastPenny$State", "holding", "()LLastPenny$Table;"⟩, 12), (⟨"LastPenny$Table", "holds", "(II[I)Z"⟩, 4), (⟨"LastPenny$Chances", "spreadOnce", "(I)V"⟩, 12), (⟨"LastPenny$Chances", "chooseStake", "(II)V"⟩, 12), (⟨"LastPenny$Chances", "playTrioOnce", "(I)V"⟩, 12), (⟨"LastPenny$Chances", "giveAPenny", "(III)V"⟩, 12)]
theorem lw_r1 : ∀ q ∈ lw_privs_1, lw_okq q := List.forall_mem_cons.mpr ⟨lw_p0, List.forall_mem_cons.mpr ⟨lw_p1, List.forall_mem_cons.mpr ⟨lw_p2, List.forall_mem_cons.mpr ⟨lw_p3, List.forall_mem_cons.mpr ⟨lw_p4, List.forall_mem_cons.mpr ⟨lw_p5, List.forall_mem_cons.mpr ⟨lw_p6, List.forall_mem_cons.mpr ⟨lw_p7, List.forall_mem_cons.mpr ⟨lw_p8, List.forall_mem_cons.mpr ⟨lw_p9, List.forall_mem_cons.mpr ⟨lw_p10, List.forall_mem_cons.mpr ⟨lw_p11, List.forall_mem_cons.mpr ⟨lw_p12, List.forall_mem_cons.mpr ⟨lw_p13, List.forall_mem_cons.mpr ⟨lw_p14, List.forall_mem_cons.mpr ⟨lw_p15, fun _ h => absurd h List.not_mem_nil⟩⟩⟩⟩⟩⟩⟩⟩⟩⟩⟩⟩⟩⟩⟩⟩
theorem lw_p16 : lw_okq (⟨"LastPennyModel", "clauseHere", "()V"⟩, 26) := ⟨⟨by decide +kernel, by decide +kernel⟩, List.mem_of_getElem? (i := 895) (by decide +kernel), List.mem_of_getElem? (i := 991) (by decide +kernel), List.mem_of_getElem? (i := 992) (by decide +kernel)⟩
theorem lw_p17 : lw_okq (⟨"LastPennyModel", "here", "()I"⟩, 26) := ⟨⟨by decide +kernel, by decide +kernel⟩, List.mem_of_getElem? (i := 895) (by decide +kernel), List.mem_of_getElem? (i := 995) (by decide +kernel), List.mem_of_getElem? (i := 996) (by decide +kernel)⟩
theorem lw_p18 : lw_okq (⟨"LastPennyModel", "clauseOfL", "()V"⟩, 26) := ⟨⟨by decide +kernel, by decide +kernel⟩, List.mem_of_getElem? (i := 895) (by decide +kernel), List.mem_of_getElem? (i := 999) (by decide +kernel), List.mem_of_getElem? (i := 1000) (by decide +kernel)⟩
theorem lw_p19 : lw_okq (⟨"LastPennyModel", "must", "(I)V"⟩, 26) := ⟨⟨by decide +kernel, by decide +kernel⟩, List.mem_of_getElem? (i := 895) (by decide +kernel), List.mem_of_getElem? (i := 1003) (by decide +kernel), List.mem_of_getElem? (i := 1004) (by decide +kernel)⟩
theorem lw_p20 : lw_okq (⟨"LastPennyModel", "much", "(ILjava/lang/String;)V"⟩, 26) := ⟨⟨by decide +kernel, by decide +kernel⟩, List.mem_of_getElem? (i := 895) (by decide +kernel), List.mem_of_getElem? (i := 1008) (by decide +kernel), List.mem_of_getElem? (i := 1009) (by decide +kernel)⟩
theorem lw_p21 : lw_okq (⟨"LastPennyModel", "spells", "(Ljava/lang/String;)V"⟩, 26) := ⟨⟨by decide +kernel, by decide +kernel⟩, List.mem_of_getElem? (i := 895) (by decide +kernel), List.mem_of_getElem? (i := 1012) (by decide +kernel), List.mem_of_getElem? (i := 1013) (by decide +kernel)⟩
theorem lw_p22 : lw_okq (⟨"LastPennyModel", "figures", "()I"⟩, 26) := ⟨⟨by decide +kernel, by decide +kernel⟩, List.mem_of_getElem? (i := 895) (by decide +kernel), List.mem_of_getElem? (i := 1018) (by decide +kernel), List.mem_of_getElem? (i := 1019) (by decide +kernel)⟩
theorem lw_p23 : lw_okq (⟨"LastPennyModel", "some", "()V"⟩, 26) := ⟨⟨by decide +kernel, by decide +kernel⟩, List.mem_of_getElem? (i := 895) (by decide +kernel), List.mem_of_getElem? (i := 1022) (by decide +kernel), List.mem_of_getElem? (i := 1023) (by decide +kernel)⟩
theorem lw_p24 : lw_okq (⟨"LastPennyModel", "every", "()V"⟩, 26) := ⟨⟨by decide +kernel, by decide +kernel⟩, List.mem_of_getElem? (i := 895) (by decide +kernel), List.mem_of_getElem? (i := 1026) (by decide +kernel), List.mem_of_getElem? (i := 1027) (by decide +kernel)⟩
theorem lw_p25 : lw_okq (⟨"LastPennyModel", "factor", "()V"⟩, 26) := ⟨⟨by decide +kernel, by decide +kernel⟩, List.mem_of_getElem? (i := 895) (by decide +kernel), List.mem_of_getElem? (i := 1030) (by decide +kernel), List.mem_of_getElem? (i := 1031) (by decide +kernel)⟩
theorem lw_p26 : lw_okq (⟨"LastPennyModel", "emits", "(I)V"⟩, 26) := ⟨⟨by decide +kernel, by decide +kernel⟩, List.mem_of_getElem? (i := 895) (by decide +kernel), List.mem_of_getElem? (i := 1034) (by decide +kernel), List.mem_of_getElem? (i := 1035) (by decide +kernel)⟩
theorem lw_p27 : lw_okq (⟨"LastPennyModel", "among", "(Ljava/lang/String;)I"⟩, 26) := ⟨⟨by decide +kernel, by decide +kernel⟩, List.mem_of_getElem? (i := 895) (by decide +kernel), List.mem_of_getElem? (i := 1039) (by decide +kernel), List.mem_of_getElem? (i := 1040) (by decide +kernel)⟩
theorem lw_p28 : lw_okq (⟨"LastPennyModel", "limit", "()I"⟩, 26) := ⟨⟨by decide +kernel, by decide +kernel⟩, List.mem_of_getElem? (i := 895) (by decide +kernel), List.mem_of_getElem? (i := 1054) (by decide +kernel), List.mem_of_getElem? (i := 1055) (by decide +kernel)⟩
theorem lw_p29 : lw_okq (⟨"LastPennyModel", "isPlayer", "(I)Z"⟩, 26) := ⟨⟨by decide +kernel, by decide +kernel⟩, List.mem_of_getElem? (i := 895) (by decide +kernel), List.mem_of_getElem? (i := 1066) (by decide +kernel), List.mem_of_getElem? (i := 1067) (by decide +kernel)⟩
theorem lw_p30 : lw_okq (⟨"LastPennyModel", "isOver", "(I)Z"⟩, 26) := ⟨⟨by decide +kernel, by decide +kernel⟩, List.mem_of_getElem? (i := 895) (by decide +kernel), List.mem_of_getElem? (i := 1078) (by decide +kernel), List.mem_of_getElem? (i := 1079) (by decide +kernel)⟩
theorem lw_p31 : lw_okq (⟨"LastPennyModel", "stakeOf", "(II)I"⟩, 26) := ⟨⟨by decide +kernel, by decide +kernel⟩, List.mem_of_getElem? (i := 895) (by decide +kernel), List.mem_of_getElem? (i := 1082) (by decide +kernel), List.mem_of_getElem? (i := 1083) (by decide +kernel)⟩
def lw_privs_2 : List (MethodName × Nat) := [(⟨"LastPennyModel", "clauseHere", "()V"⟩, 26), (⟨"LastPennyModel", "here", "()I"⟩, 26), (⟨"LastPennyModel", "clauseOfL", "()V"⟩, 26), (⟨"LastPennyModel", "must", "(I)V"⟩, 26), (⟨"LastPennyModel", "much", "(ILjava/lang/String;)V"⟩, 26), (⟨"LastPennyModel", "spells", "(Ljava/lang/String;)V"⟩, 26), (⟨"LastPennyModel", "figures", "()I"⟩, 26), (⟨"LastPennyModel", "some", "()V"⟩, 26), (⟨"LastPennyModel", "every", "()V"⟩, 26), (⟨"LastPennyModel", "factor", "()V"⟩, 26), (⟨"LastPennyModel", "emits", "(I)V"⟩, 26), (⟨"LastPennyModel", "among", "(Ljava/lang/String;)I"⟩, 26), (⟨"LastPennyModel", "limit", "()I"⟩, 26), (⟨"LastPennyModel", "isPlayer", "(I)Z"⟩, 26), (⟨"LastPennyModel", "isOver", "(I)Z"⟩, 26), (⟨"LastPennyModel", "stakeOf", "(II)I"⟩, 26)]
theorem lw_r2 : ∀ q ∈ lw_privs_2, lw_okq q := List.forall_mem_cons.mpr ⟨lw_p16, List.forall_mem_cons.mpr ⟨lw_p17, List.forall_mem_cons.mpr ⟨lw_p18, List.forall_mem_cons.mpr ⟨lw_p19, List.forall_mem_cons.mpr ⟨lw_p20, List.forall_mem_cons.mpr ⟨lw_p21, List.forall_mem_cons.mpr ⟨lw_p22, List.forall_mem_cons.mpr ⟨lw_p23, List.forall_mem_cons.mpr ⟨lw_p24, List.forall_mem_cons.mpr ⟨lw_p25, List.forall_mem_cons.mpr ⟨lw_p26, List.forall_mem_cons.mpr ⟨lw_p27, List.forall_mem_cons.mpr ⟨lw_p28, List.forall_mem_cons.mpr ⟨lw_p29, List.forall_mem_cons.mpr ⟨lw_p30, List.forall_mem_cons.mpr ⟨lw_p31, fun _ h => absurd h List.not_mem_nil⟩⟩⟩⟩⟩⟩⟩⟩⟩⟩⟩⟩⟩⟩⟩⟩
theorem lw_p32 : lw_okq (⟨"LastPennyModel", "wishesFor", "(II)I"⟩, 26) := ⟨⟨by decide +kernel, by decide +kernel⟩, List.mem_of_getElem? (i := 895) (by decide +kernel), List.mem_of_getElem? (i := 1086) (by decide +kernel), List.mem_of_getElem? (i := 1087) (by decide +kernel)⟩
theorem lw_p33 : lw_okq (⟨"LastPennyModel", "mostOf", "(II)I"⟩, 26) := ⟨⟨by decide +kernel, by decide +kernel⟩, List.mem_of_getElem? (i := 895) (by decide +kernel), List.mem_of_getElem? (i := 1093) (by decide +kernel), List.mem_of_getElem? (i := 1094) (by decide +kernel)⟩
theorem lw_p34 : lw_okq (⟨"LastPennyModel", "oddsOf", "(III)I"⟩, 26) := ⟨⟨by decide +kernel, by decide +kernel⟩, List.mem_of_getElem? (i := 895) (by decide +kernel), List.mem_of_getElem? (i := 1097) (by decide +kernel), List.mem_of_getElem? (i := 1098) (by decide +kernel)⟩
theorem lw_p35 : lw_okq (⟨"LastPennyModel", "goes", "(IZ)V"⟩, 26) := ⟨⟨by decide +kernel, by decide +kernel⟩, List.mem_of_getElem? (i := 895) (by decide +kernel), List.mem_of_getElem? (i := 1105) (by decide +kernel), List.mem_of_getElem? (i := 1106) (by decide +kernel)⟩
theorem lw_p36 : lw_okq (⟨"LastPennyModel", "isAsked", "(III)Z"⟩, 26) := ⟨⟨by decide +kernel, by decide +kernel⟩, List.mem_of_getElem? (i := 895) (by decide +kernel), List.mem_of_getElem? (i := 1113) (by decide +kernel), List.mem_of_getElem? (i := 1114) (by decide +kernel)⟩
theorem lw_p37 : lw_okq (⟨"LastPennyModel", "throwsOn", "(II)V"⟩, 26) := ⟨⟨by decide +kernel, by decide +kernel⟩, List.mem_of_getElem? (i := 895) (by decide +kernel), List.mem_of_getElem? (i := 1118) (by decide +kernel), List.mem_of_getElem? (i := 1119) (by decide +kernel)⟩
theorem lw_p38 : lw_okq (⟨"LastPennyModel", "bestOf", "(II)J"⟩, 26) := ⟨⟨by decide +kernel, by decide +kernel⟩, List.mem_of_getElem? (i := 895) (by decide +kernel), List.mem_of_getElem? (i := 1145) (by decide +kernel), List.mem_of_getElem? (i := 1146) (by decide +kernel)⟩
theorem lw_p39 : lw_okq (⟨"LastPennyModel", "chanceBy", "(III)J"⟩, 26) := ⟨⟨by decide +kernel, by decide +kernel⟩, List.mem_of_getElem? (i := 895) (by decide +kernel), List.mem_of_getElem? (i := 1150) (by decide +kernel), List.mem_of_getElem? (i := 1151) (by decide +kernel)⟩
theorem lw_p40 : lw_okq (⟨"LastPennyModel", "threesOn", "(II)J"⟩, 26) := ⟨⟨by decide +kernel, by decide +kernel⟩, List.mem_of_getElem? (i := 895) (by decide +kernel), List.mem_of_getElem? (i := 1171) (by decide +kernel), List.mem_of_getElem? (i := 1172) (by decide +kernel)⟩
theorem lw_p41 : lw_okq (⟨"LastPennyModel", "gives", "(IIJ)V"⟩, 26) := ⟨⟨by decide +kernel, by decide +kernel⟩, List.mem_of_getElem? (i := 895) (by decide +kernel), List.mem_of_getElem? (i := 1175) (by decide +kernel), List.mem_of_getElem? (i := 1176) (by decide +kernel)⟩
theorem lw_p42 : lw_okq (⟨"LastPennyModel", "seems", "()I"⟩, 26) := ⟨⟨by decide +kernel, by decide +kernel⟩, List.mem_of_getElem? (i := 895) (by decide +kernel), List.mem_of_getElem? (i := 1199) (by decide +kernel), List.mem_of_getElem? (i := 1200) (by decide +kernel)⟩
theorem lw_p43 : lw_okq (⟨"LastPennyModel", "longest", "()I"⟩, 26) := ⟨⟨by decide +kernel, by decide +kernel⟩, List.mem_of_getElem? (i := 895) (by decide +kernel), List.mem_of_getElem? (i := 1203) (by decide +kernel), List.mem_of_getElem? (i := 1204) (by decide +kernel)⟩
theorem lw_p44 : lw_okq (⟨"LastPennyModel", "stakesActs", "(I)I"⟩, 26) := ⟨⟨by decide +kernel, by decide +kernel⟩, List.mem_of_getElem? (i := 895) (by decide +kernel), List.mem_of_getElem? (i := 1211) (by decide +kernel), List.mem_of_getElem? (i := 1212) (by decide +kernel)⟩
theorem lw_p45 : lw_okq (⟨"LastPennyModel", "ranBody", "(I)V"⟩, 26) := ⟨⟨by decide +kernel, by decide +kernel⟩, List.mem_of_getElem? (i := 895) (by decide +kernel), List.mem_of_getElem? (i := 1218) (by decide +kernel), List.mem_of_getElem? (i := 1219) (by decide +kernel)⟩
theorem lw_p46 : lw_okq (⟨"LastPennyModel", "plainStakes", "(I)I"⟩, 26) := ⟨⟨by decide +kernel, by decide +kernel⟩, List.mem_of_getElem? (i := 895) (by decide +kernel), List.mem_of_getElem? (i := 1222) (by decide +kernel), List.mem_of_getElem? (i := 1223) (by decide +kernel)⟩
theorem lw_p47 : lw_okq (⟨"LastPennyModel", "throwsActs", "(I)I"⟩, 26) := ⟨⟨by decide +kernel, by decide +kernel⟩, List.mem_of_getElem? (i := 895) (by decide +kernel), List.mem_of_getElem? (i := 1226) (by decide +kernel), List.mem_of_getElem? (i := 1227) (by decide +kernel)⟩
def lw_privs_3 : List (MethodName × Nat) := [(⟨"LastPennyModel", "wishesFor", "(II)I"⟩, 26), (⟨"LastPennyModel", "mostOf", "(II)I"⟩, 26), (⟨"LastPennyModel", "oddsOf", "(III)I"⟩, 26), (⟨"LastPennyModel", "goes", "(IZ)V"⟩, 26), (⟨"LastPennyModel", "isAsked", "(III)Z"⟩, 26), (⟨"LastPennyModel", "throwsOn", "(II)V"⟩, 26), (⟨"LastPennyModel", "bestOf", "(II)J"⟩, 26), (⟨"LastPennyModel", "chanceBy", "(III)J"⟩, 26), (⟨"LastPennyModel", "threesOn", "(II)J"⟩, 26), (⟨"LastPennyModel", "gives", "(IIJ)V"⟩, 26), (⟨"LastPennyModel", "seems", "()I"⟩, 26), (⟨"LastPennyModel", "longest", "()I"⟩, 26), (⟨"LastPennyModel", "stakesActs", "(I)I"⟩, 26), (⟨"LastPennyModel", "ranBody", "(I)V"⟩, 26), (⟨"LastPennyModel", "plainStakes", "(I)I"⟩, 26), (⟨"LastPennyModel", "throwsActs", "(I)I"⟩, 26)]
theorem lw_r3 : ∀ q ∈ lw_privs_3, lw_okq q := List.forall_mem_cons.mpr ⟨lw_p32, List.forall_mem_cons.mpr ⟨lw_p33, List.forall_mem_cons.mpr ⟨lw_p34, List.forall_mem_cons.mpr ⟨lw_p35, List.forall_mem_cons.mpr ⟨lw_p36, List.forall_mem_cons.mpr ⟨lw_p37, List.forall_mem_cons.mpr ⟨lw_p38, List.forall_mem_cons.mpr ⟨lw_p39, List.forall_mem_cons.mpr ⟨lw_p40, List.forall_mem_cons.mpr ⟨lw_p41, List.forall_mem_cons.mpr ⟨lw_p42, List.forall_mem_cons.mpr ⟨lw_p43, List.forall_mem_cons.mpr ⟨lw_p44, List.forall_mem_cons.mpr ⟨lw_p45, List.forall_mem_cons.mpr ⟨lw_p46, List.forall_mem_cons.mpr ⟨lw_p47, fun _ h => absurd h List.not_mem_nil⟩⟩⟩⟩⟩⟩⟩⟩⟩⟩⟩⟩⟩⟩⟩⟩
theorem lw_p48 : lw_okq (⟨"LastPennyModel", "plainThrows", "(I)I"⟩, 26) := ⟨⟨by decide +kernel, by decide +kernel⟩, List.mem_of_getElem? (i := 895) (by decide +kernel), List.mem_of_getElem? (i := 1230) (by decide +kernel), List.mem_of_getElem? (i := 1231) (by decide +kernel)⟩
theorem lw_p49 : lw_okq (⟨"LastPennyModel", "countsActs", "(I)I"⟩, 26) := ⟨⟨by decide +kernel, by decide +kernel⟩, List.mem_of_getElem? (i := 895) (by decide +kernel), List.mem_of_getElem? (i := 1234) (by decide +kernel), List.mem_of_getElem? (i := 1235) (by decide +kernel)⟩
theorem lw_p50 : lw_okq (⟨"LastPennyModel", "plainCounts", "(I)I"⟩, 26) := ⟨⟨by decide +kernel, by decide +kernel⟩, List.mem_of_getElem? (i := 895) (by decide +kernel), List.mem_of_getElem? (i := 1238) (by decide +kernel), List.mem_of_getElem? (i := 1239) (by decide +kernel)⟩
def lw_privs_4 : List (MethodName × Nat) := [(⟨"LastPennyModel", "plainThrows", "(I)I"⟩, 26), (⟨"LastPennyModel", "countsActs", "(I)I"⟩, 26), (⟨"LastPennyModel", "plainCounts", "(I)I"⟩, 26)]
theorem lw_r4 : ∀ q ∈ lw_privs_4, lw_okq q := List.forall_mem_cons.mpr ⟨lw_p48, List.forall_mem_cons.mpr ⟨lw_p49, List.forall_mem_cons.mpr ⟨lw_p50, fun _ h => absurd h List.not_mem_nil⟩⟩⟩
def lw_privs : List (MethodName × Nat) := lw_privs_1 ++ (lw_privs_2 ++ (lw_privs_3 ++ (lw_privs_4)))
def lw_tbl : List Cond := k2_sels lw_privs ++ tables_1
theorem lw_privs_ok : ∀ q ∈ lw_privs, lw_okq q := by
  show ∀ q ∈ lw_privs_1 ++ (lw_privs_2 ++ (lw_privs_3 ++ (lw_privs_4))), lw_okq q
  exact List.forall_mem_append.mpr ⟨lw_r1, List.forall_mem_append.mpr ⟨lw_r2, List.forall_mem_append.mpr ⟨lw_r3, lw_r4⟩⟩⟩
end
section
def RX0 : String := "LastPenny$Bold"
def TX0 : u_T := fun k => match k with
  | 0 => ("LastPenny$Penny", "kind", "I", true)
  | 1 => ("LastPenny$Penny", "number", "I", true)
  | 2 => ("LastPenny$Penny", "v", "I", true)
  | _ => ("LastPenny$Penny", "goal", "I", true)
def tyX0 : Nat → FieldType := fun k => match k with
  | 0 => .int
  | 1 => .int
  | 2 => .int
  | _ => .int
abbrev wsX00 : List Cond := u_ws RX0 TX0 4
theorem nmX0 : ∀ a, a < 4 → ∀ b, b < 4 → a ≠ b → (TX0 a).2.1 ≠ (TX0 b).2.1 := by decide +kernel
theorem tyX0_ok : ∀ k, k < 4 → parseFieldDescriptor (TX0 k).2.2.1 = some (tyX0 k) := by decide +kernel
abbrev cX0_init : ByteArray := prog_2_method_1_code
def yX0_init : MethodName := ⟨RX0, "<init>", "(IIII)V"⟩
abbrev cX0_wish : ByteArray := prog_2_method_2_code
def yX0_wish : MethodName := ⟨RX0, "wish", "(II)I"⟩
abbrev cX0_stakesAct : ByteArray := prog_2_method_3_code
def yX0_stakesAct : MethodName := ⟨RX0, "stakesAct", "(I[I)I"⟩
def RX1 : String := "LastPenny$Careful"
def TX1 : u_T := fun k => match k with
  | 0 => ("LastPenny$Penny", "kind", "I", true)
  | 1 => ("LastPenny$Penny", "number", "I", true)
  | 2 => ("LastPenny$Penny", "v", "I", true)
  | _ => ("LastPenny$Penny", "goal", "I", true)
def tyX1 : Nat → FieldType := fun k => match k with
  | 0 => .int
  | 1 => .int
  | 2 => .int
  | _ => .int
abbrev wsX10 : List Cond := u_ws RX1 TX1 4
theorem nmX1 : ∀ a, a < 4 → ∀ b, b < 4 → a ≠ b → (TX1 a).2.1 ≠ (TX1 b).2.1 := by decide +kernel
theorem tyX1_ok : ∀ k, k < 4 → parseFieldDescriptor (TX1 k).2.2.1 = some (tyX1 k) := by decide +kernel
abbrev cX1_init : ByteArray := prog_3_method_1_code
def yX1_init : MethodName := ⟨RX1, "<init>", "(IIII)V"⟩
abbrev cX1_wish : ByteArray := prog_3_method_2_code
def yX1_wish : MethodName := ⟨RX1, "wish", "(II)I"⟩
abbrev cX1_stakesAct : ByteArray := prog_3_method_3_code
def yX1_stakesAct : MethodName := ⟨RX1, "stakesAct", "(I[I)I"⟩
def RX2 : String := "LastPenny$Chances"
def TX2 : u_T := fun k => match k with
  | 0 => ("LastPenny$Chances", "now", "[J", true)
  | 1 => ("LastPenny$Chances", "next", "[J", true)
  | 2 => ("LastPenny$Chances", "ways", "J", false)
  | 3 => ("LastPenny$Chances", "made", "J", false)
  | 4 => ("LastPenny$Chances", "firstStakes", "[I", true)
  | 5 => ("LastPenny$Chances", "stakes", "[I", true)
  | 6 => ("LastPenny$Chances", "odds", "[I", true)
  | 7 => ("LastPenny$Chances", "anyOdds", "[I", true)
  | 8 => ("LastPenny$Chances", "trioNow", "[J", false)
  | 9 => ("LastPenny$Chances", "trioNext", "[J", false)
  | 10 => ("LastPenny$Chances", "trioHas", "[I", true)
  | _ => ("LastPenny$Chances", "outs", "[J", true)
def tyX2 : Nat → FieldType := fun k => match k with
  | 0 => .array .long
  | 1 => .array .long
  | 2 => .long
  | 3 => .long
  | 4 => .array .int
  | 5 => .array .int
  | 6 => .array .int
  | 7 => .array .int
  | 8 => .array .long
  | 9 => .array .long
  | 10 => .array .int
  | _ => .array .long
abbrev wsX20 : List Cond := u_ws RX2 TX2 12
theorem nmX2 : ∀ a, a < 12 → ∀ b, b < 12 → a ≠ b → (TX2 a).2.1 ≠ (TX2 b).2.1 := by decide +kernel
theorem tyX2_ok : ∀ k, k < 12 → parseFieldDescriptor (TX2 k).2.2.1 = some (tyX2 k) := by decide +kernel
abbrev cX2_init : ByteArray := prog_4_method_1_code
def yX2_init : MethodName := ⟨RX2, "<init>", "()V"⟩
abbrev cX2_spread : ByteArray := prog_4_method_2_code
def yX2_spread : MethodName := ⟨RX2, "spread", "(LLastPenny$State;LLastPenny$Penny;I)V"⟩
abbrev cX2_spreadOnce : ByteArray := prog_4_method_3_code
def yX2_spreadOnce : MethodName := ⟨RX2, "spreadOnce", "(I)V"⟩
abbrev cX2_pennies : ByteArray := prog_4_method_4_code
def yX2_pennies : MethodName := ⟨RX2, "pennies", "(I)J"⟩
abbrev cX2_lookAtPennyOdds : ByteArray := prog_4_method_5_code
def yX2_lookAtPennyOdds : MethodName := ⟨RX2, "lookAtPennyOdds", "(LLastPenny$State;LLastPenny$Penny;)V"⟩
abbrev cX2_climbed : ByteArray := prog_4_method_6_code
def yX2_climbed : MethodName := ⟨RX2, "climbed", "(II)J"⟩
abbrev cX2_lookAtOdds : ByteArray := prog_4_method_7_code
def yX2_lookAtOdds : MethodName := ⟨RX2, "lookAtOdds", "(LLastPenny$State;LLastPenny$Penny;)V"⟩
abbrev cX2_search : ByteArray := prog_4_method_8_code
def yX2_search : MethodName := ⟨RX2, "search", "(III)V"⟩
abbrev cX2_chooseStake : ByteArray := prog_4_method_9_code
def yX2_chooseStake : MethodName := ⟨RX2, "chooseStake", "(II)V"⟩
abbrev cX2_playTrio : ByteArray := prog_4_method_10_code
def yX2_playTrio : MethodName := ⟨RX2, "playTrio", "(IIII)V"⟩
abbrev cX2_playTrioOnce : ByteArray := prog_4_method_11_code
def yX2_playTrioOnce : MethodName := ⟨RX2, "playTrioOnce", "(I)V"⟩
abbrev cX2_giveAPenny : ByteArray := prog_4_method_12_code
def yX2_giveAPenny : MethodName := ⟨RX2, "giveAPenny", "(III)V"⟩
abbrev cX2_streaks : ByteArray := prog_4_method_13_code
def yX2_streaks : MethodName := ⟨RX2, "streaks", "(III)J"⟩
def RX3 : String := "LastPenny$Drunk"
def TX3 : u_T := fun k => match k with
  | 0 => ("LastPenny$Penny", "kind", "I", true)
  | 1 => ("LastPenny$Penny", "number", "I", true)
  | 2 => ("LastPenny$Penny", "v", "I", true)
  | _ => ("LastPenny$Penny", "goal", "I", true)
def tyX3 : Nat → FieldType := fun k => match k with
  | 0 => .int
  | 1 => .int
  | 2 => .int
  | _ => .int
abbrev wsX30 : List Cond := u_ws RX3 TX3 4
theorem nmX3 : ∀ a, a < 4 → ∀ b, b < 4 → a ≠ b → (TX3 a).2.1 ≠ (TX3 b).2.1 := by decide +kernel
theorem tyX3_ok : ∀ k, k < 4 → parseFieldDescriptor (TX3 k).2.2.1 = some (tyX3 k) := by decide +kernel
abbrev cX3_init : ByteArray := prog_5_method_1_code
def yX3_init : MethodName := ⟨RX3, "<init>", "(IIII)V"⟩
abbrev cX3_wish : ByteArray := prog_5_method_2_code
def yX3_wish : MethodName := ⟨RX3, "wish", "(II)I"⟩
abbrev cX3_countsAct : ByteArray := prog_5_method_3_code
def yX3_countsAct : MethodName := ⟨RX3, "countsAct", "(I[I)I"⟩
def RX4 : String := "LastPenny$Penny"
def TX4 : u_T := fun k => match k with
  | 0 => ("LastPenny$Penny", "kind", "I", true)
  | 1 => ("LastPenny$Penny", "number", "I", true)
  | 2 => ("LastPenny$Penny", "v", "I", true)
  | _ => ("LastPenny$Penny", "goal", "I", true)
def tyX4 : Nat → FieldType := fun k => match k with
  | 0 => .int
  | 1 => .int
  | 2 => .int
  | _ => .int
abbrev wsX40 : List Cond := u_ws RX4 TX4 4
theorem nmX4 : ∀ a, a < 4 → ∀ b, b < 4 → a ≠ b → (TX4 a).2.1 ≠ (TX4 b).2.1 := by decide +kernel
theorem tyX4_ok : ∀ k, k < 4 → parseFieldDescriptor (TX4 k).2.2.1 = some (tyX4 k) := by decide +kernel
abbrev cX4_init : ByteArray := prog_6_method_1_code
def yX4_init : MethodName := ⟨RX4, "<init>", "(IIII)V"⟩
abbrev cX4_isOver : ByteArray := prog_6_method_2_code
def yX4_isOver : MethodName := ⟨RX4, "isOver", "(I)Z"⟩
abbrev cX4_wish : ByteArray := prog_6_method_3_code
def yX4_wish : MethodName := ⟨RX4, "wish", "(II)I"⟩
abbrev cX4_stakesAct : ByteArray := prog_6_method_4_code
def yX4_stakesAct : MethodName := ⟨RX4, "stakesAct", "(I[I)I"⟩
abbrev cX4_throwsAct : ByteArray := prog_6_method_5_code
def yX4_throwsAct : MethodName := ⟨RX4, "throwsAct", "(I[I)I"⟩
abbrev cX4_countsAct : ByteArray := prog_6_method_6_code
def yX4_countsAct : MethodName := ⟨RX4, "countsAct", "(I[I)I"⟩
abbrev cX4_began : ByteArray := prog_6_method_7_code
def yX4_began : MethodName := ⟨RX4, "began", "(I[I)V"⟩
def RX5 : String := "LastPenny$Reader"
def TX5 : u_T := fun k => match k with
  | 0 => ("LastPenny$Reader", "text", "[B", false)
  | 1 => ("LastPenny$Reader", "size", "I", false)
  | 2 => ("LastPenny$Reader", "at", "I", false)
  | 3 => ("LastPenny$Reader", "weights", "[I", true)
  | 4 => ("LastPenny$Reader", "ends", "[I", true)
  | 5 => ("LastPenny$Reader", "leanings", "I", false)
  | 6 => ("LastPenny$Reader", "code", "[I", true)
  | 7 => ("LastPenny$Reader", "codeSize", "I", false)
  | _ => ("LastPenny$Reader", "limit", "I", false)
def tyX5 : Nat → FieldType := fun k => match k with
  | 0 => .array .byte
  | 1 => .int
  | 2 => .int
  | 3 => .array .int
  | 4 => .array .int
  | 5 => .int
  | 6 => .array .int
  | 7 => .int
  | _ => .int
abbrev wsX50 : List Cond := u_ws RX5 TX5 9
theorem nmX5 : ∀ a, a < 9 → ∀ b, b < 9 → a ≠ b → (TX5 a).2.1 ≠ (TX5 b).2.1 := by decide +kernel
theorem tyX5_ok : ∀ k, k < 9 → parseFieldDescriptor (TX5 k).2.2.1 = some (tyX5 k) := by decide +kernel
abbrev cX5_init : ByteArray := prog_7_method_1_code
def yX5_init : MethodName := ⟨RX5, "<init>", "()V"⟩
abbrev cX5_read : ByteArray := prog_7_method_2_code
def yX5_read : MethodName := ⟨RX5, "read", "([BI)Z"⟩
abbrev cX5_made : ByteArray := prog_7_method_3_code
def yX5_made : MethodName := ⟨RX5, "made", "()LLastPenny$Table;"⟩
abbrev cX5_take : ByteArray := prog_7_method_4_code
def yX5_take : MethodName := ⟨RX5, "take", "(C)Z"⟩
abbrev cX5_takeAll : ByteArray := prog_7_method_5_code
def yX5_takeAll : MethodName := ⟨RX5, "takeAll", "(Ljava/lang/String;)Z"⟩
abbrev cX5_takeOneOf : ByteArray := prog_7_method_6_code
def yX5_takeOneOf : MethodName := ⟨RX5, "takeOneOf", "(Ljava/lang/String;)I"⟩
abbrev cX5_readNumber : ByteArray := prog_7_method_7_code
def yX5_readNumber : MethodName := ⟨RX5, "readNumber", "()I"⟩
abbrev cX5_readClause : ByteArray := prog_7_method_8_code
def yX5_readClause : MethodName := ⟨RX5, "readClause", "()Z"⟩
abbrev cX5_readWord : ByteArray := prog_7_method_9_code
def yX5_readWord : MethodName := ⟨RX5, "readWord", "()I"⟩
abbrev cX5_readEither : ByteArray := prog_7_method_10_code
def yX5_readEither : MethodName := ⟨RX5, "readEither", "(I)Z"⟩
abbrev cX5_readSingle : ByteArray := prog_7_method_11_code
def yX5_readSingle : MethodName := ⟨RX5, "readSingle", "(I)Z"⟩
abbrev cX5_readTest : ByteArray := prog_7_method_12_code
def yX5_readTest : MethodName := ⟨RX5, "readTest", "()Z"⟩
abbrev cX5_put : ByteArray := prog_7_method_13_code
def yX5_put : MethodName := ⟨RX5, "put", "(I)V"⟩
def RX6 : String := "LastPenny$State"
def TX6 : u_T := fun k => match k with
  | 0 => ("LastPenny$State", "tape", "[B", true)
  | 1 => ("LastPenny$State", "signs", "I", false)
  | 2 => ("LastPenny$State", "tables", "[LLastPenny$Table;", true)
  | 3 => ("LastPenny$State", "tableCount", "I", false)
  | 4 => ("LastPenny$State", "players", "[LLastPenny$Penny;", true)
  | 5 => ("LastPenny$State", "purses", "[I", true)
  | 6 => ("LastPenny$State", "rows", "[I", true)
  | 7 => ("LastPenny$State", "playerCount", "I", false)
  | 8 => ("LastPenny$State", "today", "I", false)
  | 9 => ("LastPenny$State", "tosses", "I", false)
  | 10 => ("LastPenny$State", "wonTosses", "I", false)
  | _ => ("LastPenny$State", "sight", "[I", true)
def tyX6 : Nat → FieldType := fun k => match k with
  | 0 => .array .byte
  | 1 => .int
  | 2 => .array (.object "LastPenny$Table")
  | 3 => .int
  | 4 => .array (.object "LastPenny$Penny")
  | 5 => .array .int
  | 6 => .array .int
  | 7 => .int
  | 8 => .int
  | 9 => .int
  | 10 => .int
  | _ => .array .int
abbrev wsX60 : List Cond := u_ws RX6 TX6 12
theorem nmX6 : ∀ a, a < 12 → ∀ b, b < 12 → a ≠ b → (TX6 a).2.1 ≠ (TX6 b).2.1 := by decide +kernel
theorem tyX6_ok : ∀ k, k < 12 → parseFieldDescriptor (TX6 k).2.2.1 = some (tyX6 k) := by decide +kernel
abbrev cX6_init : ByteArray := prog_8_method_1_code
def yX6_init : MethodName := ⟨RX6, "<init>", "()V"⟩
abbrev cX6_become : ByteArray := prog_8_method_2_code
def yX6_become : MethodName := ⟨RX6, "become", "(LLastPenny$State;)V"⟩
abbrev cX6_playerAt : ByteArray := prog_8_method_3_code
def yX6_playerAt : MethodName := ⟨RX6, "playerAt", "(I)LLastPenny$Penny;"⟩
abbrev cX6_holding : ByteArray := prog_8_method_4_code
def yX6_holding : MethodName := ⟨RX6, "holding", "()LLastPenny$Table;"⟩
abbrev cX6_limit : ByteArray := prog_8_method_5_code
def yX6_limit : MethodName := ⟨RX6, "limit", "()I"⟩
abbrev cX6_stake : ByteArray := prog_8_method_6_code
def yX6_stake : MethodName := ⟨RX6, "stake", "(LLastPenny$Penny;I)I"⟩
abbrev cX6_odds : ByteArray := prog_8_method_7_code
def yX6_odds : MethodName := ⟨RX6, "odds", "(LLastPenny$Penny;II)I"⟩
abbrev cX6_thrown : ByteArray := prog_8_method_8_code
def yX6_thrown : MethodName := ⟨RX6, "thrown", "(LLastPenny$Penny;IZ)I"⟩
abbrev cX6_addToss : ByteArray := prog_8_method_9_code
def yX6_addToss : MethodName := ⟨RX6, "addToss", "(Z)V"⟩
abbrev cX6_isWon : ByteArray := prog_8_method_10_code
def yX6_isWon : MethodName := ⟨RX6, "isWon", "(I)Z"⟩
abbrev cX6_seemingOdds : ByteArray := prog_8_method_11_code
def yX6_seemingOdds : MethodName := ⟨RX6, "seemingOdds", "()I"⟩
abbrev cX6_longestRun : ByteArray := prog_8_method_12_code
def yX6_longestRun : MethodName := ⟨RX6, "longestRun", "()I"⟩
def RX7 : String := "LastPenny$Systematic"
def TX7 : u_T := fun k => match k with
  | 0 => ("LastPenny$Penny", "kind", "I", true)
  | 1 => ("LastPenny$Penny", "number", "I", true)
  | 2 => ("LastPenny$Penny", "v", "I", true)
  | _ => ("LastPenny$Penny", "goal", "I", true)
def tyX7 : Nat → FieldType := fun k => match k with
  | 0 => .int
  | 1 => .int
  | 2 => .int
  | _ => .int
abbrev wsX70 : List Cond := u_ws RX7 TX7 4
theorem nmX7 : ∀ a, a < 4 → ∀ b, b < 4 → a ≠ b → (TX7 a).2.1 ≠ (TX7 b).2.1 := by decide +kernel
theorem tyX7_ok : ∀ k, k < 4 → parseFieldDescriptor (TX7 k).2.2.1 = some (tyX7 k) := by decide +kernel
abbrev cX7_init : ByteArray := prog_9_method_1_code
def yX7_init : MethodName := ⟨RX7, "<init>", "(IIII)V"⟩
abbrev cX7_wish : ByteArray := prog_9_method_2_code
def yX7_wish : MethodName := ⟨RX7, "wish", "(II)I"⟩
abbrev cX7_countsAct : ByteArray := prog_9_method_3_code
def yX7_countsAct : MethodName := ⟨RX7, "countsAct", "(I[I)I"⟩
def RX8 : String := "LastPenny$Table"
def TX8 : u_T := fun k => match k with
  | 0 => ("LastPenny$Table", "weights", "[I", true)
  | 1 => ("LastPenny$Table", "ends", "[I", true)
  | 2 => ("LastPenny$Table", "code", "[I", true)
  | _ => ("LastPenny$Table", "limit", "I", true)
def tyX8 : Nat → FieldType := fun k => match k with
  | 0 => .array .int
  | 1 => .array .int
  | 2 => .array .int
  | _ => .int
abbrev wsX80 : List Cond := u_ws RX8 TX8 4
theorem nmX8 : ∀ a, a < 4 → ∀ b, b < 4 → a ≠ b → (TX8 a).2.1 ≠ (TX8 b).2.1 := by decide +kernel
theorem tyX8_ok : ∀ k, k < 4 → parseFieldDescriptor (TX8 k).2.2.1 = some (tyX8 k) := by decide +kernel
abbrev cX8_init : ByteArray := prog_10_method_1_code
def yX8_init : MethodName := ⟨RX8, "<init>", "([I[I[II)V"⟩
abbrev cX8_leaning : ByteArray := prog_10_method_2_code
def yX8_leaning : MethodName := ⟨RX8, "leaning", "([I)I"⟩
abbrev cX8_holds : ByteArray := prog_10_method_3_code
def yX8_holds : MethodName := ⟨RX8, "holds", "(II[I)Z"⟩
abbrev cX8_passes : ByteArray := prog_10_method_4_code
def yX8_passes : MethodName := ⟨RX8, "passes", "(I[I)Z"⟩
def RX9 : String := "LastPenny$Timid"
def TX9 : u_T := fun k => match k with
  | 0 => ("LastPenny$Penny", "kind", "I", true)
  | 1 => ("LastPenny$Penny", "number", "I", true)
  | 2 => ("LastPenny$Penny", "v", "I", true)
  | _ => ("LastPenny$Penny", "goal", "I", true)
def tyX9 : Nat → FieldType := fun k => match k with
  | 0 => .int
  | 1 => .int
  | 2 => .int
  | _ => .int
abbrev wsX90 : List Cond := u_ws RX9 TX9 4
theorem nmX9 : ∀ a, a < 4 → ∀ b, b < 4 → a ≠ b → (TX9 a).2.1 ≠ (TX9 b).2.1 := by decide +kernel
theorem tyX9_ok : ∀ k, k < 4 → parseFieldDescriptor (TX9 k).2.2.1 = some (tyX9 k) := by decide +kernel
abbrev cX9_init : ByteArray := prog_11_method_1_code
def yX9_init : MethodName := ⟨RX9, "<init>", "(IIII)V"⟩
abbrev cX9_wish : ByteArray := prog_11_method_2_code
def yX9_wish : MethodName := ⟨RX9, "wish", "(II)I"⟩
abbrev cX9_throwsAct : ByteArray := prog_11_method_3_code
def yX9_throwsAct : MethodName := ⟨RX9, "throwsAct", "(I[I)I"⟩
def RX10 : String := "LastPenny$Told"
def TX10 : u_T := fun k => match k with
  | 0 => ("LastPenny$Penny", "kind", "I", true)
  | 1 => ("LastPenny$Penny", "number", "I", true)
  | 2 => ("LastPenny$Penny", "v", "I", true)
  | _ => ("LastPenny$Penny", "goal", "I", true)
def tyX10 : Nat → FieldType := fun k => match k with
  | 0 => .int
  | 1 => .int
  | 2 => .int
  | _ => .int
abbrev wsX100 : List Cond := u_ws RX10 TX10 4
theorem nmX10 : ∀ a, a < 4 → ∀ b, b < 4 → a ≠ b → (TX10 a).2.1 ≠ (TX10 b).2.1 := by decide +kernel
theorem tyX10_ok : ∀ k, k < 4 → parseFieldDescriptor (TX10 k).2.2.1 = some (tyX10 k) := by decide +kernel
abbrev cX10_init : ByteArray := prog_12_method_1_code
def yX10_init : MethodName := ⟨RX10, "<init>", "(IIII)V"⟩
abbrev cX10_wish : ByteArray := prog_12_method_2_code
def yX10_wish : MethodName := ⟨RX10, "wish", "(II)I"⟩
abbrev cX10_throwsAct : ByteArray := prog_12_method_3_code
def yX10_throwsAct : MethodName := ⟨RX10, "throwsAct", "(I[I)I"⟩
def RX11 : String := "LastPenny"
def TX11 : u_T := fun k => match k with
  | 0 => ("LastPenny", "all", "LLastPenny$State;", true)
  | 1 => ("LastPenny", "kept", "LLastPenny$State;", true)
  | 2 => ("LastPenny", "hasImage", "Z", false)
  | 3 => ("LastPenny", "chances", "LLastPenny$Chances;", true)
  | 4 => ("LastPenny", "reader", "LLastPenny$Reader;", true)
  | _ => ("LastPenny", "ran", "[I", true)
def tyX11 : Nat → FieldType := fun k => match k with
  | 0 => .object "LastPenny$State"
  | 1 => .object "LastPenny$State"
  | 2 => .boolean
  | 3 => .object "LastPenny$Chances"
  | 4 => .object "LastPenny$Reader"
  | _ => .array .int
abbrev wsX110 : List Cond := u_ws RX11 TX11 6
theorem nmX11 : ∀ a, a < 6 → ∀ b, b < 6 → a ≠ b → (TX11 a).2.1 ≠ (TX11 b).2.1 := by decide +kernel
theorem tyX11_ok : ∀ k, k < 6 → parseFieldDescriptor (TX11 k).2.2.1 = some (tyX11 k) := by decide +kernel
abbrev cX11_init : ByteArray := prog_1_method_1_code
def yX11_init : MethodName := ⟨RX11, "<init>", "()V"⟩
abbrev cX11_feed : ByteArray := prog_1_method_2_code
def yX11_feed : MethodName := ⟨RX11, "feed", "(I)I"⟩
abbrev cX11_table : ByteArray := prog_1_method_3_code
def yX11_table : MethodName := ⟨RX11, "table", "()I"⟩
abbrev cX11_day : ByteArray := prog_1_method_4_code
def yX11_day : MethodName := ⟨RX11, "day", "(I)I"⟩
abbrev cX11_told : ByteArray := prog_1_method_5_code
def yX11_told : MethodName := ⟨RX11, "told", "(I)I"⟩
abbrev cX11_player : ByteArray := prog_1_method_6_code
def yX11_player : MethodName := ⟨RX11, "player", "(IIII)I"⟩
abbrev cX11_of : ByteArray := prog_1_method_7_code
def yX11_of : MethodName := ⟨RX11, "of", "(II)I"⟩
abbrev cX11_purse : ByteArray := prog_1_method_8_code
def yX11_purse : MethodName := ⟨RX11, "purse", "(II)I"⟩
abbrev cX11_row : ByteArray := prog_1_method_9_code
def yX11_row : MethodName := ⟨RX11, "row", "(III)I"⟩
abbrev cX11_play : ByteArray := prog_1_method_10_code
def yX11_play : MethodName := ⟨RX11, "play", "(IZ)I"⟩
abbrev cX11_within : ByteArray := prog_1_method_11_code
def yX11_within : MethodName := ⟨RX11, "within", "(IIII)J"⟩
abbrev cX11_lasts : ByteArray := prog_1_method_12_code
def yX11_lasts : MethodName := ⟨RX11, "lasts", "(III)J"⟩
abbrev cX11_mean : ByteArray := prog_1_method_13_code
def yX11_mean : MethodName := ⟨RX11, "mean", "(III)J"⟩
abbrev cX11_ever : ByteArray := prog_1_method_14_code
def yX11_ever : MethodName := ⟨RX11, "ever", "(II)J"⟩
abbrev cX11_best : ByteArray := prog_1_method_15_code
def yX11_best : MethodName := ⟨RX11, "best", "(II)I"⟩
abbrev cX11_bestChance : ByteArray := prog_1_method_16_code
def yX11_bestChance : MethodName := ⟨RX11, "bestChance", "(III)J"⟩
abbrev cX11_loses : ByteArray := prog_1_method_17_code
def yX11_loses : MethodName := ⟨RX11, "loses", "(III)J"⟩
abbrev cX11_room : ByteArray := prog_1_method_18_code
def yX11_room : MethodName := ⟨RX11, "room", "(II)I"⟩
abbrev cX11_trio : ByteArray := prog_1_method_19_code
def yX11_trio : MethodName := ⟨RX11, "trio", "(IIII)J"⟩
abbrev cX11_streak : ByteArray := prog_1_method_20_code
def yX11_streak : MethodName := ⟨RX11, "streak", "(IIII)J"⟩
abbrev cX11_toss : ByteArray := prog_1_method_21_code
def yX11_toss : MethodName := ⟨RX11, "toss", "(Z)I"⟩
abbrev cX11_clear : ByteArray := prog_1_method_22_code
def yX11_clear : MethodName := ⟨RX11, "clear", "()I"⟩
abbrev cX11_by : ByteArray := prog_1_method_23_code
def yX11_by : MethodName := ⟨RX11, "by", "(II)I"⟩
abbrev cX11_seen : ByteArray := prog_1_method_24_code
def yX11_seen : MethodName := ⟨RX11, "seen", "(I)I"⟩
abbrev cX11_act : ByteArray := prog_1_method_25_code
def yX11_act : MethodName := ⟨RX11, "act", "(III)I"⟩
abbrev cX11_trace : ByteArray := prog_1_method_26_code
def yX11_trace : MethodName := ⟨RX11, "trace", "(I)I"⟩
abbrev cX11_as : ByteArray := prog_1_method_27_code
def yX11_as : MethodName := ⟨RX11, "as", "(II)I"⟩
abbrev cX11_image : ByteArray := prog_1_method_28_code
def yX11_image : MethodName := ⟨RX11, "image", "()I"⟩
abbrev cX11_undo : ByteArray := prog_1_method_29_code
def yX11_undo : MethodName := ⟨RX11, "undo", "()I"⟩
abbrev cX11_count : ByteArray := prog_1_method_30_code
def yX11_count : MethodName := ⟨RX11, "count", "(I)I"⟩
abbrev cX11_isDigit : ByteArray := prog_1_method_31_code
def yX11_isDigit : MethodName := ⟨RX11, "isDigit", "(I)Z"⟩
abbrev cX11_isSpan : ByteArray := prog_1_method_32_code
def yX11_isSpan : MethodName := ⟨RX11, "isSpan", "(I)Z"⟩
abbrev cX11_isPart : ByteArray := prog_1_method_33_code
def yX11_isPart : MethodName := ⟨RX11, "isPart", "(I)Z"⟩
abbrev cX11_isTrioPurse : ByteArray := prog_1_method_34_code
def yX11_isTrioPurse : MethodName := ⟨RX11, "isTrioPurse", "(I)Z"⟩
abbrev cX11_isOfKind : ByteArray := prog_1_method_35_code
def yX11_isOfKind : MethodName := ⟨RX11, "isOfKind", "(LLastPenny$Penny;I)Z"⟩
abbrev cX11_newPlayer : ByteArray := prog_1_method_36_code
def yX11_newPlayer : MethodName := ⟨RX11, "newPlayer", "(IIII)LLastPenny$Penny;"⟩
abbrev cX11_lowest : ByteArray := prog_1_method_37_code
def yX11_lowest : MethodName := ⟨RX11, "lowest", "(JJI)J"⟩
def RX12 : String := "LastPennyModel"
def TX12 : u_T := fun k => match k with
  | 0 => ("LastPennyModel", "thrown", "I", false)
  | 1 => ("LastPennyModel", "s", "[I", true)
  | 2 => ("LastPennyModel", "image", "[I", true)
  | 3 => ("LastPennyModel", "hasImage", "Z", false)
  | 4 => ("LastPennyModel", "act", "I", false)
  | 5 => ("LastPennyModel", "spot", "I", false)
  | 6 => ("LastPennyModel", "end", "I", false)
  | 7 => ("LastPennyModel", "isWrong", "Z", false)
  | 8 => ("LastPennyModel", "open", "I", false)
  | 9 => ("LastPennyModel", "by", "[I", true)
  | 10 => ("LastPennyModel", "truths", "[Z", true)
  | 11 => ("LastPennyModel", "often", "[J", true)
  | 12 => ("LastPennyModel", "then", "[J", true)
  | 13 => ("LastPennyModel", "made", "J", false)
  | 14 => ("LastPennyModel", "chances", "[J", true)
  | 15 => ("LastPennyModel", "nextChances", "[J", true)
  | 16 => ("LastPennyModel", "firstStake", "I", false)
  | 17 => ("LastPennyModel", "threes", "[J", true)
  | 18 => ("LastPennyModel", "nextThrees", "[J", true)
  | 19 => ("LastPennyModel", "losses", "[J", true)
  | 20 => ("LastPennyModel", "nextLosses", "[J", true)
  | 21 => ("LastPennyModel", "bodies", "[I", true)
  | 22 => ("LastPennyModel", "ran", "I", false)
  | 23 => ("LastPennyModel", "kind", "I", false)
  | 24 => ("LastPennyModel", "number", "I", false)
  | _ => ("LastPennyModel", "tellsV", "I", false)
def tyX12 : Nat → FieldType := fun k => match k with
  | 0 => .int
  | 1 => .array .int
  | 2 => .array .int
  | 3 => .boolean
  | 4 => .int
  | 5 => .int
  | 6 => .int
  | 7 => .boolean
  | 8 => .int
  | 9 => .array .int
  | 10 => .array .boolean
  | 11 => .array .long
  | 12 => .array .long
  | 13 => .long
  | 14 => .array .long
  | 15 => .array .long
  | 16 => .int
  | 17 => .array .long
  | 18 => .array .long
  | 19 => .array .long
  | 20 => .array .long
  | 21 => .array .int
  | 22 => .int
  | 23 => .int
  | 24 => .int
  | _ => .int
abbrev wsX120 : List Cond := u_ws RX12 TX12 26
theorem nmX12 : ∀ a, a < 26 → ∀ b, b < 26 → a ≠ b → (TX12 a).2.1 ≠ (TX12 b).2.1 := by decide +kernel
theorem tyX12_ok : ∀ k, k < 26 → parseFieldDescriptor (TX12 k).2.2.1 = some (tyX12 k) := by decide +kernel
abbrev cX12_init : ByteArray := prog_14_method_1_code
def yX12_init : MethodName := ⟨RX12, "<init>", "()V"⟩
abbrev cX12_in : ByteArray := prog_14_method_3_code
def yX12_in : MethodName := ⟨RX12, "in", "(III)Z"⟩
abbrev cX12_lesser : ByteArray := prog_14_method_4_code
def yX12_lesser : MethodName := ⟨RX12, "lesser", "(II)I"⟩
abbrev cX12_isPlayer : ByteArray := prog_14_method_5_code
def yX12_isPlayer : MethodName := ⟨RX12, "isPlayer", "(I)Z"⟩
abbrev cX12_isOver : ByteArray := prog_14_method_6_code
def yX12_isOver : MethodName := ⟨RX12, "isOver", "(I)Z"⟩
abbrev cX12_feed : ByteArray := prog_14_method_7_code
def yX12_feed : MethodName := ⟨RX12, "feed", "(I)I"⟩
abbrev cX12_here : ByteArray := prog_14_method_8_code
def yX12_here : MethodName := ⟨RX12, "here", "()I"⟩
abbrev cX12_must : ByteArray := prog_14_method_9_code
def yX12_must : MethodName := ⟨RX12, "must", "(I)V"⟩
abbrev cX12_spells : ByteArray := prog_14_method_10_code
def yX12_spells : MethodName := ⟨RX12, "spells", "(Ljava/lang/String;)V"⟩
abbrev cX12_figures : ByteArray := prog_14_method_11_code
def yX12_figures : MethodName := ⟨RX12, "figures", "()I"⟩
abbrev cX12_among : ByteArray := prog_14_method_12_code
def yX12_among : MethodName := ⟨RX12, "among", "(Ljava/lang/String;)I"⟩
abbrev cX12_emits : ByteArray := prog_14_method_13_code
def yX12_emits : MethodName := ⟨RX12, "emits", "(I)V"⟩
abbrev cX12_factor : ByteArray := prog_14_method_14_code
def yX12_factor : MethodName := ⟨RX12, "factor", "()V"⟩
abbrev cX12_every : ByteArray := prog_14_method_15_code
def yX12_every : MethodName := ⟨RX12, "every", "()V"⟩
abbrev cX12_some : ByteArray := prog_14_method_16_code
def yX12_some : MethodName := ⟨RX12, "some", "()V"⟩
abbrev cX12_much : ByteArray := prog_14_method_17_code
def yX12_much : MethodName := ⟨RX12, "much", "(ILjava/lang/String;)V"⟩
abbrev cX12_clauseOfL : ByteArray := prog_14_method_18_code
def yX12_clauseOfL : MethodName := ⟨RX12, "clauseOfL", "()V"⟩
abbrev cX12_clauseHere : ByteArray := prog_14_method_19_code
def yX12_clauseHere : MethodName := ⟨RX12, "clauseHere", "()V"⟩
abbrev cX12_table : ByteArray := prog_14_method_20_code
def yX12_table : MethodName := ⟨RX12, "table", "()I"⟩
abbrev cX12_limit : ByteArray := prog_14_method_21_code
def yX12_limit : MethodName := ⟨RX12, "limit", "()I"⟩
abbrev cX12_day : ByteArray := prog_14_method_22_code
def yX12_day : MethodName := ⟨RX12, "day", "(I)I"⟩
abbrev cX12_told : ByteArray := prog_14_method_23_code
def yX12_told : MethodName := ⟨RX12, "told", "(I)I"⟩
abbrev cX12_player : ByteArray := prog_14_method_24_code
def yX12_player : MethodName := ⟨RX12, "player", "(IIII)I"⟩
abbrev cX12_purse : ByteArray := prog_14_method_25_code
def yX12_purse : MethodName := ⟨RX12, "purse", "(II)I"⟩
abbrev cX12_row : ByteArray := prog_14_method_26_code
def yX12_row : MethodName := ⟨RX12, "row", "(III)I"⟩
abbrev cX12_oddsOf : ByteArray := prog_14_method_27_code
def yX12_oddsOf : MethodName := ⟨RX12, "oddsOf", "(III)I"⟩
abbrev cX12_wishesFor : ByteArray := prog_14_method_28_code
def yX12_wishesFor : MethodName := ⟨RX12, "wishesFor", "(II)I"⟩
abbrev cX12_mostOf : ByteArray := prog_14_method_29_code
def yX12_mostOf : MethodName := ⟨RX12, "mostOf", "(II)I"⟩
abbrev cX12_stakeOf : ByteArray := prog_14_method_30_code
def yX12_stakeOf : MethodName := ⟨RX12, "stakeOf", "(II)I"⟩
abbrev cX12_of : ByteArray := prog_14_method_31_code
def yX12_of : MethodName := ⟨RX12, "of", "(II)I"⟩
abbrev cX12_goes : ByteArray := prog_14_method_32_code
def yX12_goes : MethodName := ⟨RX12, "goes", "(IZ)V"⟩
abbrev cX12_play : ByteArray := prog_14_method_33_code
def yX12_play : MethodName := ⟨RX12, "play", "(IZ)I"⟩
abbrev cX12_tens : ByteArray := prog_14_method_34_code
def yX12_tens : MethodName := ⟨RX12, "tens", "(I)J"⟩
abbrev cX12_throwsOn : ByteArray := prog_14_method_35_code
def yX12_throwsOn : MethodName := ⟨RX12, "throwsOn", "(II)V"⟩
abbrev cX12_lowest : ByteArray := prog_14_method_36_code
def yX12_lowest : MethodName := ⟨RX12, "lowest", "(JJI)J"⟩
abbrev cX12_isAsked : ByteArray := prog_14_method_37_code
def yX12_isAsked : MethodName := ⟨RX12, "isAsked", "(III)Z"⟩
abbrev cX12_within : ByteArray := prog_14_method_38_code
def yX12_within : MethodName := ⟨RX12, "within", "(IIII)J"⟩
abbrev cX12_lasts : ByteArray := prog_14_method_39_code
def yX12_lasts : MethodName := ⟨RX12, "lasts", "(III)J"⟩
abbrev cX12_mean : ByteArray := prog_14_method_40_code
def yX12_mean : MethodName := ⟨RX12, "mean", "(III)J"⟩
abbrev cX12_ever : ByteArray := prog_14_method_41_code
def yX12_ever : MethodName := ⟨RX12, "ever", "(II)J"⟩
abbrev cX12_chanceBy : ByteArray := prog_14_method_42_code
def yX12_chanceBy : MethodName := ⟨RX12, "chanceBy", "(III)J"⟩
abbrev cX12_bestOf : ByteArray := prog_14_method_43_code
def yX12_bestOf : MethodName := ⟨RX12, "bestOf", "(II)J"⟩
abbrev cX12_best : ByteArray := prog_14_method_44_code
def yX12_best : MethodName := ⟨RX12, "best", "(II)I"⟩
abbrev cX12_bestChance : ByteArray := prog_14_method_45_code
def yX12_bestChance : MethodName := ⟨RX12, "bestChance", "(III)J"⟩
abbrev cX12_loses : ByteArray := prog_14_method_46_code
def yX12_loses : MethodName := ⟨RX12, "loses", "(III)J"⟩
abbrev cX12_room : ByteArray := prog_14_method_47_code
def yX12_room : MethodName := ⟨RX12, "room", "(II)I"⟩
abbrev cX12_gives : ByteArray := prog_14_method_48_code
def yX12_gives : MethodName := ⟨RX12, "gives", "(IIJ)V"⟩
abbrev cX12_threesOn : ByteArray := prog_14_method_49_code
def yX12_threesOn : MethodName := ⟨RX12, "threesOn", "(II)J"⟩
abbrev cX12_trio : ByteArray := prog_14_method_50_code
def yX12_trio : MethodName := ⟨RX12, "trio", "(IIII)J"⟩
abbrev cX12_streak : ByteArray := prog_14_method_51_code
def yX12_streak : MethodName := ⟨RX12, "streak", "(IIII)J"⟩
abbrev cX12_toss : ByteArray := prog_14_method_52_code
def yX12_toss : MethodName := ⟨RX12, "toss", "(Z)I"⟩
abbrev cX12_clear : ByteArray := prog_14_method_53_code
def yX12_clear : MethodName := ⟨RX12, "clear", "()I"⟩
abbrev cX12_by : ByteArray := prog_14_method_54_code
def yX12_by : MethodName := ⟨RX12, "by", "(II)I"⟩
abbrev cX12_seems : ByteArray := prog_14_method_55_code
def yX12_seems : MethodName := ⟨RX12, "seems", "()I"⟩
abbrev cX12_longest : ByteArray := prog_14_method_56_code
def yX12_longest : MethodName := ⟨RX12, "longest", "()I"⟩
abbrev cX12_seen : ByteArray := prog_14_method_57_code
def yX12_seen : MethodName := ⟨RX12, "seen", "(I)I"⟩
abbrev cX12_ranBody : ByteArray := prog_14_method_58_code
def yX12_ranBody : MethodName := ⟨RX12, "ranBody", "(I)V"⟩
abbrev cX12_isUnder : ByteArray := prog_14_method_59_code
def yX12_isUnder : MethodName := ⟨RX12, "isUnder", "(II)Z"⟩
abbrev cX12_plainStakes : ByteArray := prog_14_method_60_code
def yX12_plainStakes : MethodName := ⟨RX12, "plainStakes", "(I)I"⟩
abbrev cX12_stakesActs : ByteArray := prog_14_method_61_code
def yX12_stakesActs : MethodName := ⟨RX12, "stakesActs", "(I)I"⟩
abbrev cX12_plainThrows : ByteArray := prog_14_method_62_code
def yX12_plainThrows : MethodName := ⟨RX12, "plainThrows", "(I)I"⟩
abbrev cX12_throwsActs : ByteArray := prog_14_method_63_code
def yX12_throwsActs : MethodName := ⟨RX12, "throwsActs", "(I)I"⟩
abbrev cX12_plainCounts : ByteArray := prog_14_method_64_code
def yX12_plainCounts : MethodName := ⟨RX12, "plainCounts", "(I)I"⟩
abbrev cX12_countsActs : ByteArray := prog_14_method_65_code
def yX12_countsActs : MethodName := ⟨RX12, "countsActs", "(I)I"⟩
abbrev cX12_act : ByteArray := prog_14_method_66_code
def yX12_act : MethodName := ⟨RX12, "act", "(III)I"⟩
abbrev cX12_trace : ByteArray := prog_14_method_67_code
def yX12_trace : MethodName := ⟨RX12, "trace", "(I)I"⟩
abbrev cX12_as : ByteArray := prog_14_method_68_code
def yX12_as : MethodName := ⟨RX12, "as", "(II)I"⟩
abbrev cX12_image : ByteArray := prog_14_method_69_code
def yX12_image : MethodName := ⟨RX12, "image", "()I"⟩
abbrev cX12_undo : ByteArray := prog_14_method_70_code
def yX12_undo : MethodName := ⟨RX12, "undo", "()I"⟩
abbrev cX12_count : ByteArray := prog_14_method_71_code
def yX12_count : MethodName := ⟨RX12, "count", "(I)I"⟩
def RJx145de : String := "java/io/Serializable"
def TJx145de : u_T := fun k => match k with
  | _ => ("", "", "", false)
def tyJx145de : Nat → FieldType := fun k => match k with
  | _ => .int
abbrev wsJx145de0 : List Cond := u_ws RJx145de TJx145de 0
theorem nmJx145de : ∀ a, a < 0 → ∀ b, b < 0 → a ≠ b → (TJx145de a).2.1 ≠ (TJx145de b).2.1 := by decide +kernel
theorem tyJx145de_ok : ∀ k, k < 0 → parseFieldDescriptor (TJx145de k).2.2.1 = some (tyJx145de k) := by decide +kernel
def RJx9f9b0 : String := "java/lang/CharSequence"
def TJx9f9b0 : u_T := fun k => match k with
  | _ => ("", "", "", false)
def tyJx9f9b0 : Nat → FieldType := fun k => match k with
  | _ => .int
abbrev wsJx9f9b00 : List Cond := u_ws RJx9f9b0 TJx9f9b0 0
theorem nmJx9f9b0 : ∀ a, a < 0 → ∀ b, b < 0 → a ≠ b → (TJx9f9b0 a).2.1 ≠ (TJx9f9b0 b).2.1 := by decide +kernel
theorem tyJx9f9b0_ok : ∀ k, k < 0 → parseFieldDescriptor (TJx9f9b0 k).2.2.1 = some (tyJx9f9b0 k) := by decide +kernel
def RJ11 : String := "java/lang/Character"
def TJ11 : u_T := fun k => match k with
  | _ => ("", "", "", false)
def tyJ11 : Nat → FieldType := fun k => match k with
  | _ => .int
abbrev wsJ110 : List Cond := u_ws RJ11 TJ11 0
theorem nmJ11 : ∀ a, a < 0 → ∀ b, b < 0 → a ≠ b → (TJ11 a).2.1 ≠ (TJ11 b).2.1 := by decide +kernel
theorem tyJ11_ok : ∀ k, k < 0 → parseFieldDescriptor (TJ11 k).2.2.1 = some (tyJ11 k) := by decide +kernel
abbrev cJ11_isValidCodePoint_9a6ad : ByteArray := prog_15_method_11_code
def yJ11_isValidCodePoint_9a6ad : MethodName := ⟨RJ11, "isValidCodePoint", "(I)Z"⟩
abbrev cJ11_highSurrogate_5068e : ByteArray := prog_15_method_28_code
def yJ11_highSurrogate_5068e : MethodName := ⟨RJ11, "highSurrogate", "(I)C"⟩
abbrev cJ11_lowSurrogate_5068e : ByteArray := prog_15_method_29_code
def yJ11_lowSurrogate_5068e : MethodName := ⟨RJ11, "lowSurrogate", "(I)C"⟩
def RJx8e188 : String := "java/lang/Cloneable"
def TJx8e188 : u_T := fun k => match k with
  | _ => ("", "", "", false)
def tyJx8e188 : Nat → FieldType := fun k => match k with
  | _ => .int
abbrev wsJx8e1880 : List Cond := u_ws RJx8e188 TJx8e188 0
theorem nmJx8e188 : ∀ a, a < 0 → ∀ b, b < 0 → a ≠ b → (TJx8e188 a).2.1 ≠ (TJx8e188 b).2.1 := by decide +kernel
theorem tyJx8e188_ok : ∀ k, k < 0 → parseFieldDescriptor (TJx8e188 k).2.2.1 = some (tyJx8e188 k) := by decide +kernel
def RJxb160c : String := "java/lang/Comparable"
def TJxb160c : u_T := fun k => match k with
  | _ => ("", "", "", false)
def tyJxb160c : Nat → FieldType := fun k => match k with
  | _ => .int
abbrev wsJxb160c0 : List Cond := u_ws RJxb160c TJxb160c 0
theorem nmJxb160c : ∀ a, a < 0 → ∀ b, b < 0 → a ≠ b → (TJxb160c a).2.1 ≠ (TJxb160c b).2.1 := by decide +kernel
theorem tyJxb160c_ok : ∀ k, k < 0 → parseFieldDescriptor (TJxb160c k).2.2.1 = some (tyJxb160c k) := by decide +kernel
def RJ6 : String := "java/lang/Integer"
def TJ6 : u_T := fun k => match k with
  | _ => ("", "", "", false)
def tyJ6 : Nat → FieldType := fun k => match k with
  | _ => .int
abbrev wsJ60 : List Cond := u_ws RJ6 TJ6 0
theorem nmJ6 : ∀ a, a < 0 → ∀ b, b < 0 → a ≠ b → (TJ6 a).2.1 ≠ (TJ6 b).2.1 := by decide +kernel
theorem tyJ6_ok : ∀ k, k < 0 → parseFieldDescriptor (TJ6 k).2.2.1 = some (tyJ6 k) := by decide +kernel
abbrev cJ6_bitCount_0f7a4 : ByteArray := prog_17_method_49_code
def yJ6_bitCount_0f7a4 : MethodName := ⟨RJ6, "bitCount", "(I)I"⟩
def RJ9 : String := "java/lang/Math"
def TJ9 : u_T := fun k => match k with
  | _ => ("", "", "", false)
def tyJ9 : Nat → FieldType := fun k => match k with
  | _ => .int
abbrev wsJ90 : List Cond := u_ws RJ9 TJ9 0
theorem nmJ9 : ∀ a, a < 0 → ∀ b, b < 0 → a ≠ b → (TJ9 a).2.1 ≠ (TJ9 b).2.1 := by decide +kernel
theorem tyJ9_ok : ∀ k, k < 0 → parseFieldDescriptor (TJ9 k).2.2.1 = some (tyJ9 k) := by decide +kernel
abbrev cJ9_abs_0f7a4 : ByteArray := prog_18_method_59_code
def yJ9_abs_0f7a4 : MethodName := ⟨RJ9, "abs", "(I)I"⟩
abbrev cJ9_max_7cf53 : ByteArray := prog_18_method_65_code
def yJ9_max_7cf53 : MethodName := ⟨RJ9, "max", "(II)I"⟩
abbrev cJ9_max_f86c9 : ByteArray := prog_18_method_66_code
def yJ9_max_f86c9 : MethodName := ⟨RJ9, "max", "(JJ)J"⟩
abbrev cJ9_min_7cf53 : ByteArray := prog_18_method_69_code
def yJ9_min_7cf53 : MethodName := ⟨RJ9, "min", "(II)I"⟩
def RJ0 : String := "java/lang/String"
def TJ0 : u_T := fun k => match k with
  | _ => ("", "", "", false)
def tyJ0 : Nat → FieldType := fun k => match k with
  | _ => .int
abbrev wsJ00 : List Cond := u_ws RJ0 TJ0 0
theorem nmJ0 : ∀ a, a < 0 → ∀ b, b < 0 → a ≠ b → (TJ0 a).2.1 ≠ (TJ0 b).2.1 := by decide +kernel
theorem tyJ0_ok : ∀ k, k < 0 → parseFieldDescriptor (TJ0 k).2.2.1 = some (tyJ0 k) := by decide +kernel
abbrev cJ0_length_8abf5 : ByteArray := prog_19_method_54_code
def yJ0_length_8abf5 : MethodName := ⟨RJ0, "length", "()I"⟩
abbrev cJ0_charAt_5068e : ByteArray := prog_19_method_56_code
def yJ0_charAt_5068e : MethodName := ⟨RJ0, "charAt", "(I)C"⟩
abbrev cJ0_indexOf_0f7a4 : ByteArray := prog_19_method_79_code
def yJ0_indexOf_0f7a4 : MethodName := ⟨RJ0, "indexOf", "(I)I"⟩
abbrev cJ0_indexOf_7cf53 : ByteArray := prog_19_method_80_code
def yJ0_indexOf_7cf53 : MethodName := ⟨RJ0, "indexOf", "(II)I"⟩
abbrev cJ0_coder_7d493 : ByteArray := prog_19_method_152_code
def yJ0_coder_7d493 : MethodName := ⟨RJ0, "coder", "()B"⟩
abbrev cJ0_isLatin1_aae02 : ByteArray := prog_19_method_154_code
def yJ0_isLatin1_aae02 : MethodName := ⟨RJ0, "isLatin1", "()Z"⟩
abbrev cJ0_checkIndex_df160 : ByteArray := prog_19_method_155_code
def yJ0_checkIndex_df160 : MethodName := ⟨RJ0, "checkIndex", "(II)V"⟩
abbrev cJ0_checkBoundsBeginEnd_23922 : ByteArray := prog_19_method_158_code
def yJ0_checkBoundsBeginEnd_23922 : MethodName := ⟨RJ0, "checkBoundsBeginEnd", "(III)V"⟩
def RJ1 : String := "java/lang/StringLatin1"
def TJ1 : u_T := fun k => match k with
  | _ => ("", "", "", false)
def tyJ1 : Nat → FieldType := fun k => match k with
  | _ => .int
abbrev wsJ10 : List Cond := u_ws RJ1 TJ1 0
theorem nmJ1 : ∀ a, a < 0 → ∀ b, b < 0 → a ≠ b → (TJ1 a).2.1 ≠ (TJ1 b).2.1 := by decide +kernel
theorem tyJ1_ok : ∀ k, k < 0 → parseFieldDescriptor (TJ1 k).2.2.1 = some (tyJ1 k) := by decide +kernel
abbrev cJ1_charAt_3b067 : ByteArray := prog_20_method_2_code
def yJ1_charAt_3b067 : MethodName := ⟨RJ1, "charAt", "([BI)C"⟩
abbrev cJ1_canEncode_9a6ad : ByteArray := prog_20_method_4_code
def yJ1_canEncode_9a6ad : MethodName := ⟨RJ1, "canEncode", "(I)Z"⟩
abbrev cJ1_indexOf_4cfef : ByteArray := prog_20_method_22_code
def yJ1_indexOf_4cfef : MethodName := ⟨RJ1, "indexOf", "([BIII)I"⟩
abbrev cJ1_indexOfChar_4cfef : ByteArray := prog_20_method_23_code
def yJ1_indexOfChar_4cfef : MethodName := ⟨RJ1, "indexOfChar", "([BIII)I"⟩
def RJ2 : String := "java/lang/StringUTF16"
def TJ2 : u_T := fun k => match k with
  | _ => ("", "", "", false)
def tyJ2 : Nat → FieldType := fun k => match k with
  | _ => .int
abbrev wsJ20 : List Cond := u_ws RJ2 TJ2 0
theorem nmJ2 : ∀ a, a < 0 → ∀ b, b < 0 → a ≠ b → (TJ2 a).2.1 ≠ (TJ2 b).2.1 := by decide +kernel
theorem tyJ2_ok : ∀ k, k < 0 → parseFieldDescriptor (TJ2 k).2.2.1 = some (tyJ2 k) := by decide +kernel
abbrev cJ2_getChar_3b067 : ByteArray := prog_21_method_5_code
def yJ2_getChar_3b067 : MethodName := ⟨RJ2, "getChar", "([BI)C"⟩
abbrev cJ2_length_9d52b : ByteArray := prog_21_method_6_code
def yJ2_length_9d52b : MethodName := ⟨RJ2, "length", "([B)I"⟩
abbrev cJ2_indexOf_4cfef : ByteArray := prog_21_method_40_code
def yJ2_indexOf_4cfef : MethodName := ⟨RJ2, "indexOf", "([BIII)I"⟩
abbrev cJ2_indexOfChar_4cfef : ByteArray := prog_21_method_47_code
def yJ2_indexOfChar_4cfef : MethodName := ⟨RJ2, "indexOfChar", "([BIII)I"⟩
abbrev cJ2_indexOfCharUnsafe_4cfef : ByteArray := prog_21_method_48_code
def yJ2_indexOfCharUnsafe_4cfef : MethodName := ⟨RJ2, "indexOfCharUnsafe", "([BIII)I"⟩
abbrev cJ2_indexOfSupplementary_4cfef : ByteArray := prog_21_method_49_code
def yJ2_indexOfSupplementary_4cfef : MethodName := ⟨RJ2, "indexOfSupplementary", "([BIII)I"⟩
abbrev cJ2_charAt_3b067 : ByteArray := prog_21_method_83_code
def yJ2_charAt_3b067 : MethodName := ⟨RJ2, "charAt", "([BI)C"⟩
abbrev cJ2_checkIndex_2214a : ByteArray := prog_21_method_91_code
def yJ2_checkIndex_2214a : MethodName := ⟨RJ2, "checkIndex", "(I[B)V"⟩
abbrev cJ2_checkBoundsBeginEnd_d044e : ByteArray := prog_21_method_93_code
def yJ2_checkBoundsBeginEnd_d044e : MethodName := ⟨RJ2, "checkBoundsBeginEnd", "(II[B)V"⟩
def RJ10 : String := "java/lang/System"
def TJ10 : u_T := fun k => match k with
  | _ => ("", "", "", false)
def tyJ10 : Nat → FieldType := fun k => match k with
  | _ => .int
abbrev wsJ100 : List Cond := u_ws RJ10 TJ10 0
theorem nmJ10 : ∀ a, a < 0 → ∀ b, b < 0 → a ≠ b → (TJ10 a).2.1 ≠ (TJ10 b).2.1 := by decide +kernel
theorem tyJ10_ok : ∀ k, k < 0 → parseFieldDescriptor (TJ10 k).2.2.1 = some (tyJ10 k) := by decide +kernel
def RJxfd54e : String := "java/lang/constant/Constable"
def TJxfd54e : u_T := fun k => match k with
  | _ => ("", "", "", false)
def tyJxfd54e : Nat → FieldType := fun k => match k with
  | _ => .int
abbrev wsJxfd54e0 : List Cond := u_ws RJxfd54e TJxfd54e 0
theorem nmJxfd54e : ∀ a, a < 0 → ∀ b, b < 0 → a ≠ b → (TJxfd54e a).2.1 ≠ (TJxfd54e b).2.1 := by decide +kernel
theorem tyJxfd54e_ok : ∀ k, k < 0 → parseFieldDescriptor (TJxfd54e k).2.2.1 = some (tyJxfd54e k) := by decide +kernel
def RJx3cf43 : String := "java/lang/constant/ConstantDesc"
def TJx3cf43 : u_T := fun k => match k with
  | _ => ("", "", "", false)
def tyJx3cf43 : Nat → FieldType := fun k => match k with
  | _ => .int
abbrev wsJx3cf430 : List Cond := u_ws RJx3cf43 TJx3cf43 0
theorem nmJx3cf43 : ∀ a, a < 0 → ∀ b, b < 0 → a ≠ b → (TJx3cf43 a).2.1 ≠ (TJx3cf43 b).2.1 := by decide +kernel
theorem tyJx3cf43_ok : ∀ k, k < 0 → parseFieldDescriptor (TJx3cf43 k).2.2.1 = some (tyJx3cf43 k) := by decide +kernel
def RJ7 : String := "java/util/Arrays"
def TJ7 : u_T := fun k => match k with
  | _ => ("", "", "", false)
def tyJ7 : Nat → FieldType := fun k => match k with
  | _ => .int
abbrev wsJ70 : List Cond := u_ws RJ7 TJ7 0
theorem nmJ7 : ∀ a, a < 0 → ∀ b, b < 0 → a ≠ b → (TJ7 a).2.1 ≠ (TJ7 b).2.1 := by decide +kernel
theorem tyJ7_ok : ∀ k, k < 0 → parseFieldDescriptor (TJ7 k).2.2.1 = some (tyJ7 k) := by decide +kernel
abbrev cJ7_fill_d0a16 : ByteArray := prog_23_method_101_code
def yJ7_fill_d0a16 : MethodName := ⟨RJ7, "fill", "([JJ)V"⟩
abbrev cJ7_fill_53178 : ByteArray := prog_23_method_103_code
def yJ7_fill_53178 : MethodName := ⟨RJ7, "fill", "([II)V"⟩
abbrev cJ7_copyOf_59c91 : ByteArray := prog_23_method_123_code
def yJ7_copyOf_59c91 : MethodName := ⟨RJ7, "copyOf", "([II)[I"⟩
def RJ3 : String := "jdk/internal/util/Preconditions"
def TJ3 : u_T := fun k => match k with
  | _ => ("", "", "", false)
def tyJ3 : Nat → FieldType := fun k => match k with
  | _ => .int
abbrev wsJ30 : List Cond := u_ws RJ3 TJ3 0
theorem nmJ3 : ∀ a, a < 0 → ∀ b, b < 0 → a ≠ b → (TJ3 a).2.1 ≠ (TJ3 b).2.1 := by decide +kernel
theorem tyJ3_ok : ∀ k, k < 0 → parseFieldDescriptor (TJ3 k).2.2.1 = some (tyJ3 k) := by decide +kernel
abbrev cJ3_checkIndex_8e157 : ByteArray := prog_24_method_11_code
def yJ3_checkIndex_8e157 : MethodName := ⟨RJ3, "checkIndex", "(IILjava/util/function/BiFunction;)I"⟩
abbrev cJ3_checkFromToIndex_8c36e : ByteArray := prog_24_method_12_code
def yJ3_checkFromToIndex_8c36e : MethodName := ⟨RJ3, "checkFromToIndex", "(IIILjava/util/function/BiFunction;)I"⟩
def RL : String := "LastPennyLaw"
abbrev cL_law : ByteArray := code
def yL_law : MethodName := ⟨RL, "law", "([I)Z"⟩
abbrev vwCl : List vw_C := [(RX0, TX0, 4), (RX1, TX1, 4), (RX2, TX2, 12), (RX3, TX3, 4), (RX4, TX4, 4), (RX5, TX5, 9), (RX6, TX6, 12), (RX7, TX7, 4), (RX8, TX8, 4), (RX9, TX9, 4), (RX10, TX10, 4), (RX11, TX11, 6), (RX12, TX12, 26)]
end
section
/-! the world in mathematical numbers: values, heap, what a state of the machine must hold of them -/
abbrev xa_T : Type := Int ⊕ (Int ⊕ Option Nat)
abbrev xa_i (z : Int) : xa_T := .inl z
abbrev xa_l (z : Int) : xa_T := .inr (.inl z)
abbrev xa_q (r : Option Nat) : xa_T := .inr (.inr r)
abbrev xa_r (k : Nat) : xa_T := .inr (.inr (some k))
abbrev xa_n : xa_T := .inr (.inr none)
def xa_c : xa_T → Nat
  | .inr (.inl _) => 2
  | _ => 1
abbrev xg_T : Type := va_G × (Nat → ClassId) × Heap × (Nat → Nat)
abbrev xg_b (G : xg_T) : Nat := G.2.2.1.size
def xg_ad (G : xg_T) (k : Nat) : Nat := if k < 1000000 then xg_b G + k else G.2.2.2 (k - 1000000)
def xg_A (G : xg_T) : Nat → Prop := fun q => xg_b G ≤ q
def xa_tr (G : xg_T) : xa_T → Value
  | .inl z => .int (Int32.ofInt z)
  | .inr (.inl z) => .long (Int64.ofInt z)
  | .inr (.inr r) => va_rf (r.map (xg_ad G))
theorem xa_tr_c (G : xg_T) (v : xa_T) : (xa_tr G v).category = xa_c v := by
  rcases v with z | z | r
  · rfl
  · rfl
  · cases r <;> rfl
def xw_tbl : List Cond := lw_tbl.filter goodWord
theorem xw_good : GoodIn xw_tbl xw_tbl := fun _ hw => ⟨hw, good_of_word (List.mem_filter.mp hw).2⟩
theorem xw_in {w : Cond} (i : Nat) (h : lw_tbl[i]? = some w) (hg : goodWord w = true) : w ∈ xw_tbl := List.mem_filter.mpr ⟨List.mem_of_getElem? h, hg⟩
def xf_ty (ci : Nat) : Nat → FieldType := match ci with
  | 0 => tyX0 | 1 => tyX1 | 2 => tyX2 | 3 => tyX3 | 4 => tyX4 | 5 => tyX5 | 6 => tyX6 | 7 => tyX7 | 8 => tyX8 | 9 => tyX9 | 10 => tyX10 | 11 => tyX11 | _ => tyX12
def xf_n (ci : Nat) : Nat := match ci with
  | 0 => 4 | 1 => 4 | 2 => 12 | 3 => 4 | 4 => 4 | 5 => 9 | 6 => 12 | 7 => 4 | 8 => 4 | 9 => 4 | 10 => 4 | 11 => 6 | _ => 26
def xf_k (ty : FieldType) : Nat := match ty with
  | .long => 1
  | .object _ => 2
  | .array _ => 2
  | _ => 0
def xf_v (G : xg_T) (k : Nat) (i l : Int) (r : Option Nat) : Value := match k with
  | 0 => .int (Int32.ofInt i)
  | 1 => .long (Int64.ofInt l)
  | _ => va_rf (r.map (xg_ad G))
/-- what the cell k holds -/
def xe_E (G : xg_T) (tau : Nat → Nat × Nat) (vi vl : Nat → Int → Int) (vr : Nat → Int → Option Nat) (k : Nat) : va_E :=
  if (tau k).1 < 13 then .inr ((tau k).1, (List.range (xf_n (tau k).1)).map fun j => xf_v G (xf_k (xf_ty (tau k).1 j)) (vi k j) (vl k j) (vr k j))
  else if (tau k).1 = 15 then .inl (G.2.1 15, (tau k).2, .inr (.inl fun j => Int64.ofInt (vl k j)))
  else if (tau k).1 < 17 then .inl (G.2.1 (tau k).1, (tau k).2, .inl fun j => Int32.ofInt (vi k j))
  else .inl (G.2.1 (tau k).1, (tau k).2, .inr (.inr (.inr (.inr fun j => (vr k j).map (xg_ad G)))))
def xe_W (G : xg_T) (n : Nat) (tau : Nat → Nat × Nat) (vi vl : Nat → Int → Int) (vr : Nat → Int → Option Nat) : va_W := (List.range n).map fun k => (xg_b G + k, xe_E G tau vi vl vr k)
def xu {α : Type} (f : Nat → Int → α) (k : Nat) (z : Int) (x : α) : Nat → Int → α := fun a b => if a = k ∧ b = z then x else f a b
theorem xu_s {α : Type} (f : Nat → Int → α) (k : Nat) (z : Int) (x : α) : xu f k z x k z = x := by simp [xu]
theorem xu_n {α : Type} (f : Nat → Int → α) (k : Nat) (z : Int) (x : α) {a : Nat} {b : Int} (h : ¬ (a = k ∧ b = z)) : xu f k z x a b = f a b := by simp [xu, h]
/-- the heap holds it, and what lay there at the law's start lies there still -/
def xh_R (G : xg_T) (n : Nat) (tau : Nat → Nat × Nat) (vi vl : Nat → Int → Int) (vr : Nat → Int → Option Nat) (H : Heap) : Prop :=
  n ≤ 1000000 ∧ H.size = xg_b G + n ∧ va_P G.1 vwCl (xe_W G n tau vi vl vr) H ∧ ∀ q : Nat, q < xg_b G → H[q]? = G.2.2.1[q]?
theorem xe_get {G : xg_T} {n : Nat} {tau : Nat → Nat × Nat} {vi vl : Nat → Int → Int} {vr : Nat → Int → Option Nat} {k : Nat} (h : k < n) : (xe_W G n tau vi vl vr)[k]? = some (xg_b G + k, xe_E G tau vi vl vr k) := by
  simp [xe_W, h]
theorem xe_get' {G : xg_T} {n : Nat} {tau : Nat → Nat × Nat} {vi vl : Nat → Int → Int} {vr : Nat → Int → Option Nat} {k : Nat} {q : Nat × va_E} (h : (xe_W G n tau vi vl vr)[k]? = some q) : k < n ∧ q = (xg_b G + k, xe_E G tau vi vl vr k) := by
  have hk : k < n := by
    have := (List.getElem?_eq_some_iff.mp h).1
    simpa [xe_W] using this
  rw [xe_get hk] at h
  exact ⟨hk, (Option.some.inj h).symm⟩
theorem xe_D {G : xg_T} {n : Nat} {tau : Nat → Nat × Nat} {vi vl : Nat → Int → Int} {vr : Nat → Int → Option Nat} : va_D (xg_A G) (xe_W G n tau vi vl vr) := by
  refine ⟨fun i j p q hi hj e => ?_, fun k q hk => ?_⟩
  · obtain ⟨-, rfl⟩ := xe_get' hi
    obtain ⟨-, rfl⟩ := xe_get' hj
    have e : xg_b G + i = xg_b G + j := e
    omega
  · obtain ⟨-, rfl⟩ := xe_get' hk
    show xg_b G ≤ xg_b G + k
    omega
theorem xe_set {G : xg_T} {n : Nat} {tau tau' : Nat → Nat × Nat} {vi vl vi' vl' : Nat → Int → Int} {vr vr' : Nat → Int → Option Nat} {k : Nat} {e : va_E} (he : xe_E G tau' vi' vl' vr' k = e) (ho : ∀ j, j ≠ k → xe_E G tau' vi' vl' vr' j = xe_E G tau vi vl vr j) : (xe_W G n tau vi vl vr).set k (xg_b G + k, e) = xe_W G n tau' vi' vl' vr' := by
  subst he
  apply List.ext_getElem?
  intro j
  by_cases hj : j = k
  · subst hj
    by_cases hn : j < n
    · rw [xe_get hn, List.getElem?_set_self (by simpa [xe_W] using hn)]
    · rw [List.getElem?_eq_none (by simp [xe_W]; omega), List.getElem?_eq_none (by simp [xe_W]; omega)]
  · rw [List.getElem?_set_ne (fun h => hj h.symm)]
    by_cases hn : j < n
    · rw [xe_get hn, xe_get hn, ho j hj]
    · rw [List.getElem?_eq_none (by simp [xe_W]; omega), List.getElem?_eq_none (by simp [xe_W]; omega)]
theorem xe_push {G : xg_T} {n : Nat} {tau tau' : Nat → Nat × Nat} {vi vl vi' vl' : Nat → Int → Int} {vr vr' : Nat → Int → Option Nat} {e : va_E} (he : xe_E G tau' vi' vl' vr' n = e) (ho : ∀ j, j < n → xe_E G tau' vi' vl' vr' j = xe_E G tau vi vl vr j) : xe_W G n tau vi vl vr ++ [(xg_b G + n, e)] = xe_W G (n + 1) tau' vi' vl' vr' := by
  subst he
  unfold xe_W
  rw [List.range_succ, List.map_append]
  congr 1
  apply List.map_congr_left
  intro j hj
  rw [ho j (List.mem_range.mp hj)]
/-- what the tables and the cells that nobody writes give -/
def xw_tys (G : xg_T) : List (ClassId × FieldType) := [(G.2.1 13, .byte), (G.2.1 14, .int), (G.2.1 15, .long), (G.2.1 16, .boolean), (G.2.1 17, .object RX4), (G.2.1 18, .object RX8)]
def xw_sites : List (String × Nat × String × Nat) := [("LastPenny$Reader", 99, "ilt ", 0), ("LastPenny$Reader", 105, "an ", 1), ("LastPenny$Reader", 107, "imit ", 2), ("LastPenny$Reader", 80, "0123456789", 3), ("LastPenny$Reader", 119, "nkpgsd", 4), ("LastPenny$Reader", 121, "<=>", 5), ("LastPennyModel", 121, "ean ", 6), ("LastPennyModel", 103, "nkpgsd", 4), ("LastPennyModel", 109, "<=>", 5), ("LastPennyModel", 127, "imit ", 2), ("LastPennyModel", 132, "tilt ", 7)]
/-- the texts' bytes -/
def xw_byt : List (List Int) := [[105, 108, 116, 32], [97, 110, 32], [105, 109, 105, 116, 32], [48, 49, 50, 51, 52, 53, 54, 55, 56, 57], [110, 107, 112, 103, 115, 100], [60, 61, 62], [101, 97, 110, 32], [116, 105, 108, 116, 32]]
def xw_cast : List (String × String) := [(RX3, RX0), (RX1, RX9), (RX10, RX7), (RX0, RX4), (RX9, RX4), (RX7, RX4), (RX3, RX4), (RX1, RX4), (RX10, RX4)]
def xw_nest : List (String × Nat × MethodName × String) := [(RX11, 11, yX6_init, RX11), (RX11, 23, yX2_init, RX11), (RX11, 30, yX5_init, RX11)]
def xw_nc : List (String × String) := [RX0, RX9, RX7, RX3, RX1, RX10, RX4].flatMap fun a => ([RX0, RX9, RX7, RX3, RX1, RX10].filter fun b => !(a == b) && !(xw_cast.contains (a, b))).map fun b => (a, b)
def xh_Ev (G : xg_T) (U : State) : Prop :=
  va_K G.1 vwCl (xw_tys G) U ∧ (∀ q ∈ xw_cast, va_Nw (.castable q.1 q.2) U) ∧ (∀ q ∈ xw_nest, va_Nw (.methodLinkNest q.1 q.2.1 q.2.2.1 q.2.2.2) U) ∧ (∀ q ∈ xw_nc, va_Nc q.1 q.2 U) ∧ (va_AO RX4 U ∧ va_AO RX8 U) ∧
  (∀ q ∈ xw_sites, vk_R q.1 q.2.1 q.2.2.1 (G.2.2.2 (2 + q.2.2.2)) U) ∧
  (va_Z "LastPenny$Chances" "GIVERS" "[I" (.ref (G.2.2.2 0)) (xg_A G) U G.2.2.1 ∧ va_Z "LastPenny$Chances" "TAKERS" "[I" (.ref (G.2.2.2 1)) (xg_A G) U G.2.2.1 ∧ va_Z "java/lang/String" "COMPACT_STRINGS" "Z" (.int 1) (xg_A G) U G.2.2.1) ∧
  (va_T .int (G.2.2.2 0) 6 (fun j => .int (Int32.ofInt (([0, 0, 1, 1, 2, 2] : List Int).getD j 0))) (xg_A G) U G.2.2.1 ∧ va_T .int (G.2.2.2 1) 6 (fun j => .int (Int32.ofInt (([1, 2, 0, 2, 0, 1] : List Int).getD j 0))) (xg_A G) U G.2.2.1) ∧
  (∀ i : Nat, i < 8 → va_O "java/lang/String" (G.2.2.2 (2 + i)) (xg_A G) U G.2.2.1 ∧ va_OF "java/lang/String" "coder" "B" (.int 0) (G.2.2.2 (2 + i)) (xg_A G) U G.2.2.1 ∧ va_OF "java/lang/String" "value" "[B" (.ref (G.2.2.2 (10 + i))) (G.2.2.2 (2 + i)) (xg_A G) U G.2.2.1 ∧ va_T .byte (G.2.2.2 (10 + i)) (xw_byt.getD i []).length (fun j => .int (Int32.ofInt ((xw_byt.getD i []).getD j 0))) (xg_A G) U G.2.2.1)
theorem xh_Ev.moved {G : xg_T} {u U : State} (hv : u.vm.Alike U.vm) (hn : ∀ (q : String × Nat × MethodName × String), va_Nw (.methodLinkNest q.1 q.2.1 q.2.2.1 q.2.2.2) u → va_Nw (.methodLinkNest q.1 q.2.1 q.2.2.1 q.2.2.2) U) (hc : ∀ q : String × String, va_Nw (.castable q.1 q.2) u → va_Nw (.castable q.1 q.2) U) (hk : ∀ (a : String) (i : Nat) (t : String) (k : Nat), vk_R a i t k u → vk_R a i t k U) (h : xh_Ev G u) : xh_Ev G U := by
  obtain ⟨h1, h2, h3, h4, ⟨h5, h5b⟩, h6, ⟨h7, h8, h9⟩, ⟨h10, h11⟩, h12⟩ := h
  exact ⟨h1.moved hv, fun q hq => hc q (h2 q hq), fun q hq => hn q (h3 q hq), fun q hq => (h4 q hq).moved hv, ⟨h5.moved hv, h5b.moved hv⟩, fun q hq => hk _ _ _ _ (h6 q hq), ⟨h7.moved hv, h8.moved hv, h9.moved hv⟩, ⟨h10.moved hv, h11.moved hv⟩, fun i hi => ⟨(h12 i hi).1.moved hv, (h12 i hi).2.1.moved hv, (h12 i hi).2.2.1.moved hv, (h12 i hi).2.2.2.moved hv⟩⟩
theorem xh_Ev.warm {G : xg_T} {u U : State} (hW : u.WarmedH U.vm) (h : xh_Ev G u) : xh_Ev G U :=
  xh_Ev.moved hW.alike (fun _ h => va_Nw.warmM hW h) (fun _ h => va_Nw.warmC hW h) (fun _ _ _ _ h => vk_R.warm hW h) h
theorem xh_Ev.same {G : xg_T} {u U : State} (hv : u.vm = U.vm) (h : xh_Ev G u) : xh_Ev G U :=
  xh_Ev.moved (by rw [hv]; exact Vm.Alike.refl _) (fun _ h => va_Nw.same rfl hv h) (fun _ h => va_Nw.same rfl hv h) (fun _ _ _ _ h => vk_R.same hv.symm h) h
/-- the machine's own things of a method's run -/
abbrev xk_T : Type := Program × Launch × Env × Room × State × MethodId × Array Value × List Frame × Method × Code
def xk_W (K : xk_T) (H : Heap) (locs : List Loc) (cells slots : Nat) (Q : State → Prop) (pc : Nat) (ls : Array Slot) (st : List Value) : Prop :=
  W K.1 K.2.1 K.2.2.1 K.2.2.2.1 K.2.2.2.2.1 K.2.2.2.2.2.1 K.2.2.2.2.2.2.1 K.2.2.2.2.2.2.2.1 K.2.2.2.2.2.2.2.2.1 K.2.2.2.2.2.2.2.2.2 H locs cells slots Q (F0 K.2.2.2.2.2.1 pc ls st)
abbrev xk_s (K : xk_T) : State := K.2.2.2.2.1
abbrev xk_R (K : xk_T) : Room := K.2.2.2.1
def xk_C (G : xg_T) (K : xk_T) (cc : ByteArray) (own : String) (nL : Nat) : Prop :=
  K.1.tables.exec = Jvm.exec ∧ K.2.2.2.2.2.2.2.2.2.code = cc ∧ K.2.2.2.2.2.2.2.2.2.maxLocals = nL ∧ (xk_s K).vm.findClass own = some K.2.2.2.2.2.1.cls ∧ (∀ w ∈ xw_tbl, w.before K.2.2.2.2.2.2.1 (xk_s K) = true) ∧ xh_Ev G (xk_s K) ∧ xg_b G ≤ (xk_s K).heap.size ∧ ∀ q : Nat, q < xg_b G → (xk_s K).heap[q]? = G.2.2.1[q]?
def xl_m (G : xg_T) (lv : List (Nat × xa_T)) : List (Nat × Value) := lv.map fun q => (q.1, xa_tr G q.2)
/-- from here the machine comes to Q, whatever cells represent this world -/
def xv (G : xg_T) (K : xk_T) (nL : Nat) (Q : State → Prop) (cells slots n : Nat) (tau : Nat → Nat × Nat) (vi vl : Nat → Int → Int) (vr : Nat → Int → Option Nat) (pc : Nat) (lv : List (Nat × xa_T)) (st : List xa_T) : Prop :=
  ∀ (H : Heap) (locs : List Loc) (ls : Array Slot), xh_R G n tau vi vl vr H → va_S (xg_A G) (xk_s K).heap H locs → lv_has ls nL (xl_m G lv) → xk_W K H locs cells slots Q pc ls (st.map (xa_tr G))
/-- an instruction, and the place behind it -/
def xd_D (cc : ByteArray) (pc : Nat) (i : Instr) (len pc' : Nat) : Prop := decode cc pc = .ok (i, len) ∧ pc + len = pc'
def xl_s (lv : List (Nat × xa_T)) (i : Nat) (v : xa_T) : List (Nat × xa_T) := (i, v) :: lv.filter (fun q => !(q.1 == i) && !(q.1 + 1 == i && xa_c q.2 == 2))
def xl_sl (lv : List (Nat × xa_T)) (i : Nat) (v : xa_T) : List (Nat × xa_T) := (i, v) :: lv.filter (fun q => !(q.1 == i) && (!(q.1 == i + 1) && !(q.1 + 1 == i && xa_c q.2 == 2)))
theorem xl_m_s (G : xg_T) (lv : List (Nat × xa_T)) (i : Nat) (v : xa_T) : (i, xa_tr G v) :: (xl_m G lv).filter (fun q => !(q.1 == i) && !(q.1 + 1 == i && q.2.category == 2)) = xl_m G (xl_s lv i v) := by
  unfold xl_m xl_s
  rw [List.filter_map, List.map_cons]
  congr 3
  funext q
  simp [Function.comp, xa_tr_c]
theorem xl_m_sl (G : xg_T) (lv : List (Nat × xa_T)) (i : Nat) (v : xa_T) : (i, xa_tr G v) :: (xl_m G lv).filter (fun q => !(q.1 == i) && (!(q.1 == i + 1) && !(q.1 + 1 == i && q.2.category == 2))) = xl_m G (xl_sl lv i v) := by
  unfold xl_m xl_sl
  rw [List.filter_map, List.map_cons]
  congr 3
  funext q
  simp [Function.comp, xa_tr_c]
theorem xl_at {G : xg_T} {ls : Array Slot} {nL : Nat} {lv : List (Nat × xa_T)} (h : lv_has ls nL (xl_m G lv)) {k i : Nat} {v : xa_T} (hk : lv[k]? = some (i, v)) : ls[i]? = some (.val (xa_tr G v)) := by
  refine lv_at h k ?_
  simp [xl_m, hk]
theorem xn_t {x : Int} (h1 : -2147483648 ≤ x) (h2 : x < 2147483648) : (Int32.ofInt x).toInt = x := Int32.toInt_ofInt_of_le (by omega) (by omega)
theorem xn_tl {x : Int} (h1 : -9223372036854775808 ≤ x) (h2 : x < 9223372036854775808) : (Int64.ofInt x).toInt = x := Int64.toInt_ofInt_of_le (by omega) (by omega)
theorem xn_lt {x y : Int} (h : -2147483648 ≤ x ∧ x < 2147483648 ∧ -2147483648 ≤ y ∧ y < 2147483648) : Int32.ofInt x < Int32.ofInt y ↔ x < y := by
  rw [Int32.lt_iff_toInt_lt, xn_t h.1 h.2.1, xn_t h.2.2.1 h.2.2.2]
theorem xn_le {x y : Int} (h : -2147483648 ≤ x ∧ x < 2147483648 ∧ -2147483648 ≤ y ∧ y < 2147483648) : Int32.ofInt x ≤ Int32.ofInt y ↔ x ≤ y := by
  rw [Int32.le_iff_toInt_le, xn_t h.1 h.2.1, xn_t h.2.2.1 h.2.2.2]
theorem xn_eq {x y : Int} (h : -2147483648 ≤ x ∧ x < 2147483648 ∧ -2147483648 ≤ y ∧ y < 2147483648) : Int32.ofInt x = Int32.ofInt y ↔ x = y := by
  rw [← Int32.toInt_inj, xn_t h.1 h.2.1, xn_t h.2.2.1 h.2.2.2]
theorem xn_0 : Int32.ofInt 0 = 0 := rfl
theorem xn_in {z : Int} {n : Nat} (h1 : 0 ≤ z) (h2 : z < n) (hn : n < 2147483648) : vp_in (Int32.ofInt z) n ∧ (Int32.ofInt z).toNatClampNeg = z.toNat := by
  have e := xn_t (x := z) (by omega) (by omega)
  have e2 : (Int32.ofInt z).toNatClampNeg = z.toNat := by show (Int32.ofInt z).toInt.toNat = _; rw [e]
  refine ⟨?_, e2⟩
  unfold vp_in
  rw [e2, show (0 : Int32) = Int32.ofInt 0 from rfl, xn_lt ⟨by omega, by omega, by omega, by omega⟩]
  omega

section XV
variable {G : xg_T} {K : xk_T} {cc : ByteArray} {own : String} {nL : Nat} {Q : State → Prop} {cells slots n : Nat} {tau : Nat → Nat × Nat} {vi vl : Nat → Int → Int} {vr : Nat → Int → Option Nat} {pc pc1 : Nat} {lv : List (Nat × xa_T)} {st : List xa_T}
theorem vx_iconst (hC : xk_C G K cc own nL) {z : Int} (hd : xd_D cc pc (.iconst z) 1 pc1) (k : xv G K nL Q cells slots n tau vi vl vr pc1 lv (xa_i z :: st)) : xv G K nL Q cells slots n tau vi vl vr pc lv st := by
  obtain ⟨p, l, e, R, s, m, args, below, meth, c⟩ := K
  obtain ⟨hx, hb, hml, hown, hts, hE, hB, hB0⟩ := hC
  obtain ⟨hd, rfl⟩ := hd
  intro H locs ls hR hS hl
  exact lv_iconst hx hb hd rfl (k H locs ls hR hS hl)
theorem vx_bipush (hC : xk_C G K cc own nL) {z : Int} (hz : (Int8.ofInt z).toInt32 = Int32.ofInt z) (hd : xd_D cc pc (.bipush z) 2 pc1) (k : xv G K nL Q cells slots n tau vi vl vr pc1 lv (xa_i z :: st)) : xv G K nL Q cells slots n tau vi vl vr pc lv st := by
  obtain ⟨p, l, e, R, s, m, args, below, meth, c⟩ := K
  obtain ⟨hx, hb, hml, hown, hts, hE, hB, hB0⟩ := hC
  obtain ⟨hd, rfl⟩ := hd
  intro H locs ls hR hS hl
  exact lv_bipush hx hb hd hz (k H locs ls hR hS hl)
theorem vx_sipush (hC : xk_C G K cc own nL) {z : Int} (hz : (Int16.ofInt z).toInt32 = Int32.ofInt z) (hd : xd_D cc pc (.sipush z) 3 pc1) (k : xv G K nL Q cells slots n tau vi vl vr pc1 lv (xa_i z :: st)) : xv G K nL Q cells slots n tau vi vl vr pc lv st := by
  obtain ⟨p, l, e, R, s, m, args, below, meth, c⟩ := K
  obtain ⟨hx, hb, hml, hown, hts, hE, hB, hB0⟩ := hC
  obtain ⟨hd, rfl⟩ := hd
  intro H locs ls hR hS hl
  exact lv_sipush hx hb hd hz (k H locs ls hR hS hl)
theorem vx_lconst (hC : xk_C G K cc own nL) {f : Fin 2} (z : Int) (hz : Int64.ofNat (f : Nat) = Int64.ofInt z) (hd : xd_D cc pc (.lconst f) 1 pc1) (k : xv G K nL Q cells slots n tau vi vl vr pc1 lv (xa_l z :: st)) : xv G K nL Q cells slots n tau vi vl vr pc lv st := by
  obtain ⟨p, l, e, R, s, m, args, below, meth, c⟩ := K
  obtain ⟨hx, hb, hml, hown, hts, hE, hB, hB0⟩ := hC
  obtain ⟨hd, rfl⟩ := hd
  intro H locs ls hR hS hl
  exact lv_lconst hx hb hd hz (k H locs ls hR hS hl)
theorem vx_null (hC : xk_C G K cc own nL) (hd : xd_D cc pc .aconst_null 1 pc1) (k : xv G K nL Q cells slots n tau vi vl vr pc1 lv (xa_n :: st)) : xv G K nL Q cells slots n tau vi vl vr pc lv st := by
  obtain ⟨p, l, e, R, s, m, args, below, meth, c⟩ := K
  obtain ⟨hx, hb, hml, hown, hts, hE, hB, hB0⟩ := hC
  obtain ⟨hd, rfl⟩ := hd
  intro H locs ls hR hS hl
  exact lv_null hx hb hd (k H locs ls hR hS hl)
theorem vx_ldc2 (hC : xk_C G K cc own nL) {ix : Nat} (z : Int) (hw : Cond.constantLong own ix (Int64.ofInt z) ∈ xw_tbl) (hd : xd_D cc pc (.ldc2_w ix) 3 pc1) (k : xv G K nL Q cells slots n tau vi vl vr pc1 lv (xa_l z :: st)) : xv G K nL Q cells slots n tau vi vl vr pc lv st := by
  obtain ⟨p, l, e, R, s, m, args, below, meth, c⟩ := K
  obtain ⟨hx, hb, hml, hown, hts, hE, hB, hB0⟩ := hC
  obtain ⟨hd, rfl⟩ := hd
  intro H locs ls hR hS hl
  exact lv_ldc2 hx hb hown (hts _ hw) hd (k H locs ls hR hS hl)
theorem vx_ldc (hC : xk_C G K cc own nL) {ix : Nat} (z : Int) (hw : Cond.constant own ix (Int32.ofInt z) ∈ xw_tbl) (hd : xd_D cc pc (.ldc ix) 2 pc1) (k : xv G K nL Q cells slots n tau vi vl vr pc1 lv (xa_i z :: st)) : xv G K nL Q cells slots n tau vi vl vr pc lv st := by
  obtain ⟨p, l, e, R, s, m, args, below, meth, c⟩ := K
  obtain ⟨hx, hb, hml, hown, hts, hE, hB, hB0⟩ := hC
  obtain ⟨hd, rfl⟩ := hd
  intro H locs ls hR hS hl
  exact lv_ldc hx hb hown (hts _ hw) hd (k H locs ls hR hS hl)
theorem vx_iload_n (hC : xk_C G K cc own nL) {f : Fin 4} {x : Int} (q : Nat) (hq : lv[q]? = some ((f : Nat), xa_i x)) (hd : xd_D cc pc (.iload_n f) 1 pc1) (k : xv G K nL Q cells slots n tau vi vl vr pc1 lv (xa_i x :: st)) : xv G K nL Q cells slots n tau vi vl vr pc lv st := by
  obtain ⟨p, l, e, R, s, m, args, below, meth, c⟩ := K
  obtain ⟨hx, hb, hml, hown, hts, hE, hB, hB0⟩ := hC
  obtain ⟨hd, rfl⟩ := hd
  intro H locs ls hR hS hl
  exact lv_iload_n hx hb hd rfl (xl_at hl hq) (k H locs ls hR hS hl)
theorem vx_iload (hC : xk_C G K cc own nL) {i : Nat} {x : Int} (q : Nat) (hq : lv[q]? = some (i, xa_i x)) (hd : xd_D cc pc (.iload i) 2 pc1) (k : xv G K nL Q cells slots n tau vi vl vr pc1 lv (xa_i x :: st)) : xv G K nL Q cells slots n tau vi vl vr pc lv st := by
  obtain ⟨p, l, e, R, s, m, args, below, meth, c⟩ := K
  obtain ⟨hx, hb, hml, hown, hts, hE, hB, hB0⟩ := hC
  obtain ⟨hd, rfl⟩ := hd
  intro H locs ls hR hS hl
  exact lv_iload hx hb hd (xl_at hl hq) (k H locs ls hR hS hl)
theorem vx_lload_n (hC : xk_C G K cc own nL) {f : Fin 4} {x : Int} (q : Nat) (hq : lv[q]? = some ((f : Nat), xa_l x)) (hd : xd_D cc pc (.lload_n f) 1 pc1) (k : xv G K nL Q cells slots n tau vi vl vr pc1 lv (xa_l x :: st)) : xv G K nL Q cells slots n tau vi vl vr pc lv st := by
  obtain ⟨p, l, e, R, s, m, args, below, meth, c⟩ := K
  obtain ⟨hx, hb, hml, hown, hts, hE, hB, hB0⟩ := hC
  obtain ⟨hd, rfl⟩ := hd
  intro H locs ls hR hS hl
  exact lv_lload_n hx hb hd rfl (xl_at hl hq) (k H locs ls hR hS hl)
theorem vx_lload (hC : xk_C G K cc own nL) {i : Nat} {x : Int} (q : Nat) (hq : lv[q]? = some (i, xa_l x)) (hd : xd_D cc pc (.lload i) 2 pc1) (k : xv G K nL Q cells slots n tau vi vl vr pc1 lv (xa_l x :: st)) : xv G K nL Q cells slots n tau vi vl vr pc lv st := by
  obtain ⟨p, l, e, R, s, m, args, below, meth, c⟩ := K
  obtain ⟨hx, hb, hml, hown, hts, hE, hB, hB0⟩ := hC
  obtain ⟨hd, rfl⟩ := hd
  intro H locs ls hR hS hl
  exact lv_lload hx hb hd (xl_at hl hq) (k H locs ls hR hS hl)
theorem vx_aload_n (hC : xk_C G K cc own nL) {f : Fin 4} {x : Option Nat} (q : Nat) (hq : lv[q]? = some ((f : Nat), xa_q x)) (hd : xd_D cc pc (.aload_n f) 1 pc1) (k : xv G K nL Q cells slots n tau vi vl vr pc1 lv (xa_q x :: st)) : xv G K nL Q cells slots n tau vi vl vr pc lv st := by
  obtain ⟨p, l, e, R, s, m, args, below, meth, c⟩ := K
  obtain ⟨hx, hb, hml, hown, hts, hE, hB, hB0⟩ := hC
  obtain ⟨hd, rfl⟩ := hd
  intro H locs ls hR hS hl
  cases x with
  | none => exact lv_aload_nN hx hb hd rfl (xl_at hl hq) (k H locs ls hR hS hl)
  | some x => exact lv_aload_n hx hb hd rfl (xl_at hl hq) (k H locs ls hR hS hl)
theorem vx_aload (hC : xk_C G K cc own nL) {i : Nat} {x : Option Nat} (q : Nat) (hq : lv[q]? = some (i, xa_q x)) (hd : xd_D cc pc (.aload i) 2 pc1) (k : xv G K nL Q cells slots n tau vi vl vr pc1 lv (xa_q x :: st)) : xv G K nL Q cells slots n tau vi vl vr pc lv st := by
  obtain ⟨p, l, e, R, s, m, args, below, meth, c⟩ := K
  obtain ⟨hx, hb, hml, hown, hts, hE, hB, hB0⟩ := hC
  obtain ⟨hd, rfl⟩ := hd
  intro H locs ls hR hS hl
  cases x with
  | none => exact lv_aloadN hx hb hd (xl_at hl hq) (k H locs ls hR hS hl)
  | some x => exact lv_aload hx hb hd (xl_at hl hq) (k H locs ls hR hS hl)
theorem vx_istore_n (hC : xk_C G K cc own nL) {f : Fin 4} {x : Int} {lv1 : List (Nat × xa_T)} (hn : (f : Nat) < nL) (hs : xl_s lv (f : Nat) (xa_i x) = lv1) (hd : xd_D cc pc (.istore_n f) 1 pc1) (k : xv G K nL Q cells slots n tau vi vl vr pc1 lv1 st) : xv G K nL Q cells slots n tau vi vl vr pc lv (xa_i x :: st) := by
  obtain ⟨p, l, e, R, s, m, args, below, meth, c⟩ := K
  obtain ⟨hx, hb, hml, hown, hts, hE, hB, hB0⟩ := hC
  obtain ⟨hd, rfl⟩ := hd
  intro H locs ls hR hS hl
  subst hs
  exact lv_istore_n hx hb hd rfl hl hn (xl_m_s G lv _ (xa_i x)) (fun ls h => k H locs ls hR hS h)
theorem vx_lstore_n (hC : xk_C G K cc own nL) {f : Fin 4} {x : Int} {lv1 : List (Nat × xa_T)} (hn : (f : Nat) + 1 < nL) (hs : xl_sl lv (f : Nat) (xa_l x) = lv1) (hd : xd_D cc pc (.lstore_n f) 1 pc1) (k : xv G K nL Q cells slots n tau vi vl vr pc1 lv1 st) : xv G K nL Q cells slots n tau vi vl vr pc lv (xa_l x :: st) := by
  obtain ⟨p, l, e, R, s, m, args, below, meth, c⟩ := K
  obtain ⟨hx, hb, hml, hown, hts, hE, hB, hB0⟩ := hC
  obtain ⟨hd, rfl⟩ := hd
  intro H locs ls hR hS hl
  subst hs
  exact lv_lstore_n hx hb hd rfl hl hn (xl_m_sl G lv _ (xa_l x)) (fun ls h => k H locs ls hR hS h)
theorem vx_astore_n (hC : xk_C G K cc own nL) {f : Fin 4} {x : Option Nat} {lv1 : List (Nat × xa_T)} (hn : (f : Nat) < nL) (hs : xl_s lv (f : Nat) (xa_q x) = lv1) (hd : xd_D cc pc (.astore_n f) 1 pc1) (k : xv G K nL Q cells slots n tau vi vl vr pc1 lv1 st) : xv G K nL Q cells slots n tau vi vl vr pc lv (xa_q x :: st) := by
  obtain ⟨p, l, e, R, s, m, args, below, meth, c⟩ := K
  obtain ⟨hx, hb, hml, hown, hts, hE, hB, hB0⟩ := hC
  obtain ⟨hd, rfl⟩ := hd
  intro H locs ls hR hS hl
  subst hs
  cases x with
  | none => exact lv_astore_nN hx hb hd rfl hl hn (xl_m_s G lv _ xa_n) (fun ls h => k H locs ls hR hS h)
  | some x => exact lv_astore_n hx hb hd rfl hl hn (xl_m_s G lv _ (xa_r x)) (fun ls h => k H locs ls hR hS h)
theorem vx_istore (hC : xk_C G K cc own nL) {i : Nat} {x : Int} {lv1 : List (Nat × xa_T)} (hn : i < nL) (hs : xl_s lv i (xa_i x) = lv1) (hd : xd_D cc pc (.istore i) 2 pc1) (k : xv G K nL Q cells slots n tau vi vl vr pc1 lv1 st) : xv G K nL Q cells slots n tau vi vl vr pc lv (xa_i x :: st) := by
  obtain ⟨p, l, e, R, s, m, args, below, meth, c⟩ := K
  obtain ⟨hx, hb, hml, hown, hts, hE, hB, hB0⟩ := hC
  obtain ⟨hd, rfl⟩ := hd
  intro H locs ls hR hS hl
  subst hs
  exact lv_istore hx hb hd hl hn (xl_m_s G lv _ (xa_i x)) (fun ls h => k H locs ls hR hS h)
theorem vx_lstore (hC : xk_C G K cc own nL) {i : Nat} {x : Int} {lv1 : List (Nat × xa_T)} (hn : i + 1 < nL) (hs : xl_sl lv i (xa_l x) = lv1) (hd : xd_D cc pc (.lstore i) 2 pc1) (k : xv G K nL Q cells slots n tau vi vl vr pc1 lv1 st) : xv G K nL Q cells slots n tau vi vl vr pc lv (xa_l x :: st) := by
  obtain ⟨p, l, e, R, s, m, args, below, meth, c⟩ := K
  obtain ⟨hx, hb, hml, hown, hts, hE, hB, hB0⟩ := hC
  obtain ⟨hd, rfl⟩ := hd
  intro H locs ls hR hS hl
  subst hs
  exact lv_lstore hx hb hd hl hn (xl_m_sl G lv _ (xa_l x)) (fun ls h => k H locs ls hR hS h)
theorem vx_astore (hC : xk_C G K cc own nL) {i : Nat} {x : Option Nat} {lv1 : List (Nat × xa_T)} (hn : i < nL) (hs : xl_s lv i (xa_q x) = lv1) (hd : xd_D cc pc (.astore i) 2 pc1) (k : xv G K nL Q cells slots n tau vi vl vr pc1 lv1 st) : xv G K nL Q cells slots n tau vi vl vr pc lv (xa_q x :: st) := by
  obtain ⟨p, l, e, R, s, m, args, below, meth, c⟩ := K
  obtain ⟨hx, hb, hml, hown, hts, hE, hB, hB0⟩ := hC
  obtain ⟨hd, rfl⟩ := hd
  intro H locs ls hR hS hl
  subst hs
  cases x with
  | none => exact lv_astoreN hx hb hd hl hn (xl_m_s G lv _ xa_n) (fun ls h => k H locs ls hR hS h)
  | some x => exact lv_astore hx hb hd hl hn (xl_m_s G lv _ (xa_r x)) (fun ls h => k H locs ls hR hS h)
theorem vx_iinc (hC : xk_C G K cc own nL) {i : Nat} {z x : Int} {lv1 : List (Nat × xa_T)} (q : Nat) (hq : lv[q]? = some (i, xa_i x)) (hn : i < nL) (hs : xl_s lv i (xa_i (x + z)) = lv1) (hd : xd_D cc pc (.iinc i z) 3 pc1) (k : xv G K nL Q cells slots n tau vi vl vr pc1 lv1 st) : xv G K nL Q cells slots n tau vi vl vr pc lv st := by
  obtain ⟨p, l, e, R, s, m, args, below, meth, c⟩ := K
  obtain ⟨hx, hb, hml, hown, hts, hE, hB, hB0⟩ := hC
  obtain ⟨hd, rfl⟩ := hd
  intro H locs ls hR hS hl
  subst hs
  exact lv_iinc (k := q) (x := Int32.ofInt x) (v := Int32.ofInt (x + z)) hx hb hd hl (by simp [xl_m, hq, xa_tr]) (by rw [Int32.ofInt_add]) hn (xl_m_s G lv _ (xa_i (x + z))) (fun ls h => k H locs ls hR hS h)
theorem vx_iadd (hC : xk_C G K cc own nL) {x y : Int} (hd : xd_D cc pc .iadd 1 pc1) (k : xv G K nL Q cells slots n tau vi vl vr pc1 lv (xa_i (x + y) :: st)) : xv G K nL Q cells slots n tau vi vl vr pc lv (xa_i y :: xa_i x :: st) := by
  obtain ⟨p, l, e, R, s, m, args, below, meth, c⟩ := K
  obtain ⟨hx, hb, hml, hown, hts, hE, hB, hB0⟩ := hC
  obtain ⟨hd, rfl⟩ := hd
  intro H locs ls hR hS hl
  refine lv_iadd hx hb hd ?_
  rw [← Int32.ofInt_add]
  exact k H locs ls hR hS hl
theorem vx_ladd (hC : xk_C G K cc own nL) {x y : Int} (hd : xd_D cc pc .ladd 1 pc1) (k : xv G K nL Q cells slots n tau vi vl vr pc1 lv (xa_l (x + y) :: st)) : xv G K nL Q cells slots n tau vi vl vr pc lv (xa_l y :: xa_l x :: st) := by
  obtain ⟨p, l, e, R, s, m, args, below, meth, c⟩ := K
  obtain ⟨hx, hb, hml, hown, hts, hE, hB, hB0⟩ := hC
  obtain ⟨hd, rfl⟩ := hd
  intro H locs ls hR hS hl
  refine lv_ladd hx hb hd ?_
  rw [← Int64.ofInt_add]
  exact k H locs ls hR hS hl
theorem vx_isub (hC : xk_C G K cc own nL) {x y : Int} (hd : xd_D cc pc .isub 1 pc1) (k : xv G K nL Q cells slots n tau vi vl vr pc1 lv (xa_i (x - y) :: st)) : xv G K nL Q cells slots n tau vi vl vr pc lv (xa_i y :: xa_i x :: st) := by
  obtain ⟨p, l, e, R, s, m, args, below, meth, c⟩ := K
  obtain ⟨hx, hb, hml, hown, hts, hE, hB, hB0⟩ := hC
  obtain ⟨hd, rfl⟩ := hd
  intro H locs ls hR hS hl
  refine lv_isub hx hb hd ?_
  rw [← Int32.ofInt_sub]
  exact k H locs ls hR hS hl
theorem vx_lsub (hC : xk_C G K cc own nL) {x y : Int} (hd : xd_D cc pc .lsub 1 pc1) (k : xv G K nL Q cells slots n tau vi vl vr pc1 lv (xa_l (x - y) :: st)) : xv G K nL Q cells slots n tau vi vl vr pc lv (xa_l y :: xa_l x :: st) := by
  obtain ⟨p, l, e, R, s, m, args, below, meth, c⟩ := K
  obtain ⟨hx, hb, hml, hown, hts, hE, hB, hB0⟩ := hC
  obtain ⟨hd, rfl⟩ := hd
  intro H locs ls hR hS hl
  refine lv_lsub hx hb hd ?_
  rw [← Int64.ofInt_sub]
  exact k H locs ls hR hS hl
theorem vx_imul (hC : xk_C G K cc own nL) {x y : Int} (hd : xd_D cc pc .imul 1 pc1) (k : xv G K nL Q cells slots n tau vi vl vr pc1 lv (xa_i (x * y) :: st)) : xv G K nL Q cells slots n tau vi vl vr pc lv (xa_i y :: xa_i x :: st) := by
  obtain ⟨p, l, e, R, s, m, args, below, meth, c⟩ := K
  obtain ⟨hx, hb, hml, hown, hts, hE, hB, hB0⟩ := hC
  obtain ⟨hd, rfl⟩ := hd
  intro H locs ls hR hS hl
  refine lv_imul hx hb hd ?_
  rw [← Int32.ofInt_mul]
  exact k H locs ls hR hS hl
theorem vx_lmul (hC : xk_C G K cc own nL) {x y : Int} (hd : xd_D cc pc .lmul 1 pc1) (k : xv G K nL Q cells slots n tau vi vl vr pc1 lv (xa_l (x * y) :: st)) : xv G K nL Q cells slots n tau vi vl vr pc lv (xa_l y :: xa_l x :: st) := by
  obtain ⟨p, l, e, R, s, m, args, below, meth, c⟩ := K
  obtain ⟨hx, hb, hml, hown, hts, hE, hB, hB0⟩ := hC
  obtain ⟨hd, rfl⟩ := hd
  intro H locs ls hR hS hl
  refine lv_lmul hx hb hd ?_
  rw [← Int64.ofInt_mul]
  exact k H locs ls hR hS hl
theorem vx_ineg (hC : xk_C G K cc own nL) {x : Int} (hd : xd_D cc pc .ineg 1 pc1) (k : xv G K nL Q cells slots n tau vi vl vr pc1 lv (xa_i (-x) :: st)) : xv G K nL Q cells slots n tau vi vl vr pc lv (xa_i x :: st) := by
  obtain ⟨p, l, e, R, s, m, args, below, meth, c⟩ := K
  obtain ⟨hx, hb, hml, hown, hts, hE, hB, hB0⟩ := hC
  obtain ⟨hd, rfl⟩ := hd
  intro H locs ls hR hS hl
  refine lv_ineg hx hb hd ?_
  rw [← Int32.ofInt_neg]
  exact k H locs ls hR hS hl
theorem vx_iand (hC : xk_C G K cc own nL) {x y : Int} (hd : xd_D cc pc .iand 1 pc1) (k : xv G K nL Q cells slots n tau vi vl vr pc1 lv (xa_i (Int32.ofInt x &&& Int32.ofInt y).toInt :: st)) : xv G K nL Q cells slots n tau vi vl vr pc lv (xa_i y :: xa_i x :: st) := by
  obtain ⟨p, l, e, R, s, m, args, below, meth, c⟩ := K
  obtain ⟨hx, hb, hml, hown, hts, hE, hB, hB0⟩ := hC
  obtain ⟨hd, rfl⟩ := hd
  intro H locs ls hR hS hl
  have k := k H locs ls hR hS hl
  simp only [List.map_cons, xa_tr, Int32.ofInt_toInt] at k
  exact lv_iand hx hb hd k
theorem vx_land (hC : xk_C G K cc own nL) {x y : Int} (hd : xd_D cc pc .land 1 pc1) (k : xv G K nL Q cells slots n tau vi vl vr pc1 lv (xa_l (Int64.ofInt x &&& Int64.ofInt y).toInt :: st)) : xv G K nL Q cells slots n tau vi vl vr pc lv (xa_l y :: xa_l x :: st) := by
  obtain ⟨p, l, e, R, s, m, args, below, meth, c⟩ := K
  obtain ⟨hx, hb, hml, hown, hts, hE, hB, hB0⟩ := hC
  obtain ⟨hd, rfl⟩ := hd
  intro H locs ls hR hS hl
  have k := k H locs ls hR hS hl
  simp only [List.map_cons, xa_tr, Int64.ofInt_toInt] at k
  exact lv_land hx hb hd k
theorem vx_ior (hC : xk_C G K cc own nL) {x y : Int} (hd : xd_D cc pc .ior 1 pc1) (k : xv G K nL Q cells slots n tau vi vl vr pc1 lv (xa_i (Int32.ofInt x ||| Int32.ofInt y).toInt :: st)) : xv G K nL Q cells slots n tau vi vl vr pc lv (xa_i y :: xa_i x :: st) := by
  obtain ⟨p, l, e, R, s, m, args, below, meth, c⟩ := K
  obtain ⟨hx, hb, hml, hown, hts, hE, hB, hB0⟩ := hC
  obtain ⟨hd, rfl⟩ := hd
  intro H locs ls hR hS hl
  have k := k H locs ls hR hS hl
  simp only [List.map_cons, xa_tr, Int32.ofInt_toInt] at k
  exact lv_ior hx hb hd k
theorem vx_lor (hC : xk_C G K cc own nL) {x y : Int} (hd : xd_D cc pc .lor 1 pc1) (k : xv G K nL Q cells slots n tau vi vl vr pc1 lv (xa_l (Int64.ofInt x ||| Int64.ofInt y).toInt :: st)) : xv G K nL Q cells slots n tau vi vl vr pc lv (xa_l y :: xa_l x :: st) := by
  obtain ⟨p, l, e, R, s, m, args, below, meth, c⟩ := K
  obtain ⟨hx, hb, hml, hown, hts, hE, hB, hB0⟩ := hC
  obtain ⟨hd, rfl⟩ := hd
  intro H locs ls hR hS hl
  have k := k H locs ls hR hS hl
  simp only [List.map_cons, xa_tr, Int64.ofInt_toInt] at k
  exact lv_lor hx hb hd k
theorem vx_ixor (hC : xk_C G K cc own nL) {x y : Int} (hd : xd_D cc pc .ixor 1 pc1) (k : xv G K nL Q cells slots n tau vi vl vr pc1 lv (xa_i (Int32.ofInt x ^^^ Int32.ofInt y).toInt :: st)) : xv G K nL Q cells slots n tau vi vl vr pc lv (xa_i y :: xa_i x :: st) := by
  obtain ⟨p, l, e, R, s, m, args, below, meth, c⟩ := K
  obtain ⟨hx, hb, hml, hown, hts, hE, hB, hB0⟩ := hC
  obtain ⟨hd, rfl⟩ := hd
  intro H locs ls hR hS hl
  have k := k H locs ls hR hS hl
  simp only [List.map_cons, xa_tr, Int32.ofInt_toInt] at k
  exact lv_ixor hx hb hd k
theorem vx_lxor (hC : xk_C G K cc own nL) {x y : Int} (hd : xd_D cc pc .lxor 1 pc1) (k : xv G K nL Q cells slots n tau vi vl vr pc1 lv (xa_l (Int64.ofInt x ^^^ Int64.ofInt y).toInt :: st)) : xv G K nL Q cells slots n tau vi vl vr pc lv (xa_l y :: xa_l x :: st) := by
  obtain ⟨p, l, e, R, s, m, args, below, meth, c⟩ := K
  obtain ⟨hx, hb, hml, hown, hts, hE, hB, hB0⟩ := hC
  obtain ⟨hd, rfl⟩ := hd
  intro H locs ls hR hS hl
  have k := k H locs ls hR hS hl
  simp only [List.map_cons, xa_tr, Int64.ofInt_toInt] at k
  exact lv_lxor hx hb hd k
theorem vx_ishl (hC : xk_C G K cc own nL) {x y : Int} (hd : xd_D cc pc .ishl 1 pc1) (k : xv G K nL Q cells slots n tau vi vl vr pc1 lv (xa_i (Int32.ofInt x <<< (Int32.ofInt y &&& 31)).toInt :: st)) : xv G K nL Q cells slots n tau vi vl vr pc lv (xa_i y :: xa_i x :: st) := by
  obtain ⟨p, l, e, R, s, m, args, below, meth, c⟩ := K
  obtain ⟨hx, hb, hml, hown, hts, hE, hB, hB0⟩ := hC
  obtain ⟨hd, rfl⟩ := hd
  intro H locs ls hR hS hl
  have k := k H locs ls hR hS hl
  simp only [List.map_cons, xa_tr, Int32.ofInt_toInt] at k
  exact lv_ishl hx hb hd k
theorem vx_lshl (hC : xk_C G K cc own nL) {x y : Int} (hd : xd_D cc pc .lshl 1 pc1) (k : xv G K nL Q cells slots n tau vi vl vr pc1 lv (xa_l (Int64.ofInt x <<< ((Int32.ofInt y).toInt64 &&& 63)).toInt :: st)) : xv G K nL Q cells slots n tau vi vl vr pc lv (xa_i y :: xa_l x :: st) := by
  obtain ⟨p, l, e, R, s, m, args, below, meth, c⟩ := K
  obtain ⟨hx, hb, hml, hown, hts, hE, hB, hB0⟩ := hC
  obtain ⟨hd, rfl⟩ := hd
  intro H locs ls hR hS hl
  have k := k H locs ls hR hS hl
  simp only [List.map_cons, xa_tr, Int64.ofInt_toInt] at k
  exact lv_lshl hx hb hd rfl k
theorem vx_ishr (hC : xk_C G K cc own nL) {x y : Int} (hd : xd_D cc pc .ishr 1 pc1) (k : xv G K nL Q cells slots n tau vi vl vr pc1 lv (xa_i (Int32.ofInt x >>> (Int32.ofInt y &&& 31)).toInt :: st)) : xv G K nL Q cells slots n tau vi vl vr pc lv (xa_i y :: xa_i x :: st) := by
  obtain ⟨p, l, e, R, s, m, args, below, meth, c⟩ := K
  obtain ⟨hx, hb, hml, hown, hts, hE, hB, hB0⟩ := hC
  obtain ⟨hd, rfl⟩ := hd
  intro H locs ls hR hS hl
  have k := k H locs ls hR hS hl
  simp only [List.map_cons, xa_tr, Int32.ofInt_toInt] at k
  exact lv_ishr hx hb hd k
theorem vx_lshr (hC : xk_C G K cc own nL) {x y : Int} (hd : xd_D cc pc .lshr 1 pc1) (k : xv G K nL Q cells slots n tau vi vl vr pc1 lv (xa_l (Int64.ofInt x >>> ((Int32.ofInt y).toInt64 &&& 63)).toInt :: st)) : xv G K nL Q cells slots n tau vi vl vr pc lv (xa_i y :: xa_l x :: st) := by
  obtain ⟨p, l, e, R, s, m, args, below, meth, c⟩ := K
  obtain ⟨hx, hb, hml, hown, hts, hE, hB, hB0⟩ := hC
  obtain ⟨hd, rfl⟩ := hd
  intro H locs ls hR hS hl
  have k := k H locs ls hR hS hl
  simp only [List.map_cons, xa_tr, Int64.ofInt_toInt] at k
  exact lv_lshr hx hb hd rfl k
theorem vx_iushr (hC : xk_C G K cc own nL) {x y : Int} (hd : xd_D cc pc .iushr 1 pc1) (k : xv G K nL Q cells slots n tau vi vl vr pc1 lv (xa_i ((Int32.ofInt x).toUInt32 >>> ((Int32.ofInt y).toUInt32 &&& Int32.toUInt32 31)).toInt32.toInt :: st)) : xv G K nL Q cells slots n tau vi vl vr pc lv (xa_i y :: xa_i x :: st) := by
  obtain ⟨p, l, e, R, s, m, args, below, meth, c⟩ := K
  obtain ⟨hx, hb, hml, hown, hts, hE, hB, hB0⟩ := hC
  obtain ⟨hd, rfl⟩ := hd
  intro H locs ls hR hS hl
  have k := k H locs ls hR hS hl
  simp only [List.map_cons, xa_tr, Int32.ofInt_toInt] at k
  exact lv_iushr hx hb hd rfl k
end XV
end
section
theorem xn_div {x y : Int} (hx : -2147483648 ≤ x ∧ x < 2147483648) (hy : 0 < y ∧ y < 2147483648) : Int32.ofInt x / Int32.ofInt y = Int32.ofInt (x.tdiv y) :=
  (Int32.ofInt_tdiv (show (-2147483648 : Int) ≤ x by omega) (show x ≤ (2147483647 : Int) by omega) (show (-2147483648 : Int) ≤ y by omega) (show y ≤ (2147483647 : Int) by omega)).symm
theorem xn_divl {x y : Int} (hx : -9223372036854775808 ≤ x ∧ x < 9223372036854775808) (hy : 0 < y ∧ y < 9223372036854775808) : Int64.ofInt x / Int64.ofInt y = Int64.ofInt (x.tdiv y) :=
  (Int64.ofInt_tdiv (show (-9223372036854775808 : Int) ≤ x by omega) (show x ≤ (9223372036854775807 : Int) by omega) (show (-9223372036854775808 : Int) ≤ y by omega) (show y ≤ (9223372036854775807 : Int) by omega)).symm
theorem xn_ne0 {y : Int} (hy : 0 < y ∧ y < 2147483648) : ¬ Int32.ofInt y = 0 := by
  rw [show (0 : Int32) = Int32.ofInt 0 from rfl, xn_eq ⟨by omega, by omega, by omega, by omega⟩]; omega
theorem xn_ne0l {y : Int} (hy : 0 < y ∧ y < 9223372036854775808) : ¬ Int64.ofInt y = 0 := by
  rw [show (0 : Int64) = Int64.ofInt 0 from rfl, ← Int64.toInt_inj, xn_tl (by omega) (by omega), xn_tl (by omega) (by omega)]; omega
theorem xn_i2l {x : Int} (hx : -2147483648 ≤ x ∧ x < 2147483648) : (Int32.ofInt x).toInt64 = Int64.ofInt x := by
  rw [← Int64.ofInt_int32ToInt, xn_t hx.1 hx.2]
theorem xn_i2b {x : Int} (hx : -128 ≤ x ∧ x < 128) : (Int32.ofInt x).toInt8.toInt32 = Int32.ofInt x := by
  apply Int32.toInt_inj.mp
  rw [Int8.toInt_toInt32, Int32.toInt_toInt8, xn_t (by omega) (by omega)]
  exact Int.bmod_eq_of_le (by omega) (by omega)
theorem xn_i2c {x : Int} (hx : 0 ≤ x ∧ x < 65536) : ((Int32.ofInt x).toUInt32 % 65536).toInt32 = Int32.ofInt x := lg_i2c_word (by rw [xn_t (by omega) (by omega)]; omega) (by rw [xn_t (by omega) (by omega)]; omega)
theorem xn_b1 {x : Int} (hx : x = 0 ∨ x = 1) : narrow .boolean (.int (Int32.ofInt x)) = .int (Int32.ofInt x) ∧ fits .boolean (.int (Int32.ofInt x)) = true := by
  rcases hx with rfl | rfl <;> exact ⟨by decide, by decide⟩
theorem xn_by {x : Int} (hx : -128 ≤ x ∧ x < 128) : narrow .byte (.int (Int32.ofInt x)) = .int (Int32.ofInt x) := by
  show Value.int _ = _
  rw [xn_i2b hx]

section XV
variable {G : xg_T} {K : xk_T} {cc : ByteArray} {own : String} {nL : Nat} {Q : State → Prop} {cells slots n : Nat} {tau : Nat → Nat × Nat} {vi vl : Nat → Int → Int} {vr : Nat → Int → Option Nat} {pc pc1 : Nat} {lv : List (Nat × xa_T)} {st : List xa_T}
theorem vx_idiv (hC : xk_C G K cc own nL) {x y : Int} (hx0 : 0 ≤ x ∧ x < 2147483648 ∧ 0 < y ∧ y < 2147483648) (hd : xd_D cc pc .idiv 1 pc1) (k : xv G K nL Q cells slots n tau vi vl vr pc1 lv (xa_i (x / y) :: st)) : xv G K nL Q cells slots n tau vi vl vr pc lv (xa_i y :: xa_i x :: st) := by
  obtain ⟨p, l, e, R, s, m, args, below, meth, c⟩ := K
  obtain ⟨hx, hb, hml, hown, hts, hE, hB, hB0⟩ := hC
  obtain ⟨hd, rfl⟩ := hd
  intro H locs ls hR hS hl
  refine lv_idiv hx hb hd (xn_ne0 hx0.2.2) ?_
  rw [xn_div ⟨by omega, hx0.2.1⟩ hx0.2.2, Int.tdiv_eq_ediv_of_nonneg hx0.1]
  exact k H locs ls hR hS hl
theorem vx_idivT (hC : xk_C G K cc own nL) {x y : Int} (hx0 : -2147483648 ≤ x ∧ x < 2147483648 ∧ 0 < y ∧ y < 2147483648) (hd : xd_D cc pc .idiv 1 pc1) (k : xv G K nL Q cells slots n tau vi vl vr pc1 lv (xa_i (x.tdiv y) :: st)) : xv G K nL Q cells slots n tau vi vl vr pc lv (xa_i y :: xa_i x :: st) := by
  obtain ⟨p, l, e, R, s, m, args, below, meth, c⟩ := K
  obtain ⟨hx, hb, hml, hown, hts, hE, hB, hB0⟩ := hC
  obtain ⟨hd, rfl⟩ := hd
  intro H locs ls hR hS hl
  refine lv_idiv hx hb hd (xn_ne0 hx0.2.2) ?_
  rw [xn_div ⟨hx0.1, hx0.2.1⟩ hx0.2.2]
  exact k H locs ls hR hS hl
theorem vx_irem (hC : xk_C G K cc own nL) {x y : Int} (hx0 : 0 ≤ x ∧ x < 2147483648 ∧ 0 < y ∧ y < 2147483648) (hd : xd_D cc pc .irem 1 pc1) (k : xv G K nL Q cells slots n tau vi vl vr pc1 lv (xa_i (x % y) :: st)) : xv G K nL Q cells slots n tau vi vl vr pc lv (xa_i y :: xa_i x :: st) := by
  obtain ⟨p, l, e, R, s, m, args, below, meth, c⟩ := K
  obtain ⟨hx, hb, hml, hown, hts, hE, hB, hB0⟩ := hC
  obtain ⟨hd, rfl⟩ := hd
  intro H locs ls hR hS hl
  refine lv_irem hx hb hd (xn_ne0 hx0.2.2) ?_
  rw [xn_div ⟨by omega, hx0.2.1⟩ hx0.2.2, Int.tdiv_eq_ediv_of_nonneg hx0.1, ← Int32.ofInt_mul, ← Int32.ofInt_sub, show x - x / y * y = x % y by rw [Int.emod_def, Int.mul_comm]]
  exact k H locs ls hR hS hl
theorem vx_iremT (hC : xk_C G K cc own nL) {x y : Int} (hx0 : -2147483648 ≤ x ∧ x < 2147483648 ∧ 0 < y ∧ y < 2147483648) (hd : xd_D cc pc .irem 1 pc1) (k : xv G K nL Q cells slots n tau vi vl vr pc1 lv (xa_i (x.tmod y) :: st)) : xv G K nL Q cells slots n tau vi vl vr pc lv (xa_i y :: xa_i x :: st) := by
  obtain ⟨p, l, e, R, s, m, args, below, meth, c⟩ := K
  obtain ⟨hx, hb, hml, hown, hts, hE, hB, hB0⟩ := hC
  obtain ⟨hd, rfl⟩ := hd
  intro H locs ls hR hS hl
  refine lv_irem hx hb hd (xn_ne0 hx0.2.2) ?_
  rw [xn_div ⟨hx0.1, hx0.2.1⟩ hx0.2.2, ← Int32.ofInt_mul, ← Int32.ofInt_sub, show x - x.tdiv y * y = x.tmod y by rw [Int.tmod_def, Int.mul_comm]]
  exact k H locs ls hR hS hl
theorem vx_ldiv (hC : xk_C G K cc own nL) {x y : Int} (hx0 : 0 ≤ x ∧ x < 9223372036854775808 ∧ 0 < y ∧ y < 9223372036854775808) (hd : xd_D cc pc .ldiv 1 pc1) (k : xv G K nL Q cells slots n tau vi vl vr pc1 lv (xa_l (x / y) :: st)) : xv G K nL Q cells slots n tau vi vl vr pc lv (xa_l y :: xa_l x :: st) := by
  obtain ⟨p, l, e, R, s, m, args, below, meth, c⟩ := K
  obtain ⟨hx, hb, hml, hown, hts, hE, hB, hB0⟩ := hC
  obtain ⟨hd, rfl⟩ := hd
  intro H locs ls hR hS hl
  refine lv_ldiv hx hb hd (xn_ne0l hx0.2.2) ?_
  rw [xn_divl ⟨by omega, hx0.2.1⟩ hx0.2.2, Int.tdiv_eq_ediv_of_nonneg hx0.1]
  exact k H locs ls hR hS hl
theorem vx_lrem (hC : xk_C G K cc own nL) {x y : Int} (hx0 : 0 ≤ x ∧ x < 9223372036854775808 ∧ 0 < y ∧ y < 9223372036854775808) (hd : xd_D cc pc .lrem 1 pc1) (k : xv G K nL Q cells slots n tau vi vl vr pc1 lv (xa_l (x % y) :: st)) : xv G K nL Q cells slots n tau vi vl vr pc lv (xa_l y :: xa_l x :: st) := by
  obtain ⟨p, l, e, R, s, m, args, below, meth, c⟩ := K
  obtain ⟨hx, hb, hml, hown, hts, hE, hB, hB0⟩ := hC
  obtain ⟨hd, rfl⟩ := hd
  intro H locs ls hR hS hl
  refine lv_lrem hx hb hd (xn_ne0l hx0.2.2) ?_
  rw [xn_divl ⟨by omega, hx0.2.1⟩ hx0.2.2, Int.tdiv_eq_ediv_of_nonneg hx0.1, ← Int64.ofInt_mul, ← Int64.ofInt_sub, show x - x / y * y = x % y by rw [Int.emod_def, Int.mul_comm]]
  exact k H locs ls hR hS hl
theorem vx_i2l (hC : xk_C G K cc own nL) {x : Int} (hx0 : -2147483648 ≤ x ∧ x < 2147483648) (hd : xd_D cc pc .i2l 1 pc1) (k : xv G K nL Q cells slots n tau vi vl vr pc1 lv (xa_l x :: st)) : xv G K nL Q cells slots n tau vi vl vr pc lv (xa_i x :: st) := by
  obtain ⟨p, l, e, R, s, m, args, below, meth, c⟩ := K
  obtain ⟨hx, hb, hml, hown, hts, hE, hB, hB0⟩ := hC
  obtain ⟨hd, rfl⟩ := hd
  intro H locs ls hR hS hl
  exact lv_i2l hx hb hd (xn_i2l hx0) (k H locs ls hR hS hl)
theorem vx_i2b (hC : xk_C G K cc own nL) {x : Int} (hx0 : -128 ≤ x ∧ x < 128) (hd : xd_D cc pc .i2b 1 pc1) (k : xv G K nL Q cells slots n tau vi vl vr pc1 lv (xa_i x :: st)) : xv G K nL Q cells slots n tau vi vl vr pc lv (xa_i x :: st) := by
  obtain ⟨p, l, e, R, s, m, args, below, meth, c⟩ := K
  obtain ⟨hx, hb, hml, hown, hts, hE, hB, hB0⟩ := hC
  obtain ⟨hd, rfl⟩ := hd
  intro H locs ls hR hS hl
  exact lv_i2b hx hb hd (xn_i2b hx0) (k H locs ls hR hS hl)
theorem vx_i2c (hC : xk_C G K cc own nL) {x : Int} (hx0 : 0 ≤ x ∧ x < 65536) (hd : xd_D cc pc .i2c 1 pc1) (k : xv G K nL Q cells slots n tau vi vl vr pc1 lv (xa_i x :: st)) : xv G K nL Q cells slots n tau vi vl vr pc lv (xa_i x :: st) := by
  obtain ⟨p, l, e, R, s, m, args, below, meth, c⟩ := K
  obtain ⟨hx, hb, hml, hown, hts, hE, hB, hB0⟩ := hC
  obtain ⟨hd, rfl⟩ := hd
  intro H locs ls hR hS hl
  exact lv_i2c hx hb hd (xn_i2c hx0) (k H locs ls hR hS hl)
theorem vx_dup (hC : xk_C G K cc own nL) {v : xa_T} (hv : xa_c v = 1) (hd : xd_D cc pc .dup 1 pc1) (k : xv G K nL Q cells slots n tau vi vl vr pc1 lv (v :: v :: st)) : xv G K nL Q cells slots n tau vi vl vr pc lv (v :: st) := by
  obtain ⟨p, l, e, R, s, m, args, below, meth, c⟩ := K
  obtain ⟨hx, hb, hml, hown, hts, hE, hB, hB0⟩ := hC
  obtain ⟨hd, rfl⟩ := hd
  intro H locs ls hR hS hl
  exact lv_dup hx hb hd (by rw [xa_tr_c]; exact hv) (k H locs ls hR hS hl)
theorem vx_pop (hC : xk_C G K cc own nL) {v : xa_T} (hv : xa_c v = 1) (hd : xd_D cc pc .pop 1 pc1) (k : xv G K nL Q cells slots n tau vi vl vr pc1 lv st) : xv G K nL Q cells slots n tau vi vl vr pc lv (v :: st) := by
  obtain ⟨p, l, e, R, s, m, args, below, meth, c⟩ := K
  obtain ⟨hx, hb, hml, hown, hts, hE, hB, hB0⟩ := hC
  obtain ⟨hd, rfl⟩ := hd
  intro H locs ls hR hS hl
  exact lv_pop hx hb hd (by rw [xa_tr_c]; exact hv) (k H locs ls hR hS hl)
theorem vx_pop2 (hC : xk_C G K cc own nL) {v : xa_T} (hv : xa_c v = 2) (hd : xd_D cc pc .pop2 1 pc1) (k : xv G K nL Q cells slots n tau vi vl vr pc1 lv st) : xv G K nL Q cells slots n tau vi vl vr pc lv (v :: st) := by
  obtain ⟨p, l, e, R, s, m, args, below, meth, c⟩ := K
  obtain ⟨hx, hb, hml, hown, hts, hE, hB, hB0⟩ := hC
  obtain ⟨hd, rfl⟩ := hd
  intro H locs ls hR hS hl
  exact lv_pop2_2 hx hb hd (by rw [xa_tr_c]; exact hv) (k H locs ls hR hS hl)
theorem vx_dup2 (hC : xk_C G K cc own nL) {v u : xa_T} (hv : xa_c v = 1) (hu : xa_c u = 1) (hd : xd_D cc pc .dup2 1 pc1) (k : xv G K nL Q cells slots n tau vi vl vr pc1 lv (v :: u :: v :: u :: st)) : xv G K nL Q cells slots n tau vi vl vr pc lv (v :: u :: st) := by
  obtain ⟨p, l, e, R, s, m, args, below, meth, c⟩ := K
  obtain ⟨hx, hb, hml, hown, hts, hE, hB, hB0⟩ := hC
  obtain ⟨hd, rfl⟩ := hd
  intro H locs ls hR hS hl
  exact lv_dup2_11 hx hb hd (by rw [xa_tr_c]; exact hv) (by rw [xa_tr_c]; exact hu) (k H locs ls hR hS hl)
theorem vx_dup2l (hC : xk_C G K cc own nL) {v : xa_T} (hv : xa_c v = 2) (hd : xd_D cc pc .dup2 1 pc1) (k : xv G K nL Q cells slots n tau vi vl vr pc1 lv (v :: v :: st)) : xv G K nL Q cells slots n tau vi vl vr pc lv (v :: st) := by
  obtain ⟨p, l, e, R, s, m, args, below, meth, c⟩ := K
  obtain ⟨hx, hb, hml, hown, hts, hE, hB, hB0⟩ := hC
  obtain ⟨hd, rfl⟩ := hd
  intro H locs ls hR hS hl
  exact lv_dup2_2 hx hb hd (by rw [xa_tr_c]; exact hv) (k H locs ls hR hS hl)
theorem vx_dup_x1 (hC : xk_C G K cc own nL) {v u : xa_T} (hv : xa_c v = 1) (hu : xa_c u = 1) (hd : xd_D cc pc .dup_x1 1 pc1) (k : xv G K nL Q cells slots n tau vi vl vr pc1 lv (v :: u :: v :: st)) : xv G K nL Q cells slots n tau vi vl vr pc lv (v :: u :: st) := by
  obtain ⟨p, l, e, R, s, m, args, below, meth, c⟩ := K
  obtain ⟨hx, hb, hml, hown, hts, hE, hB, hB0⟩ := hC
  obtain ⟨hd, rfl⟩ := hd
  intro H locs ls hR hS hl
  exact lv_dup_x1 hx hb hd (by rw [xa_tr_c]; exact hv) (by rw [xa_tr_c]; exact hu) (k H locs ls hR hS hl)
theorem vx_goto (hC : xk_C G K cc own nL) {off : Int} {tgt : Nat} (ht : (pc : Int) + off = (tgt : Int)) (hd : xd_D cc pc (.goto off) 3 pc1) (k : xv G K nL Q cells slots n tau vi vl vr tgt lv st) : xv G K nL Q cells slots n tau vi vl vr pc lv st := by
  obtain ⟨p, l, e, R, s, m, args, below, meth, c⟩ := K
  obtain ⟨hx, hb, hml, hown, hts, hE, hB, hB0⟩ := hC
  obtain ⟨hd, rfl⟩ := hd
  intro H locs ls hR hS hl
  exact lv_goto hx hb hd ht (k H locs ls hR hS hl)
theorem vx_if_eq (hC : xk_C G K cc own nL) {x off : Int} {tgt : Nat} (hr : -2147483648 ≤ x ∧ x < 2147483648) (ht : (pc : Int) + off = (tgt : Int)) (hd : xd_D cc pc (.ifCond .eq off) 3 pc1) (kt : x = 0 → xv G K nL Q cells slots n tau vi vl vr tgt lv st) (kf : ¬ x = 0 → xv G K nL Q cells slots n tau vi vl vr pc1 lv st) : xv G K nL Q cells slots n tau vi vl vr pc lv (xa_i x :: st) := by
  obtain ⟨p, l, e, R, s, m, args, below, meth, c⟩ := K
  obtain ⟨hx, hb, hml, hown, hts, hE, hB, hB0⟩ := hC
  obtain ⟨hd, rfl⟩ := hd
  intro H locs ls hR hS hl
  exact lv_if_eq hx hb hd ht (fun q => kt ((xn_eq (x := x) (y := 0) ⟨hr.1, hr.2, by omega, by omega⟩).mp q) H locs ls hR hS hl) (fun q => kf (fun z => q ((xn_eq (x := x) (y := 0) ⟨hr.1, hr.2, by omega, by omega⟩).mpr z)) H locs ls hR hS hl)
theorem vx_icmp_eq (hC : xk_C G K cc own nL) {x y off : Int} {tgt : Nat} (hr : -2147483648 ≤ x ∧ x < 2147483648 ∧ -2147483648 ≤ y ∧ y < 2147483648) (ht : (pc : Int) + off = (tgt : Int)) (hd : xd_D cc pc (.if_icmp .eq off) 3 pc1) (kt : x = y → xv G K nL Q cells slots n tau vi vl vr tgt lv st) (kf : ¬ x = y → xv G K nL Q cells slots n tau vi vl vr pc1 lv st) : xv G K nL Q cells slots n tau vi vl vr pc lv (xa_i y :: xa_i x :: st) := by
  obtain ⟨p, l, e, R, s, m, args, below, meth, c⟩ := K
  obtain ⟨hx, hb, hml, hown, hts, hE, hB, hB0⟩ := hC
  obtain ⟨hd, rfl⟩ := hd
  intro H locs ls hR hS hl
  exact lv_icmp_eq hx hb hd ht (fun q => kt ((xn_eq (x := x) (y := y) hr).mp q) H locs ls hR hS hl) (fun q => kf (fun z => q ((xn_eq (x := x) (y := y) hr).mpr z)) H locs ls hR hS hl)
theorem vx_if_ne (hC : xk_C G K cc own nL) {x off : Int} {tgt : Nat} (hr : -2147483648 ≤ x ∧ x < 2147483648) (ht : (pc : Int) + off = (tgt : Int)) (hd : xd_D cc pc (.ifCond .ne off) 3 pc1) (kt : ¬ x = 0 → xv G K nL Q cells slots n tau vi vl vr tgt lv st) (kf : x = 0 → xv G K nL Q cells slots n tau vi vl vr pc1 lv st) : xv G K nL Q cells slots n tau vi vl vr pc lv (xa_i x :: st) := by
  obtain ⟨p, l, e, R, s, m, args, below, meth, c⟩ := K
  obtain ⟨hx, hb, hml, hown, hts, hE, hB, hB0⟩ := hC
  obtain ⟨hd, rfl⟩ := hd
  intro H locs ls hR hS hl
  exact lv_if_ne hx hb hd ht (fun q => kt (fun z => q ((xn_eq (x := x) (y := 0) ⟨hr.1, hr.2, by omega, by omega⟩).mpr z)) H locs ls hR hS hl) (fun q => kf ((xn_eq (x := x) (y := 0) ⟨hr.1, hr.2, by omega, by omega⟩).mp q) H locs ls hR hS hl)
theorem vx_icmp_ne (hC : xk_C G K cc own nL) {x y off : Int} {tgt : Nat} (hr : -2147483648 ≤ x ∧ x < 2147483648 ∧ -2147483648 ≤ y ∧ y < 2147483648) (ht : (pc : Int) + off = (tgt : Int)) (hd : xd_D cc pc (.if_icmp .ne off) 3 pc1) (kt : ¬ x = y → xv G K nL Q cells slots n tau vi vl vr tgt lv st) (kf : x = y → xv G K nL Q cells slots n tau vi vl vr pc1 lv st) : xv G K nL Q cells slots n tau vi vl vr pc lv (xa_i y :: xa_i x :: st) := by
  obtain ⟨p, l, e, R, s, m, args, below, meth, c⟩ := K
  obtain ⟨hx, hb, hml, hown, hts, hE, hB, hB0⟩ := hC
  obtain ⟨hd, rfl⟩ := hd
  intro H locs ls hR hS hl
  exact lv_icmp_ne hx hb hd ht (fun q => kt (fun z => q ((xn_eq (x := x) (y := y) hr).mpr z)) H locs ls hR hS hl) (fun q => kf ((xn_eq (x := x) (y := y) hr).mp q) H locs ls hR hS hl)
theorem vx_if_lt (hC : xk_C G K cc own nL) {x off : Int} {tgt : Nat} (hr : -2147483648 ≤ x ∧ x < 2147483648) (ht : (pc : Int) + off = (tgt : Int)) (hd : xd_D cc pc (.ifCond .lt off) 3 pc1) (kt : x < 0 → xv G K nL Q cells slots n tau vi vl vr tgt lv st) (kf : ¬ x < 0 → xv G K nL Q cells slots n tau vi vl vr pc1 lv st) : xv G K nL Q cells slots n tau vi vl vr pc lv (xa_i x :: st) := by
  obtain ⟨p, l, e, R, s, m, args, below, meth, c⟩ := K
  obtain ⟨hx, hb, hml, hown, hts, hE, hB, hB0⟩ := hC
  obtain ⟨hd, rfl⟩ := hd
  intro H locs ls hR hS hl
  exact lv_if_lt hx hb hd ht (fun q => kt ((xn_lt (x := x) (y := 0) ⟨hr.1, hr.2, by omega, by omega⟩).mp q) H locs ls hR hS hl) (fun q => kf (fun z => q ((xn_lt (x := x) (y := 0) ⟨hr.1, hr.2, by omega, by omega⟩).mpr z)) H locs ls hR hS hl)
theorem vx_icmp_lt (hC : xk_C G K cc own nL) {x y off : Int} {tgt : Nat} (hr : -2147483648 ≤ x ∧ x < 2147483648 ∧ -2147483648 ≤ y ∧ y < 2147483648) (ht : (pc : Int) + off = (tgt : Int)) (hd : xd_D cc pc (.if_icmp .lt off) 3 pc1) (kt : x < y → xv G K nL Q cells slots n tau vi vl vr tgt lv st) (kf : ¬ x < y → xv G K nL Q cells slots n tau vi vl vr pc1 lv st) : xv G K nL Q cells slots n tau vi vl vr pc lv (xa_i y :: xa_i x :: st) := by
  obtain ⟨p, l, e, R, s, m, args, below, meth, c⟩ := K
  obtain ⟨hx, hb, hml, hown, hts, hE, hB, hB0⟩ := hC
  obtain ⟨hd, rfl⟩ := hd
  intro H locs ls hR hS hl
  exact lv_icmp_lt hx hb hd ht (fun q => kt ((xn_lt (x := x) (y := y) hr).mp q) H locs ls hR hS hl) (fun q => kf (fun z => q ((xn_lt (x := x) (y := y) hr).mpr z)) H locs ls hR hS hl)
theorem vx_if_ge (hC : xk_C G K cc own nL) {x off : Int} {tgt : Nat} (hr : -2147483648 ≤ x ∧ x < 2147483648) (ht : (pc : Int) + off = (tgt : Int)) (hd : xd_D cc pc (.ifCond .ge off) 3 pc1) (kt : 0 ≤ x → xv G K nL Q cells slots n tau vi vl vr tgt lv st) (kf : ¬ 0 ≤ x → xv G K nL Q cells slots n tau vi vl vr pc1 lv st) : xv G K nL Q cells slots n tau vi vl vr pc lv (xa_i x :: st) := by
  obtain ⟨p, l, e, R, s, m, args, below, meth, c⟩ := K
  obtain ⟨hx, hb, hml, hown, hts, hE, hB, hB0⟩ := hC
  obtain ⟨hd, rfl⟩ := hd
  intro H locs ls hR hS hl
  exact lv_if_ge hx hb hd ht (fun q => kt ((xn_le (x := 0) (y := x) ⟨by omega, by omega, hr.1, hr.2⟩).mp q) H locs ls hR hS hl) (fun q => kf (fun z => q ((xn_le (x := 0) (y := x) ⟨by omega, by omega, hr.1, hr.2⟩).mpr z)) H locs ls hR hS hl)
theorem vx_icmp_ge (hC : xk_C G K cc own nL) {x y off : Int} {tgt : Nat} (hr : -2147483648 ≤ x ∧ x < 2147483648 ∧ -2147483648 ≤ y ∧ y < 2147483648) (ht : (pc : Int) + off = (tgt : Int)) (hd : xd_D cc pc (.if_icmp .ge off) 3 pc1) (kt : y ≤ x → xv G K nL Q cells slots n tau vi vl vr tgt lv st) (kf : ¬ y ≤ x → xv G K nL Q cells slots n tau vi vl vr pc1 lv st) : xv G K nL Q cells slots n tau vi vl vr pc lv (xa_i y :: xa_i x :: st) := by
  obtain ⟨p, l, e, R, s, m, args, below, meth, c⟩ := K
  obtain ⟨hx, hb, hml, hown, hts, hE, hB, hB0⟩ := hC
  obtain ⟨hd, rfl⟩ := hd
  intro H locs ls hR hS hl
  exact lv_icmp_ge hx hb hd ht (fun q => kt ((xn_le (x := y) (y := x) ⟨hr.2.2.1, hr.2.2.2, hr.1, hr.2.1⟩).mp q) H locs ls hR hS hl) (fun q => kf (fun z => q ((xn_le (x := y) (y := x) ⟨hr.2.2.1, hr.2.2.2, hr.1, hr.2.1⟩).mpr z)) H locs ls hR hS hl)
theorem vx_if_gt (hC : xk_C G K cc own nL) {x off : Int} {tgt : Nat} (hr : -2147483648 ≤ x ∧ x < 2147483648) (ht : (pc : Int) + off = (tgt : Int)) (hd : xd_D cc pc (.ifCond .gt off) 3 pc1) (kt : 0 < x → xv G K nL Q cells slots n tau vi vl vr tgt lv st) (kf : ¬ 0 < x → xv G K nL Q cells slots n tau vi vl vr pc1 lv st) : xv G K nL Q cells slots n tau vi vl vr pc lv (xa_i x :: st) := by
  obtain ⟨p, l, e, R, s, m, args, below, meth, c⟩ := K
  obtain ⟨hx, hb, hml, hown, hts, hE, hB, hB0⟩ := hC
  obtain ⟨hd, rfl⟩ := hd
  intro H locs ls hR hS hl
  exact lv_if_gt hx hb hd ht (fun q => kt ((xn_lt (x := 0) (y := x) ⟨by omega, by omega, hr.1, hr.2⟩).mp q) H locs ls hR hS hl) (fun q => kf (fun z => q ((xn_lt (x := 0) (y := x) ⟨by omega, by omega, hr.1, hr.2⟩).mpr z)) H locs ls hR hS hl)
theorem vx_icmp_gt (hC : xk_C G K cc own nL) {x y off : Int} {tgt : Nat} (hr : -2147483648 ≤ x ∧ x < 2147483648 ∧ -2147483648 ≤ y ∧ y < 2147483648) (ht : (pc : Int) + off = (tgt : Int)) (hd : xd_D cc pc (.if_icmp .gt off) 3 pc1) (kt : y < x → xv G K nL Q cells slots n tau vi vl vr tgt lv st) (kf : ¬ y < x → xv G K nL Q cells slots n tau vi vl vr pc1 lv st) : xv G K nL Q cells slots n tau vi vl vr pc lv (xa_i y :: xa_i x :: st) := by
  obtain ⟨p, l, e, R, s, m, args, below, meth, c⟩ := K
  obtain ⟨hx, hb, hml, hown, hts, hE, hB, hB0⟩ := hC
  obtain ⟨hd, rfl⟩ := hd
  intro H locs ls hR hS hl
  exact lv_icmp_gt hx hb hd ht (fun q => kt ((xn_lt (x := y) (y := x) ⟨hr.2.2.1, hr.2.2.2, hr.1, hr.2.1⟩).mp q) H locs ls hR hS hl) (fun q => kf (fun z => q ((xn_lt (x := y) (y := x) ⟨hr.2.2.1, hr.2.2.2, hr.1, hr.2.1⟩).mpr z)) H locs ls hR hS hl)
theorem vx_if_le (hC : xk_C G K cc own nL) {x off : Int} {tgt : Nat} (hr : -2147483648 ≤ x ∧ x < 2147483648) (ht : (pc : Int) + off = (tgt : Int)) (hd : xd_D cc pc (.ifCond .le off) 3 pc1) (kt : x ≤ 0 → xv G K nL Q cells slots n tau vi vl vr tgt lv st) (kf : ¬ x ≤ 0 → xv G K nL Q cells slots n tau vi vl vr pc1 lv st) : xv G K nL Q cells slots n tau vi vl vr pc lv (xa_i x :: st) := by
  obtain ⟨p, l, e, R, s, m, args, below, meth, c⟩ := K
  obtain ⟨hx, hb, hml, hown, hts, hE, hB, hB0⟩ := hC
  obtain ⟨hd, rfl⟩ := hd
  intro H locs ls hR hS hl
  exact lv_if_le hx hb hd ht (fun q => kt ((xn_le (x := x) (y := 0) ⟨hr.1, hr.2, by omega, by omega⟩).mp q) H locs ls hR hS hl) (fun q => kf (fun z => q ((xn_le (x := x) (y := 0) ⟨hr.1, hr.2, by omega, by omega⟩).mpr z)) H locs ls hR hS hl)
theorem vx_icmp_le (hC : xk_C G K cc own nL) {x y off : Int} {tgt : Nat} (hr : -2147483648 ≤ x ∧ x < 2147483648 ∧ -2147483648 ≤ y ∧ y < 2147483648) (ht : (pc : Int) + off = (tgt : Int)) (hd : xd_D cc pc (.if_icmp .le off) 3 pc1) (kt : x ≤ y → xv G K nL Q cells slots n tau vi vl vr tgt lv st) (kf : ¬ x ≤ y → xv G K nL Q cells slots n tau vi vl vr pc1 lv st) : xv G K nL Q cells slots n tau vi vl vr pc lv (xa_i y :: xa_i x :: st) := by
  obtain ⟨p, l, e, R, s, m, args, below, meth, c⟩ := K
  obtain ⟨hx, hb, hml, hown, hts, hE, hB, hB0⟩ := hC
  obtain ⟨hd, rfl⟩ := hd
  intro H locs ls hR hS hl
  exact lv_icmp_le hx hb hd ht (fun q => kt ((xn_le (x := x) (y := y) hr).mp q) H locs ls hR hS hl) (fun q => kf (fun z => q ((xn_le (x := x) (y := y) hr).mpr z)) H locs ls hR hS hl)
theorem vx_ifnull (hC : xk_C G K cc own nL) {r : Option Nat} {off : Int} {tgt : Nat} (ht : (pc : Int) + off = (tgt : Int)) (hd : xd_D cc pc (.ifnull off) 3 pc1) (kt : r = none → xv G K nL Q cells slots n tau vi vl vr tgt lv st) (kf : ∀ k, r = some k → xv G K nL Q cells slots n tau vi vl vr pc1 lv st) : xv G K nL Q cells slots n tau vi vl vr pc lv (xa_q r :: st) := by
  obtain ⟨p, l, e, R, s, m, args, below, meth, c⟩ := K
  obtain ⟨hx, hb, hml, hown, hts, hE, hB, hB0⟩ := hC
  obtain ⟨hd, rfl⟩ := hd
  intro H locs ls hR hS hl
  cases r with
  | none => exact lv_ifnullN hx hb hd ht (kt rfl H locs ls hR hS hl)
  | some k => exact lv_ifnull hx hb hd (kf k rfl H locs ls hR hS hl)
theorem vx_ifnonnull (hC : xk_C G K cc own nL) {r : Option Nat} {off : Int} {tgt : Nat} (ht : (pc : Int) + off = (tgt : Int)) (hd : xd_D cc pc (.ifnonnull off) 3 pc1) (kt : ∀ k, r = some k → xv G K nL Q cells slots n tau vi vl vr tgt lv st) (kf : r = none → xv G K nL Q cells slots n tau vi vl vr pc1 lv st) : xv G K nL Q cells slots n tau vi vl vr pc lv (xa_q r :: st) := by
  obtain ⟨p, l, e, R, s, m, args, below, meth, c⟩ := K
  obtain ⟨hx, hb, hml, hown, hts, hE, hB, hB0⟩ := hC
  obtain ⟨hd, rfl⟩ := hd
  intro H locs ls hR hS hl
  cases r with
  | none => exact lv_ifnonnullN hx hb hd (kf rfl H locs ls hR hS hl)
  | some k => exact lv_ifnonnull hx hb hd ht (kt k rfl H locs ls hR hS hl)
theorem xn_cmp {x y : Int} (hr : -9223372036854775808 ≤ x ∧ x < 9223372036854775808 ∧ -9223372036854775808 ≤ y ∧ y < 9223372036854775808) : lg_cmp (Int64.ofInt x) (Int64.ofInt y) = Int32.ofInt (if y < x then 1 else if x = y then 0 else -1) := by
  have e1 : Int64.ofInt y < Int64.ofInt x ↔ y < x := by rw [Int64.lt_iff_toInt_lt, xn_tl hr.1 hr.2.1, xn_tl hr.2.2.1 hr.2.2.2]
  have e2 : Int64.ofInt x = Int64.ofInt y ↔ x = y := by rw [← Int64.toInt_inj, xn_tl hr.1 hr.2.1, xn_tl hr.2.2.1 hr.2.2.2]
  unfold lg_cmp
  by_cases h1 : y < x
  · simp [e1, h1]
  · by_cases h2 : x = y
    · subst h2
      simp
    · simp [e1, e2, h1, h2]
theorem vx_lcmp (hC : xk_C G K cc own nL) {x y : Int} (hr : -9223372036854775808 ≤ x ∧ x < 9223372036854775808 ∧ -9223372036854775808 ≤ y ∧ y < 9223372036854775808) (hd : xd_D cc pc .lcmp 1 pc1) (k : xv G K nL Q cells slots n tau vi vl vr pc1 lv (xa_i (if y < x then 1 else if x = y then 0 else -1) :: st)) : xv G K nL Q cells slots n tau vi vl vr pc lv (xa_l y :: xa_l x :: st) := by
  obtain ⟨p, l, e, R, s, m, args, below, meth, c⟩ := K
  obtain ⟨hx, hb, hml, hown, hts, hE, hB, hB0⟩ := hC
  obtain ⟨hd, rfl⟩ := hd
  intro H locs ls hR hS hl
  refine W.lcmp hx hb hd ?_
  rw [xn_cmp hr]
  exact k H locs ls hR hS hl
theorem vx_tableIn (hC : xk_C G K cc own nL) {dflt lo hi off x : Int} {offs : Array Int} {len tgt : Nat} (hr : -2147483648 ≤ x ∧ x < 2147483648) (h1 : lo ≤ x ∧ x ≤ hi) (ho : offs[(x - lo).toNat]? = some off) (ht : (pc : Int) + off = (tgt : Int)) (hd : xd_D cc pc (.tableswitch dflt lo hi offs) len pc1) (k : xv G K nL Q cells slots n tau vi vl vr tgt lv st) : xv G K nL Q cells slots n tau vi vl vr pc lv (xa_i x :: st) := by
  obtain ⟨p, l, e, R, s, m, args, below, meth, c⟩ := K
  obtain ⟨hx, hb, hml, hown, hts, hE, hB, hB0⟩ := hC
  obtain ⟨hd, rfl⟩ := hd
  intro H locs ls hR hS hl
  have e := xn_t (x := x) hr.1 hr.2
  exact lv_tableIn hx hb hd (by rw [e]; omega) (by rw [e]; omega) (by rw [e]; exact ho) ht (k H locs ls hR hS hl)
theorem vx_tableOut (hC : xk_C G K cc own nL) {dflt lo hi x : Int} {offs : Array Int} {len tgt : Nat} (hr : -2147483648 ≤ x ∧ x < 2147483648) (h1 : x < lo ∨ hi < x) (ht : (pc : Int) + dflt = (tgt : Int)) (hd : xd_D cc pc (.tableswitch dflt lo hi offs) len pc1) (k : xv G K nL Q cells slots n tau vi vl vr tgt lv st) : xv G K nL Q cells slots n tau vi vl vr pc lv (xa_i x :: st) := by
  obtain ⟨p, l, e, R, s, m, args, below, meth, c⟩ := K
  obtain ⟨hx, hb, hml, hown, hts, hE, hB, hB0⟩ := hC
  obtain ⟨hd, rfl⟩ := hd
  intro H locs ls hR hS hl
  have e := xn_t (x := x) hr.1 hr.2
  exact lv_tableOut hx hb hd (by rw [e]; exact h1) ht (k H locs ls hR hS hl)
theorem vx_lookup (hC : xk_C G K cc own nL) {dflt off x : Int} {ps : Array (Int × Int)} {len tgt : Nat} (hr : -2147483648 ≤ x ∧ x < 2147483648) (hp : (ps.toList.zip (ps.toList.drop 1)).all (fun (a, next) => a.1 < next.1) = true) (ho : Op.lookupswitch.offset ps.toList dflt x = off) (ht : (pc : Int) + off = (tgt : Int)) (hd : xd_D cc pc (.lookupswitch dflt ps) len pc1) (k : xv G K nL Q cells slots n tau vi vl vr tgt lv st) : xv G K nL Q cells slots n tau vi vl vr pc lv (xa_i x :: st) := by
  obtain ⟨p, l, e, R, s, m, args, below, meth, c⟩ := K
  obtain ⟨hx, hb, hml, hown, hts, hE, hB, hB0⟩ := hC
  obtain ⟨hd, rfl⟩ := hd
  intro H locs ls hR hS hl
  have e := xn_t (x := x) hr.1 hr.2
  exact lv_lookup hx hb hd hp (by rw [e]; exact ho) ht (k H locs ls hR hS hl)
theorem vx_top {x : Int} (k : ∀ y : Int, y = x → xv G K nL Q cells slots n tau vi vl vr pc lv (xa_i y :: st)) : xv G K nL Q cells slots n tau vi vl vr pc lv (xa_i x :: st) := k x rfl
theorem vx_topl {x : Int} (k : ∀ y : Int, y = x → xv G K nL Q cells slots n tau vi vl vr pc lv (xa_l y :: st)) : xv G K nL Q cells slots n tau vi vl vr pc lv (xa_l x :: st) := k x rfl
theorem vx_vi (k : ∀ f : Nat → Int → Int, f = vi → xv G K nL Q cells slots n tau f vl vr pc lv st) : xv G K nL Q cells slots n tau vi vl vr pc lv st := k vi rfl
theorem vx_vl (k : ∀ f : Nat → Int → Int, f = vl → xv G K nL Q cells slots n tau vi f vr pc lv st) : xv G K nL Q cells slots n tau vi vl vr pc lv st := k vl rfl
theorem vx_vr (k : ∀ f : Nat → Int → Option Nat, f = vr → xv G K nL Q cells slots n tau vi vl f pc lv st) : xv G K nL Q cells slots n tau vi vl vr pc lv st := k vr rfl
end XV
end
section
def xf_F (own : String) (ix ci j kind : Nat) : Prop := ∃ (C : String) (T : u_T) (N : Nat) (ref : String), vwCl[ci]? = some (C, T, N) ∧ j < N ∧ xf_k (xf_ty ci j) = kind ∧ Cond.fieldLink own ix ref (T j).2.1 (T j).2.2.1 ∈ xw_tbl ∧ (ref = (T j).1 ∨ Cond.sameField ref (T j).1 (T j).2.1 (T j).2.2.1 ∈ xw_tbl)
theorem xc_w {ws : List Cond} (h1 : ∀ w ∈ ws, w ∈ lw_tbl) (h2 : ∀ w ∈ ws, goodWord w = true) : ∀ w ∈ ws, w ∈ xw_tbl := fun w h => List.mem_filter.mpr ⟨h1 w h, h2 w h⟩
theorem xc_i0 : ∀ w ∈ u_ws RX0 TX0 4, w ∈ xw_tbl := xc_w (by decide +kernel) (by decide +kernel)
theorem xc_i1 : ∀ w ∈ u_ws RX1 TX1 4, w ∈ xw_tbl := xc_w (by decide +kernel) (by decide +kernel)
theorem xc_i2 : ∀ w ∈ u_ws RX2 TX2 12, w ∈ xw_tbl := xc_w (by decide +kernel) (by decide +kernel)
theorem xc_i3 : ∀ w ∈ u_ws RX3 TX3 4, w ∈ xw_tbl := xc_w (by decide +kernel) (by decide +kernel)
theorem xc_i4 : ∀ w ∈ u_ws RX4 TX4 4, w ∈ xw_tbl := xc_w (by decide +kernel) (by decide +kernel)
theorem xc_i5 : ∀ w ∈ u_ws RX5 TX5 9, w ∈ xw_tbl := xc_w (by decide +kernel) (by decide +kernel)
theorem xc_i6 : ∀ w ∈ u_ws RX6 TX6 12, w ∈ xw_tbl := xc_w (by decide +kernel) (by decide +kernel)
theorem xc_i7 : ∀ w ∈ u_ws RX7 TX7 4, w ∈ xw_tbl := xc_w (by decide +kernel) (by decide +kernel)
theorem xc_i8 : ∀ w ∈ u_ws RX8 TX8 4, w ∈ xw_tbl := xc_w (by decide +kernel) (by decide +kernel)
theorem xc_i9 : ∀ w ∈ u_ws RX9 TX9 4, w ∈ xw_tbl := xc_w (by decide +kernel) (by decide +kernel)
theorem xc_i10 : ∀ w ∈ u_ws RX10 TX10 4, w ∈ xw_tbl := xc_w (by decide +kernel) (by decide +kernel)
theorem xc_i11 : ∀ w ∈ u_ws RX11 TX11 6, w ∈ xw_tbl := xc_w (by decide +kernel) (by decide +kernel)
theorem xc_i12 : ∀ w ∈ u_ws RX12 TX12 26, w ∈ xw_tbl := xc_w (by decide +kernel) (by decide +kernel)
theorem xc_all {ci : Nat} {C : String} {T : u_T} {N : Nat} (h : vwCl[ci]? = some (C, T, N)) : ci < 13 ∧ xf_n ci = N ∧ (∀ w ∈ u_ws C T N, w ∈ xw_tbl) ∧ (∀ k, k < N → parseFieldDescriptor (T k).2.2.1 = some (xf_ty ci k)) ∧ (∀ a, a < N → ∀ b, b < N → a ≠ b → (T a).2.1 ≠ (T b).2.1) := by
  match ci, h with
  | 0, h => cases h; exact ⟨by decide, rfl, xc_i0, tyX0_ok, nmX0⟩
  | 1, h => cases h; exact ⟨by decide, rfl, xc_i1, tyX1_ok, nmX1⟩
  | 2, h => cases h; exact ⟨by decide, rfl, xc_i2, tyX2_ok, nmX2⟩
  | 3, h => cases h; exact ⟨by decide, rfl, xc_i3, tyX3_ok, nmX3⟩
  | 4, h => cases h; exact ⟨by decide, rfl, xc_i4, tyX4_ok, nmX4⟩
  | 5, h => cases h; exact ⟨by decide, rfl, xc_i5, tyX5_ok, nmX5⟩
  | 6, h => cases h; exact ⟨by decide, rfl, xc_i6, tyX6_ok, nmX6⟩
  | 7, h => cases h; exact ⟨by decide, rfl, xc_i7, tyX7_ok, nmX7⟩
  | 8, h => cases h; exact ⟨by decide, rfl, xc_i8, tyX8_ok, nmX8⟩
  | 9, h => cases h; exact ⟨by decide, rfl, xc_i9, tyX9_ok, nmX9⟩
  | 10, h => cases h; exact ⟨by decide, rfl, xc_i10, tyX10_ok, nmX10⟩
  | 11, h => cases h; exact ⟨by decide, rfl, xc_i11, tyX11_ok, nmX11⟩
  | 12, h => cases h; exact ⟨by decide, rfl, xc_i12, tyX12_ok, nmX12⟩
  | k + 13, h => simp [vwCl] at h
theorem xh_R.ad {G : xg_T} {n : Nat} {tau : Nat → Nat × Nat} {vi vl : Nat → Int → Int} {vr : Nat → Int → Option Nat} {H : Heap} (h : xh_R G n tau vi vl vr H) {k : Nat} (hk : k < n) : xg_ad G k = xg_b G + k := by
  unfold xg_ad
  rw [if_pos (by have := h.1; omega)]
theorem xe_obj {G : xg_T} {tau : Nat → Nat × Nat} {vi vl : Nat → Int → Int} {vr : Nat → Int → Option Nat} {k ci len N : Nat} (ht : tau k = (ci, len)) (hc : ci < 13) (hN : xf_n ci = N) : xe_E G tau vi vl vr k = .inr (ci, (List.range N).map fun j => xf_v G (xf_k (xf_ty ci j)) (vi k j) (vl k j) (vr k j)) := by
  subst hN
  simp [xe_E, ht, hc]
theorem xe_int {G : xg_T} {tau : Nat → Nat × Nat} {vi vl : Nat → Int → Int} {vr : Nat → Int → Option Nat} {k ty len : Nat} (ht : tau k = (ty, len)) (hc : ty = 13 ∨ ty = 14 ∨ ty = 16) : xe_E G tau vi vl vr k = .inl (G.2.1 ty, len, .inl fun j => Int32.ofInt (vi k j)) := by
  rcases hc with rfl | rfl | rfl <;> simp [xe_E, ht]
theorem xe_long {G : xg_T} {tau : Nat → Nat × Nat} {vi vl : Nat → Int → Int} {vr : Nat → Int → Option Nat} {k len : Nat} (ht : tau k = (15, len)) : xe_E G tau vi vl vr k = .inl (G.2.1 15, len, .inr (.inl fun j => Int64.ofInt (vl k j))) := by
  simp [xe_E, ht]
theorem xe_ref {G : xg_T} {tau : Nat → Nat × Nat} {vi vl : Nat → Int → Int} {vr : Nat → Int → Option Nat} {k ty len : Nat} (ht : tau k = (ty, len)) (hc : ty = 17 ∨ ty = 18) : xe_E G tau vi vl vr k = .inl (G.2.1 ty, len, .inr (.inr (.inr (.inr fun j => (vr k j).map (xg_ad G))))) := by
  rcases hc with rfl | rfl <;> simp [xe_E, ht]
/-- one cell changed -/
theorem xh_R.put {G : xg_T} {n : Nat} {tau : Nat → Nat × Nat} {vi vl vi' vl' : Nat → Int → Int} {vr vr' : Nat → Int → Option Nat} {H H1 : Heap} {k : Nat} (h : xh_R G n tau vi vl vr H) (z : H1.size = H.size) (oq : ∀ q : Nat, q ≠ xg_b G + k → H1[q]? = H[q]?) (hat : va_at G.1 vwCl (xg_b G + k, xe_E G tau vi' vl' vr' k) H1) (ho : ∀ j, j ≠ k → xe_E G tau vi' vl' vr' j = xe_E G tau vi vl vr j) : xh_R G n tau vi' vl' vr' H1 := by
  obtain ⟨h1, h2, h3, h4⟩ := h
  refine ⟨h1, by rw [z]; exact h2, fun j q hj => ?_, fun q hq => by rw [oq q (by omega)]; exact h4 q hq⟩
  obtain ⟨hn, rfl⟩ := xe_get' hj
  by_cases e : j = k
  · subst e; exact hat
  · rw [ho j e]
    exact (h3 j _ (xe_get hn)).kept (oq _ (by show xg_b G + j ≠ _; omega))
theorem xh_S.put {G : xg_T} {H0 H H1 : Heap} {locs : List Loc} {k i : Nat} (h : va_S (xg_A G) H0 H locs) (z : H1.size = H.size) (oq : ∀ q : Nat, q ≠ xg_b G + k → H1[q]? = H[q]?) : va_S (xg_A G) H0 H1 (locs ++ [⟨xg_b G + k, i⟩]) := h.put z oq (show xg_b G ≤ xg_b G + k by omega)
theorem xe_same {G : xg_T} {tau : Nat → Nat × Nat} {vi vl vi' vl' : Nat → Int → Int} {vr vr' : Nat → Int → Option Nat} {j : Nat} (h1 : ∀ b, vi' j b = vi j b) (h2 : ∀ b, vl' j b = vl j b) (h3 : ∀ b, vr' j b = vr j b) : xe_E G tau vi' vl' vr' j = xe_E G tau vi vl vr j := by
  unfold xe_E
  simp only [h1, h2, h3]

section XV
variable {G : xg_T} {K : xk_T} {cc : ByteArray} {own : String} {nL : Nat} {Q : State → Prop} {cells slots n : Nat} {tau : Nat → Nat × Nat} {vi vl : Nat → Int → Int} {vr : Nat → Int → Option Nat} {pc pc1 : Nat} {lv : List (Nat × xa_T)} {st : List xa_T}
theorem vx_getfi (hC : xk_C G K cc own nL) {k ci len j ix : Nat} (ht : k < n ∧ tau k = (ci, len)) (hF : xf_F own ix ci j 0) (hd : xd_D cc pc (.getfield ix) 3 pc1) (kk : xv G K nL Q cells slots n tau vi vl vr pc1 lv (xa_i (vi k j) :: st)) : xv G K nL Q cells slots n tau vi vl vr pc lv (xa_r k :: st) := by
  obtain ⟨p, l, e, R, s, m, args, below, meth, c⟩ := K
  obtain ⟨hx, hb, hml, hown, hts, hE, hB, hB0⟩ := hC
  obtain ⟨hd, rfl⟩ := hd
  intro H locs ls hR hS hl
  obtain ⟨C, T, N, ref, hc, hj, hk, hw, hs⟩ := hF
  obtain ⟨c1, c2, c3, -, -⟩ := xc_all hc
  show W p l e R s m args below meth c H locs cells slots Q (F0 m pc ls (.ref (xg_ad G k) :: st.map (xa_tr G)))
  rw [hR.ad ht.1]
  refine va_get (D := G.1) (cl := vwCl) (ws := xe_W G n tau vi vl vr) (ci := ci) (C := C) (T := T) (N := N) hx hb hts c3 hown hE.1 hR.2.2.1 k (by rw [xe_get ht.1, xe_obj ht.2 c1 c2]) hc j hj (hts _ hw) (fun x h9 => by rcases hs with hs | hs; (rw [hs]; exact h9); exact u_same (hts _ hs) x h9) (v := xf_v G 0 (vi k j) (vl k j) (vr k j)) (by simp [hj, hk]) hd (kk H locs ls hR hS hl)
theorem vx_getfl (hC : xk_C G K cc own nL) {k ci len j ix : Nat} (ht : k < n ∧ tau k = (ci, len)) (hF : xf_F own ix ci j 1) (hd : xd_D cc pc (.getfield ix) 3 pc1) (kk : xv G K nL Q cells slots n tau vi vl vr pc1 lv (xa_l (vl k j) :: st)) : xv G K nL Q cells slots n tau vi vl vr pc lv (xa_r k :: st) := by
  obtain ⟨p, l, e, R, s, m, args, below, meth, c⟩ := K
  obtain ⟨hx, hb, hml, hown, hts, hE, hB, hB0⟩ := hC
  obtain ⟨hd, rfl⟩ := hd
  intro H locs ls hR hS hl
  obtain ⟨C, T, N, ref, hc, hj, hk, hw, hs⟩ := hF
  obtain ⟨c1, c2, c3, -, -⟩ := xc_all hc
  show W p l e R s m args below meth c H locs cells slots Q (F0 m pc ls (.ref (xg_ad G k) :: st.map (xa_tr G)))
  rw [hR.ad ht.1]
  refine va_get (D := G.1) (cl := vwCl) (ws := xe_W G n tau vi vl vr) (ci := ci) (C := C) (T := T) (N := N) hx hb hts c3 hown hE.1 hR.2.2.1 k (by rw [xe_get ht.1, xe_obj ht.2 c1 c2]) hc j hj (hts _ hw) (fun x h9 => by rcases hs with hs | hs; (rw [hs]; exact h9); exact u_same (hts _ hs) x h9) (v := xf_v G 1 (vi k j) (vl k j) (vr k j)) (by simp [hj, hk]) hd (kk H locs ls hR hS hl)
theorem vx_getfr (hC : xk_C G K cc own nL) {k ci len j ix : Nat} {r : Option Nat} (ht : k < n ∧ tau k = (ci, len)) (hF : xf_F own ix ci j 2) (hr : vr k j = r) (hd : xd_D cc pc (.getfield ix) 3 pc1) (kk : xv G K nL Q cells slots n tau vi vl vr pc1 lv (xa_q r :: st)) : xv G K nL Q cells slots n tau vi vl vr pc lv (xa_r k :: st) := by
  obtain ⟨p, l, e, R, s, m, args, below, meth, c⟩ := K
  obtain ⟨hx, hb, hml, hown, hts, hE, hB, hB0⟩ := hC
  obtain ⟨hd, rfl⟩ := hd
  intro H locs ls hR hS hl
  subst hr
  obtain ⟨C, T, N, ref, hc, hj, hk, hw, hs⟩ := hF
  obtain ⟨c1, c2, c3, -, -⟩ := xc_all hc
  show W p l e R s m args below meth c H locs cells slots Q (F0 m pc ls (.ref (xg_ad G k) :: st.map (xa_tr G)))
  rw [hR.ad ht.1]
  refine va_get (D := G.1) (cl := vwCl) (ws := xe_W G n tau vi vl vr) (ci := ci) (C := C) (T := T) (N := N) hx hb hts c3 hown hE.1 hR.2.2.1 k (by rw [xe_get ht.1, xe_obj ht.2 c1 c2]) hc j hj (hts _ hw) (fun x h9 => by rcases hs with hs | hs; (rw [hs]; exact h9); exact u_same (hts _ hs) x h9) (v := xf_v G 2 (vi k j) (vl k j) (vr k j)) (by simp [hj, hk]) hd (kk H locs ls hR hS hl)
/-- a field is written: the core -/
theorem xp_core (hC : xk_C G K cc own nL) {vi' vl' : Nat → Int → Int} {vr' : Nat → Int → Option Nat} {k ci len j kind ix : Nat} {fin : Bool} (hfin : fin = false ∨ K.2.2.2.2.2.2.2.2.1.name = "<init>") (ht : k < n ∧ tau k = (ci, len)) (hF : xf_F own ix ci j kind) (hfi : ∀ C T N, vwCl[ci]? = some (C, T, N) → (T j).2.2.2 = fin ∧ (fin = true → (T j).1 = own)) {v : xa_T} (hn : narrow (xf_ty ci j) (xa_tr G v) = xa_tr G v ∧ fits (xf_ty ci j) (xa_tr G v) = true)
    (hj' : xf_v G kind (vi' k j) (vl' k j) (vr' k j) = xa_tr G v) (ho : ∀ i : Nat, i ≠ j → vi' k i = vi k i ∧ vl' k i = vl k i ∧ vr' k i = vr k i) (ho2 : ∀ a : Nat, a ≠ k → ∀ b, vi' a b = vi a b ∧ vl' a b = vl a b ∧ vr' a b = vr a b)
    (hd : xd_D cc pc (.putfield ix) 3 pc1) (kk : xv G K nL Q cells slots n tau vi' vl' vr' pc1 lv st) : xv G K nL Q cells slots n tau vi vl vr pc lv (v :: xa_r k :: st) := by
  obtain ⟨p, l, e, R, s, m, args, below, meth, c⟩ := K
  obtain ⟨hx, hb, hml, hown, hts, hE, hB, hB0⟩ := hC
  obtain ⟨hd, rfl⟩ := hd
  intro H locs ls hR hS hl
  obtain ⟨C, T, N, ref, hc, hj, hk, hw, hs⟩ := hF
  obtain ⟨c1, c2, c3, c4, c5⟩ := xc_all hc
  obtain ⟨f1, f2⟩ := hfi C T N hc
  show W p l e R s m args below meth c H locs cells slots Q (F0 m pc ls (xa_tr G v :: .ref (xg_ad G k) :: st.map (xa_tr G)))
  rw [hR.ad ht.1]
  have hap := va_apart (own := own) hts c3 (xf_ty ci) c4 c5 hE.1 hc
  obtain ⟨r, h1, cell, q1, q2, q3, q4⟩ : va_at G.1 vwCl (xg_b G + k, .inr (ci, (List.range N).map fun j => xf_v G (xf_k (xf_ty ci j)) (vi k j) (vl k j) (vr k j))) H := by rw [← xe_obj (len := len) ht.2 c1 c2]; exact hR.2.2.1 k _ (xe_get ht.1)
  have hr : r = (C, T, N) := Option.some.inj (h1.symm.trans hc)
  subst hr
  obtain ⟨hSl, hfc, kC, hkC, hkind⟩ := hE.1.1 ci _ hc
  obtain ⟨cf, kf, fi, f, hi, hsl⟩ := hSl j hj
  have hst := (u_facts hfc hkC (u_lays hts c3 hj) hi).1
  have hsame : ∀ x, s.fieldFound? (T j).1 (T j).2.1 (T j).2.2.1 = some x → s.fieldFound? ref (T j).2.1 (T j).2.2.1 = some x := fun x h9 => by rcases hs with hs | hs; (rw [hs]; exact h9); exact u_same (hts _ hs) x h9
  have hlay := hts _ (c3 _ (u_in_lay hj))
  unfold u_lay at hlay
  have fin2 : ∀ H1 : Heap, H1[xg_b G + k]? = some (cell.setSlot f.slot (xa_tr G v)) → H1.size = H.size → (∀ q : Nat, q ≠ xg_b G + k → H1[q]? = H[q]?) → W p l e R s m args below meth c H1 (locs ++ [⟨xg_b G + k, f.slot⟩]) cells slots Q (F0 m (pc + 3) ls (st.map (xa_tr G))) := by
    intro H1 e1 z oq
    refine kk H1 _ ls (hR.put z oq ?_ (fun a ha => xe_same (fun b => (ho2 a ha b).1) (fun b => (ho2 a ha b).2.1) (fun b => (ho2 a ha b).2.2))) (xh_S.put hS z oq) hl
    rw [xe_obj (len := len) ht.2 c1 c2]
    rw [hsl] at e1
    refine ⟨_, hc, t_OB.to (V := updV (vp_V ((List.range N).map fun j => xf_v G (xf_k (xf_ty ci j)) (vi k j) (vl k j) (vr k j))) j (xa_tr G v)) ⟨_, e1, q2, q3, t_set q4 hap hj (xa_tr G v)⟩ (fun i hi => ?_)⟩
    by_cases e : i = j
    · subst e
      simp [updV, vp_V, hj, hk, hj']
    · obtain ⟨o1, o2, o3⟩ := ho i e
      have hi : i < N := hi
      simp [updV, vp_V, e, hi, o1, o2, o3]
  cases fin with
  | false =>
    rw [if_neg (by rw [f1]; decide)] at hlay
    have h6 := u_store hfc hkC hkind hlay hi (c4 j hj) hn.1 hn.2
    exact W.putK hx hb (f := f) ⟨hown, hts _ hw, ⟨_, _, _, hsame _ hi⟩, hst⟩ (by rw [q2]; exact h6) q1 q3 (by rw [hsl]; exact k2_hasslot (q4 j hj)) rfl rfl hd fin2
  | true =>
    rw [if_pos f1] at hlay
    have hcf : m.cls = cf := by
      obtain ⟨_, _, c', _, _, _, -, -, hf', -, -, -, hown2, -⟩ := Cond.laysFinal_spec hlay
      have e1 : c' = cf := by have := hi.symm.trans hf'; simp at this; exact this.1.symm
      rw [f2 rfl] at hown2
      rw [← e1]; exact Option.some.inj (hown.symm.trans hown2)
    have h6 := u_fits hfc hkC hkind (Or.inr hlay) hi (c4 j hj) hn.1 hn.2
    have hin : meth.name = "<init>" := by rcases hfin with h | h; cases h; exact h
    exact W.putFinK hx hb hown (hts _ hw) (hsame _ hi) hst hcf hin (by rw [q2]; exact h6) q1 q3 (by rw [hsl]; exact k2_hasslot (q4 j hj)) rfl rfl hd fin2
def xf_P (own : String) (ix ci j kind : Nat) (fin : Bool) : Prop := xf_F own ix ci j kind ∧ ∀ C T N, vwCl[ci]? = some (C, T, N) → (T j).2.2.2 = fin ∧ (fin = true → (T j).1 = own)
theorem xf_P.of {own : String} {ix ci j kind : Nat} {fin : Bool} {C : String} {T : u_T} {N : Nat} (h : xf_F own ix ci j kind) (hc : vwCl[ci]? = some (C, T, N)) (hf : (T j).2.2.2 = fin ∧ (fin = true → (T j).1 = own)) : xf_P own ix ci j kind fin := ⟨h, fun C' T' N' h' => by
  have e := Option.some.inj (h'.symm.trans hc)
  cases e
  exact hf⟩
theorem vx_putfi (hC : xk_C G K cc own nL) {k ci len j ix : Nat} {x : Int} {fin : Bool} (ht : k < n ∧ tau k = (ci, len)) (hF : xf_P own ix ci j 0 fin) (hfin : fin = false ∨ K.2.2.2.2.2.2.2.2.1.name = "<init>") (hty : xf_ty ci j = .int ∨ (xf_ty ci j = .boolean ∧ (x = 0 ∨ x = 1))) (hd : xd_D cc pc (.putfield ix) 3 pc1) (kk : xv G K nL Q cells slots n tau (xu vi k j x) vl vr pc1 lv st) : xv G K nL Q cells slots n tau vi vl vr pc lv (xa_i x :: xa_r k :: st) :=
  xp_core hC hfin ht hF.1 hF.2 (v := xa_i x) (by rcases hty with h | ⟨h, hx⟩; (rw [h]; exact ⟨rfl, rfl⟩); (rw [h]; exact xn_b1 hx)) (by show Value.int _ = Value.int _; rw [xu_s]) (fun i hi => ⟨xu_n _ _ _ _ (by omega), rfl, rfl⟩) (fun a ha b => ⟨xu_n _ _ _ _ (fun z => ha z.1), rfl, rfl⟩) hd kk
theorem vx_putfl (hC : xk_C G K cc own nL) {k ci len j ix : Nat} {x : Int} {fin : Bool} (ht : k < n ∧ tau k = (ci, len)) (hF : xf_P own ix ci j 1 fin) (hfin : fin = false ∨ K.2.2.2.2.2.2.2.2.1.name = "<init>") (hty : xf_ty ci j = .long) (hd : xd_D cc pc (.putfield ix) 3 pc1) (kk : xv G K nL Q cells slots n tau vi (xu vl k j x) vr pc1 lv st) : xv G K nL Q cells slots n tau vi vl vr pc lv (xa_l x :: xa_r k :: st) :=
  xp_core hC hfin ht hF.1 hF.2 (v := xa_l x) (by rw [hty]; exact ⟨rfl, rfl⟩) (by show Value.long _ = Value.long _; rw [xu_s]) (fun i hi => ⟨rfl, xu_n _ _ _ _ (by omega), rfl⟩) (fun a ha b => ⟨rfl, xu_n _ _ _ _ (fun z => ha z.1), rfl⟩) hd kk
theorem vx_putfr (hC : xk_C G K cc own nL) {k ci len j ix : Nat} {r : Option Nat} {fin : Bool} (ht : k < n ∧ tau k = (ci, len)) (hF : xf_P own ix ci j 2 fin) (hfin : fin = false ∨ K.2.2.2.2.2.2.2.2.1.name = "<init>") (hd : xd_D cc pc (.putfield ix) 3 pc1) (kk : xv G K nL Q cells slots n tau vi vl (xu vr k j r) pc1 lv st) : xv G K nL Q cells slots n tau vi vl vr pc lv (xa_q r :: xa_r k :: st) :=
  xp_core hC hfin ht hF.1 hF.2 (v := xa_q r) (by
    obtain ⟨C, T, N, ref, hc, hj, hk, -⟩ := hF.1
    cases hty : xf_ty ci j with
    | object D => cases r <;> exact ⟨rfl, rfl⟩
    | array D => cases r <;> exact ⟨rfl, rfl⟩
    | _ => rw [hty] at hk; simp [xf_k] at hk) (by show va_rf _ = va_rf _; rw [xu_s]) (fun i hi => ⟨rfl, rfl, xu_n _ _ _ _ (by omega)⟩) (fun a ha b => ⟨rfl, rfl, xu_n _ _ _ _ (fun z => ha z.1)⟩) hd kk
theorem vx_iaload (hC : xk_C G K cc own nL) {k len : Nat} {z : Int} (ht : k < n ∧ tau k = (14, len)) (hz : 0 ≤ z ∧ z < len) (hln : len < 2147483648) (hd : xd_D cc pc .iaload 1 pc1) (kk : xv G K nL Q cells slots n tau vi vl vr pc1 lv (xa_i (vi k z) :: st)) : xv G K nL Q cells slots n tau vi vl vr pc lv (xa_i z :: xa_r k :: st) := by
  obtain ⟨p, l, e, R, s, m, args, below, meth, c⟩ := K
  obtain ⟨hx, hb, hml, hown, hts, hE, hB, hB0⟩ := hC
  obtain ⟨hd, rfl⟩ := hd
  intro H locs ls hR hS hl
  obtain ⟨i1, i2⟩ := xn_in hz.1 hz.2 hln
  have ez : ((z.toNat : Nat) : Int) = z := by omega
  have k2 := kk H locs ls hR hS hl
  show W p l e R s m args below meth c H locs cells slots Q (F0 m pc ls (.int (Int32.ofInt z) :: .ref (xg_ad G k) :: st.map (xa_tr G)))
  rw [hR.ad ht.1]
  refine va_iald hx hb hE.1 hR.2.2.1 k 1 (by rw [xe_get ht.1, xe_int ht.2 (by decide)]) rfl i1 hd ?_
  simp only [i2, ez]
  exact k2
theorem vx_baload (hC : xk_C G K cc own nL) {k len : Nat} {z : Int} (ht : k < n ∧ tau k = (13, len)) (hz : 0 ≤ z ∧ z < len) (hln : len < 2147483648) (hd : xd_D cc pc .baload 1 pc1) (kk : xv G K nL Q cells slots n tau vi vl vr pc1 lv (xa_i (vi k z) :: st)) : xv G K nL Q cells slots n tau vi vl vr pc lv (xa_i z :: xa_r k :: st) := by
  obtain ⟨p, l, e, R, s, m, args, below, meth, c⟩ := K
  obtain ⟨hx, hb, hml, hown, hts, hE, hB, hB0⟩ := hC
  obtain ⟨hd, rfl⟩ := hd
  intro H locs ls hR hS hl
  obtain ⟨i1, i2⟩ := xn_in hz.1 hz.2 hln
  have ez : ((z.toNat : Nat) : Int) = z := by omega
  have k2 := kk H locs ls hR hS hl
  show W p l e R s m args below meth c H locs cells slots Q (F0 m pc ls (.int (Int32.ofInt z) :: .ref (xg_ad G k) :: st.map (xa_tr G)))
  rw [hR.ad ht.1]
  refine va_bald hx hb hE.1 hR.2.2.1 k 0 (by rw [xe_get ht.1, xe_int ht.2 (by decide)]) rfl i1 hd ?_
  simp only [i2, ez]
  exact k2
theorem vx_zaload (hC : xk_C G K cc own nL) {k len : Nat} {z : Int} (ht : k < n ∧ tau k = (16, len)) (hz : 0 ≤ z ∧ z < len) (hln : len < 2147483648) (hd : xd_D cc pc .baload 1 pc1) (kk : xv G K nL Q cells slots n tau vi vl vr pc1 lv (xa_i (vi k z) :: st)) : xv G K nL Q cells slots n tau vi vl vr pc lv (xa_i z :: xa_r k :: st) := by
  obtain ⟨p, l, e, R, s, m, args, below, meth, c⟩ := K
  obtain ⟨hx, hb, hml, hown, hts, hE, hB, hB0⟩ := hC
  obtain ⟨hd, rfl⟩ := hd
  intro H locs ls hR hS hl
  obtain ⟨i1, i2⟩ := xn_in hz.1 hz.2 hln
  have ez : ((z.toNat : Nat) : Int) = z := by omega
  have k2 := kk H locs ls hR hS hl
  show W p l e R s m args below meth c H locs cells slots Q (F0 m pc ls (.int (Int32.ofInt z) :: .ref (xg_ad G k) :: st.map (xa_tr G)))
  rw [hR.ad ht.1]
  refine va_zald hx hb hE.1 hR.2.2.1 k 3 (by rw [xe_get ht.1, xe_int ht.2 (by decide)]) rfl i1 hd ?_
  simp only [i2, ez]
  exact k2
theorem vx_laload (hC : xk_C G K cc own nL) {k len : Nat} {z : Int} (ht : k < n ∧ tau k = (15, len)) (hz : 0 ≤ z ∧ z < len) (hln : len < 2147483648) (hd : xd_D cc pc .laload 1 pc1) (kk : xv G K nL Q cells slots n tau vi vl vr pc1 lv (xa_l (vl k z) :: st)) : xv G K nL Q cells slots n tau vi vl vr pc lv (xa_i z :: xa_r k :: st) := by
  obtain ⟨p, l, e, R, s, m, args, below, meth, c⟩ := K
  obtain ⟨hx, hb, hml, hown, hts, hE, hB, hB0⟩ := hC
  obtain ⟨hd, rfl⟩ := hd
  intro H locs ls hR hS hl
  obtain ⟨i1, i2⟩ := xn_in hz.1 hz.2 hln
  have ez : ((z.toNat : Nat) : Int) = z := by omega
  have k2 := kk H locs ls hR hS hl
  show W p l e R s m args below meth c H locs cells slots Q (F0 m pc ls (.int (Int32.ofInt z) :: .ref (xg_ad G k) :: st.map (xa_tr G)))
  rw [hR.ad ht.1]
  refine va_lald hx hb hE.1 hR.2.2.1 k 2 (by rw [xe_get ht.1, xe_long ht.2]) rfl i1 hd ?_
  simp only [i2, ez]
  exact k2
theorem vx_aaload17 (hC : xk_C G K cc own nL) {k len : Nat} {z : Int} {r : Option Nat} (ht : k < n ∧ tau k = (17, len)) (hz : 0 ≤ z ∧ z < len) (hln : len < 2147483648) (hr : vr k z = r) (hd : xd_D cc pc .aaload 1 pc1) (kk : xv G K nL Q cells slots n tau vi vl vr pc1 lv (xa_q r :: st)) : xv G K nL Q cells slots n tau vi vl vr pc lv (xa_i z :: xa_r k :: st) := by
  obtain ⟨p, l, e, R, s, m, args, below, meth, c⟩ := K
  obtain ⟨hx, hb, hml, hown, hts, hE, hB, hB0⟩ := hC
  obtain ⟨hd, rfl⟩ := hd
  intro H locs ls hR hS hl
  subst hr
  obtain ⟨i1, i2⟩ := xn_in hz.1 hz.2 hln
  have ez : ((z.toNat : Nat) : Int) = z := by omega
  have k2 := kk H locs ls hR hS hl
  show W p l e R s m args below meth c H locs cells slots Q (F0 m pc ls (.int (Int32.ofInt z) :: .ref (xg_ad G k) :: st.map (xa_tr G)))
  rw [hR.ad ht.1]
  refine va_aldq hx hb hE.1 hR.2.2.1 k 4 (by rw [xe_get ht.1, xe_ref ht.2 (by decide)]) rfl i1 hd ?_
  simp only [i2, ez]
  exact k2
theorem vx_aaload18 (hC : xk_C G K cc own nL) {k len : Nat} {z : Int} {r : Option Nat} (ht : k < n ∧ tau k = (18, len)) (hz : 0 ≤ z ∧ z < len) (hln : len < 2147483648) (hr : vr k z = r) (hd : xd_D cc pc .aaload 1 pc1) (kk : xv G K nL Q cells slots n tau vi vl vr pc1 lv (xa_q r :: st)) : xv G K nL Q cells slots n tau vi vl vr pc lv (xa_i z :: xa_r k :: st) := by
  obtain ⟨p, l, e, R, s, m, args, below, meth, c⟩ := K
  obtain ⟨hx, hb, hml, hown, hts, hE, hB, hB0⟩ := hC
  obtain ⟨hd, rfl⟩ := hd
  intro H locs ls hR hS hl
  subst hr
  obtain ⟨i1, i2⟩ := xn_in hz.1 hz.2 hln
  have ez : ((z.toNat : Nat) : Int) = z := by omega
  have k2 := kk H locs ls hR hS hl
  show W p l e R s m args below meth c H locs cells slots Q (F0 m pc ls (.int (Int32.ofInt z) :: .ref (xg_ad G k) :: st.map (xa_tr G)))
  rw [hR.ad ht.1]
  refine va_aldq hx hb hE.1 hR.2.2.1 k 5 (by rw [xe_get ht.1, xe_ref ht.2 (by decide)]) rfl i1 hd ?_
  simp only [i2, ez]
  exact k2
theorem vx_alen (hC : xk_C G K cc own nL) {k ty len : Nat} (ht : k < n ∧ tau k = (ty, len)) (hty : 13 ≤ ty ∧ ty ≤ 18) (hln : len < 2147483648) (hd : xd_D cc pc .arraylength 1 pc1) (kk : xv G K nL Q cells slots n tau vi vl vr pc1 lv (xa_i len :: st)) : xv G K nL Q cells slots n tau vi vl vr pc lv (xa_r k :: st) := by
  obtain ⟨p, l, e, R, s, m, args, below, meth, c⟩ := K
  obtain ⟨hx, hb, hml, hown, hts, hE, hB, hB0⟩ := hC
  obtain ⟨hd, rfl⟩ := hd
  intro H locs ls hR hS hl
  show W p l e R s m args below meth c H locs cells slots Q (F0 m pc ls (.ref (xg_ad G k) :: st.map (xa_tr G)))
  rw [hR.ad ht.1]
  have hP := hR.2.2.1 k _ (xe_get ht.1)
  have hK := hE.1.2
  have fin : ∀ (f : Nat → Value) (fty : FieldType), ArrOfT s (G.2.1 ty) fty → H[xg_b G + k]? = some (arrV (G.2.1 ty) len f) → W p l e R s m args below meth c H locs cells slots Q (F0 m pc ls (.ref (xg_b G + k) :: st.map (xa_tr G))) := by
    intro f fty h1 h2
    refine W.alen (n := Int32.ofInt (len : Int)) hx hb h2 (h1 len f) ?_ rfl rfl hd (kk H locs ls hR hS hl)
    rw [arrV_size]
    rfl
  have c : ty = 13 ∨ ty = 14 ∨ ty = 15 ∨ ty = 16 ∨ ty = 17 ∨ ty = 18 := by omega
  rcases c with rfl | rfl | rfl | rfl | rfl | rfl
  · rw [xe_int ht.2 (by decide)] at hP; exact fin (fun j => .int (Int32.ofInt (vi k j))) .byte (hK 0 _ rfl).1 hP
  · rw [xe_int ht.2 (by decide)] at hP; exact fin (fun j => .int (Int32.ofInt (vi k j))) .int (hK 1 _ rfl).1 hP
  · rw [xe_long ht.2] at hP; exact fin (fun j => .long (Int64.ofInt (vl k j))) .long (hK 2 _ rfl).1 hP
  · rw [xe_int ht.2 (by decide)] at hP; exact fin (fun j => .int (Int32.ofInt (vi k j))) .boolean (hK 3 _ rfl).1 hP
  · rw [xe_ref ht.2 (by decide)] at hP; exact fin (fun j => va_rf ((vr k j).map (xg_ad G))) _ (hK 4 _ rfl).1 hP
  · rw [xe_ref ht.2 (by decide)] at hP; exact fin (fun j => va_rf ((vr k j).map (xg_ad G))) _ (hK 5 _ rfl).1 hP
theorem vx_iastore (hC : xk_C G K cc own nL) {k len : Nat} {z x : Int} (ht : k < n ∧ tau k = (14, len)) (hz : 0 ≤ z ∧ z < len) (hln : len < 2147483648) (hd : xd_D cc pc .iastore 1 pc1) (kk : xv G K nL Q cells slots n tau (xu vi k z x) vl vr pc1 lv st) : xv G K nL Q cells slots n tau vi vl vr pc lv (xa_i x :: xa_i z :: xa_r k :: st) := by
  obtain ⟨p, l, e, R, s, m, args, below, meth, c⟩ := K
  obtain ⟨hx, hb, hml, hown, hts, hE, hB, hB0⟩ := hC
  obtain ⟨hd, rfl⟩ := hd
  intro H locs ls hR hS hl
  obtain ⟨i1, i2⟩ := xn_in hz.1 hz.2 hln
  show W p l e R s m args below meth c H locs cells slots Q (F0 m pc ls (.int (Int32.ofInt x) :: .int (Int32.ofInt z) :: .ref (xg_ad G k) :: st.map (xa_tr G)))
  rw [hR.ad ht.1]
  have hP := hR.2.2.1 k _ (xe_get ht.1)
  rw [xe_int ht.2 (by decide)] at hP
  refine W.iast hx hb hP ((hE.1.2 1 _ rfl).1 len _) (fun q => by cases q) (by show ¬ (_ ∨ (arrV _ _ _).slots.size ≤ _); rw [arrV_size]; exact i1) rfl rfl hd fun H1 e1 z1 oq => ?_
  refine kk H1 _ ls (hR.put z1 oq ?_ (fun a ha => xe_same (fun b => xu_n _ _ _ _ (fun q => ha q.1)) (fun b => rfl) (fun b => rfl))) (xh_S.put hS z1 oq) hl
  rw [xe_int ht.2 (by decide)]
  show H1[_]? = some (vp_cell _ _)
  rw [e1, i2]
  dsimp only
  rw [vp_cell_i, vp_cell_i, arrV_store]
  congr 2
  funext j
  by_cases hj : j = z.toNat
  · subst hj
    have ez : ((z.toNat : Nat) : Int) = z := by omega
    simp [updV, ez, xu_s]
  · have ez : ¬ (j : Int) = z := by omega
    simp [updV, hj, xu, ez]
theorem vx_bastore (hC : xk_C G K cc own nL) {k len : Nat} {z x : Int} (ht : k < n ∧ tau k = (13, len)) (hz : 0 ≤ z ∧ z < len) (hln : len < 2147483648) (hb0 : -128 ≤ x ∧ x < 128) (hd : xd_D cc pc .bastore 1 pc1) (kk : xv G K nL Q cells slots n tau (xu vi k z x) vl vr pc1 lv st) : xv G K nL Q cells slots n tau vi vl vr pc lv (xa_i x :: xa_i z :: xa_r k :: st) := by
  obtain ⟨p, l, e, R, s, m, args, below, meth, c⟩ := K
  obtain ⟨hx, hb, hml, hown, hts, hE, hB, hB0⟩ := hC
  obtain ⟨hd, rfl⟩ := hd
  intro H locs ls hR hS hl
  obtain ⟨i1, i2⟩ := xn_in hz.1 hz.2 hln
  show W p l e R s m args below meth c H locs cells slots Q (F0 m pc ls (.int (Int32.ofInt x) :: .int (Int32.ofInt z) :: .ref (xg_ad G k) :: st.map (xa_tr G)))
  rw [hR.ad ht.1]
  have hP := hR.2.2.1 k _ (xe_get ht.1)
  rw [xe_int ht.2 (by decide)] at hP
  refine W.bast hx hb hP ((hE.1.2 0 _ rfl).1 len _) (fun q => by cases q) (by show ¬ (_ ∨ (arrV _ _ _).slots.size ≤ _); rw [arrV_size]; exact i1) rfl rfl hd fun H1 e1 z1 oq => ?_
  refine kk H1 _ ls (hR.put z1 oq ?_ (fun a ha => xe_same (fun b => xu_n _ _ _ _ (fun q => ha q.1)) (fun b => rfl) (fun b => rfl))) (xh_S.put hS z1 oq) hl
  rw [xe_int ht.2 (by decide)]
  show H1[_]? = some (vp_cell _ _)
  rw [e1, i2]
  dsimp only
  rw [vp_cell_i, vp_cell_i, arrV_store]
  congr 2
  funext j
  by_cases hj : j = z.toNat
  · subst hj
    have ez : ((z.toNat : Nat) : Int) = z := by omega
    simp [updV, ez, xu_s, xn_by hb0]
  · have ez : ¬ (j : Int) = z := by omega
    simp [updV, hj, xu, ez]
theorem vx_zastore (hC : xk_C G K cc own nL) {k len : Nat} {z x : Int} (ht : k < n ∧ tau k = (16, len)) (hz : 0 ≤ z ∧ z < len) (hln : len < 2147483648) (hb0 : x = 0 ∨ x = 1) (hd : xd_D cc pc .bastore 1 pc1) (kk : xv G K nL Q cells slots n tau (xu vi k z x) vl vr pc1 lv st) : xv G K nL Q cells slots n tau vi vl vr pc lv (xa_i x :: xa_i z :: xa_r k :: st) := by
  obtain ⟨p, l, e, R, s, m, args, below, meth, c⟩ := K
  obtain ⟨hx, hb, hml, hown, hts, hE, hB, hB0⟩ := hC
  obtain ⟨hd, rfl⟩ := hd
  intro H locs ls hR hS hl
  obtain ⟨i1, i2⟩ := xn_in hz.1 hz.2 hln
  show W p l e R s m args below meth c H locs cells slots Q (F0 m pc ls (.int (Int32.ofInt x) :: .int (Int32.ofInt z) :: .ref (xg_ad G k) :: st.map (xa_tr G)))
  rw [hR.ad ht.1]
  have hP := hR.2.2.1 k _ (xe_get ht.1)
  rw [xe_int ht.2 (by decide)] at hP
  refine W.zast hx hb hP ((hE.1.2 3 _ rfl).1 len _) (fun q => by cases q) (by show ¬ (_ ∨ (arrV _ _ _).slots.size ≤ _); rw [arrV_size]; exact i1) rfl rfl hd fun H1 e1 z1 oq => ?_
  refine kk H1 _ ls (hR.put z1 oq ?_ (fun a ha => xe_same (fun b => xu_n _ _ _ _ (fun q => ha q.1)) (fun b => rfl) (fun b => rfl))) (xh_S.put hS z1 oq) hl
  rw [xe_int ht.2 (by decide)]
  show H1[_]? = some (vp_cell _ _)
  rw [e1, i2]
  dsimp only
  rw [vp_cell_i, vp_cell_i, arrV_store]
  congr 2
  funext j
  by_cases hj : j = z.toNat
  · subst hj
    have ez : ((z.toNat : Nat) : Int) = z := by omega
    simp [updV, ez, xu_s, (xn_b1 hb0).1]
  · have ez : ¬ (j : Int) = z := by omega
    simp [updV, hj, xu, ez]
theorem vx_lastore (hC : xk_C G K cc own nL) {k len : Nat} {z x : Int} (ht : k < n ∧ tau k = (15, len)) (hz : 0 ≤ z ∧ z < len) (hln : len < 2147483648) (hd : xd_D cc pc .lastore 1 pc1) (kk : xv G K nL Q cells slots n tau vi (xu vl k z x) vr pc1 lv st) : xv G K nL Q cells slots n tau vi vl vr pc lv (xa_l x :: xa_i z :: xa_r k :: st) := by
  obtain ⟨p, l, e, R, s, m, args, below, meth, c⟩ := K
  obtain ⟨hx, hb, hml, hown, hts, hE, hB, hB0⟩ := hC
  obtain ⟨hd, rfl⟩ := hd
  intro H locs ls hR hS hl
  obtain ⟨i1, i2⟩ := xn_in hz.1 hz.2 hln
  show W p l e R s m args below meth c H locs cells slots Q (F0 m pc ls (.long (Int64.ofInt x) :: .int (Int32.ofInt z) :: .ref (xg_ad G k) :: st.map (xa_tr G)))
  rw [hR.ad ht.1]
  have hP := hR.2.2.1 k _ (xe_get ht.1)
  rw [xe_long ht.2] at hP
  refine W.last hx hb hP ((hE.1.2 2 _ rfl).1 len _) (fun q => by cases q) (by show ¬ (_ ∨ (arrV _ _ _).slots.size ≤ _); rw [arrV_size]; exact i1) rfl rfl hd fun H1 e1 z1 oq => ?_
  refine kk H1 _ ls (hR.put z1 oq ?_ (fun a ha => xe_same (fun b => rfl) (fun b => xu_n _ _ _ _ (fun q => ha q.1)) (fun b => rfl))) (xh_S.put hS z1 oq) hl
  rw [xe_long ht.2]
  show H1[_]? = some (vp_cell _ _)
  rw [e1, i2]
  dsimp only
  rw [vp_cell_l, vp_cell_l, arrV_store]
  congr 2
  funext j
  by_cases hj : j = z.toNat
  · subst hj
    have ez : ((z.toNat : Nat) : Int) = z := by omega
    simp [updV, ez, xu_s]
  · have ez : ¬ (j : Int) = z := by omega
    simp [updV, hj, xu, ez]
end XV
end
section
/-- a contract over the number world: called with a in this world, the method answers r and leaves a world, so that post -/
abbrev xm_T : Type := Option xa_T → Nat → (Nat → Nat × Nat) → (Nat → Int → Int) → (Nat → Int → Int) → (Nat → Int → Option Nat) → Prop
def xm_P (G : xg_T) (a : List xa_T) (n : Nat) (tau : Nat → Nat × Nat) (vi vl : Nat → Int → Int) (vr : Nat → Int → Option Nat) : Array Value → State → Prop := fun v U => v = (a.map (xa_tr G)).toArray ∧ xh_R G n tau vi vl vr U.heap ∧ xh_Ev G U
def xm_Q (G : xg_T) (post : xm_T) : Array Value → State → Outcome → State → Prop := fun _ st o t => (∃ (r : Option xa_T) (n : Nat) (tau : Nat → Nat × Nat) (vi vl : Nat → Int → Int) (vr : Nat → Int → Option Nat), o = .returned (r.map (xa_tr G)) ∧ post r n tau vi vl vr ∧ xh_R G n tau vi vl vr t.heap) ∧ st.heap.size ≤ t.heap.size
def xm_R (d mc ms : Nat) : Room := { frames := d, cells := mc, slots := ms, locals := 40 * d }
def xm (G : xg_T) (y : MethodName) (cc : ByteArray) (nL : Nat) (ret : Option FieldType) (d mc ms : Nat) (a : List xa_T) (n : Nat) (tau : Nat → Nat × Nat) (vi vl : Nat → Int → Int) (vr : Nat → Int → Option Nat) (post : xm_T) : Prop :=
  ∀ l : Launch, Met l y (Cond.code y cc nL ret :: xw_tbl) (xm_R d mc ms) (xm_P G a n tau vi vl vr) (xm_Q G post) mc ms (xg_A G)
def xk_Rm (K : xk_T) (d mc ms : Nat) : Prop := d ≤ (xk_R K).frames ∧ 40 * d ≤ (xk_R K).locals ∧ mc ≤ (xk_R K).cells ∧ ms ≤ (xk_R K).slots
def xk_M (K : xk_T) (y : MethodName) (ret : Option FieldType) : Prop := K.2.2.2.2.2.2.2.2.1.sig.returnType = ret ∧ K.2.2.2.2.2.2.2.2.1.locks = false ∧ K.2.2.2.2.2.2.2.2.1.name = y.name
def xk_Q (G : xg_T) (K : xk_T) (post : xm_T) (mc ms : Nat) : State → Prop := MQ K.2.2.2.2.2.2.2.1 (xm_Q G post) K.2.2.2.2.2.2.1 (xk_s K) mc ms (xg_A G)
def xl_a : Nat → List xa_T → List (Nat × xa_T)
  | _, [] => []
  | i, v :: vs => (i, v) :: xl_a (if xa_c v = 2 then i + 2 else i + 1) vs
theorem xl_a_m (G : xg_T) : ∀ (a : List xa_T) (i : Nat), lv_args i (a.map (xa_tr G)) = xl_m G (xl_a i a)
  | [], _ => rfl
  | v :: vs, i => by
    show (i, xa_tr G v) :: lv_args (if (xa_tr G v).category = 2 then i + 2 else i + 1) (vs.map (xa_tr G)) = (i, xa_tr G v) :: xl_m G (xl_a (if xa_c v = 2 then i + 2 else i + 1) vs)
    rw [xa_tr_c, xl_a_m G vs]
theorem xl_sl_len (G : xg_T) : ∀ a : List xa_T, (lg_sl (a.map (xa_tr G))).length = (a.map xa_c).sum
  | [] => rfl
  | v :: vs => by
    have ih := xl_sl_len G vs
    unfold lg_sl at ih ⊢
    rw [List.map_cons, List.flatMap_cons, List.length_append, ih, List.map_cons, List.sum_cons, xa_tr_c]
    rcases v with z | z | r <;> rfl
theorem xm.of {G : xg_T} {y : MethodName} {cc : ByteArray} {nL : Nat} {ret : Option FieldType} {d mc ms : Nat} {a : List xa_T} {n : Nat} {tau : Nat → Nat × Nat} {vi vl : Nat → Int → Int} {vr : Nat → Int → Option Nat} {post : xm_T} {lv : List (Nat × xa_T)} (hy : plainName y.cls = true) (ha : (a.map xa_c).sum ≤ nL) (hlv : xl_a 0 a = lv)
    (body : ∀ K : xk_T, xk_C G K cc y.cls nL → xk_M K y ret → xk_Rm K d mc ms → xv G K nL (xk_Q G K post mc ms) 0 0 n tau vi vl vr 0 lv []) : xm G y cc nL ret d mc ms a n tau vi vl vr post := by
  subst hlv
  intro l
  refine Met.ofW (cc := cc) (maxL := nL) (ret := ret) hy rfl ?_
  intro p e s m args below meth c s₁ B hml hv
  obtain ⟨rfl, hR, hE⟩ := hv
  have hts := atoms_spec (ws := Cond.code y cc nL ret :: xw_tbl) B.pre
  have hC : xk_C G (p, l, e, xm_R d mc ms, s, m, (a.map (xa_tr G)).toArray, below, meth, c) cc y.cls nL := ⟨B.exec, B.bytes, hml, findClass_of_methodNamed B.named, fun w hw => hts w (List.mem_cons_of_mem _ hw), hE, by show xg_b G ≤ s.heap.size; rw [hR.2.1]; omega, hR.2.2.2⟩
  have hk := body (p, l, e, xm_R d mc ms, s, m, (a.map (xa_tr G)).toArray, below, meth, c) hC ⟨B.returns, B.notSynchronized, (name_of_methodNamed B.named B.method).1⟩ ⟨Nat.le_refl _, Nat.le_refl _, Nat.le_refl _, Nat.le_refl _⟩
  have hl := lv_entry (a.map (xa_tr G)) (n := nL) (by rw [xl_sl_len]; exact ha)
  rw [lg_entry_eq]
  rw [xl_a_m] at hl
  exact hk s.heap [] _ hR va_S.rf hl
theorem xm_blind {G : xg_T} {a : List xa_T} {n : Nat} {tau : Nat → Nat × Nat} {vi vl : Nat → Int → Int} {vr : Nat → Int → Option Nat} : FrameBlind (xm_P G a n tau vi vl vr) := fun a U g mk q => ⟨q.1, q.2.1, xh_Ev.same (u := U) rfl q.2.2⟩
theorem xm_good {y : MethodName} {cc : ByteArray} {nL : Nat} {ret : Option FieldType} (h : Cond.code y cc nL ret ∈ xw_tbl) : GoodIn xw_tbl (Cond.code y cc nL ret :: xw_tbl) := fun w hw => by
  rcases List.mem_cons.mp hw with rfl | hw
  · exact xw_good _ h
  · exact xw_good _ hw
theorem xm_goods {A : List Cond} {y : MethodName} {cc : ByteArray} {nL : Nat} {ret : Option FieldType} (hA : ∀ w ∈ A, w ∈ xw_tbl) (h : Cond.code y cc nL ret ∈ xw_tbl) : GoodIn xw_tbl (A ++ (Cond.code y cc nL ret :: xw_tbl)) := fun w hw => by
  rcases List.mem_append.mp hw with hw | hw
  · exact xw_good _ (hA w hw)
  · exact xm_good h w hw
/-- a stronger or weaker post -/
theorem xm.post {G : xg_T} {y : MethodName} {cc : ByteArray} {nL : Nat} {ret : Option FieldType} {d mc ms : Nat} {a : List xa_T} {n : Nat} {tau : Nat → Nat × Nat} {vi vl : Nat → Int → Int} {vr : Nat → Int → Option Nat} {post post' : xm_T} (h : xm G y cc nL ret d mc ms a n tau vi vl vr post) (hp : ∀ r n tau vi vl vr, post r n tau vi vl vr → post' r n tau vi vl vr) : xm G y cc nL ret d mc ms a n tau vi vl vr post' := by
  intro l
  have h := h l
  unfold Met at h ⊢
  intro p e ha hc hk s m args below hf
  intro h1 h2 h3
  obtain ⟨t, o, b1, b2, b3, ⟨⟨⟨r, n', t', vi', vl', vr', g1, g2, g3⟩, g4⟩, g5⟩⟩ := h p e ha hc hk s m args below hf h1 h2 h3
  exact ⟨t, o, b1, b2, b3, ⟨⟨⟨r, n', t', vi', vl', vr', g1, hp _ _ _ _ _ _ g2, g3⟩, g4⟩, g5⟩⟩

section XV
variable {G : xg_T} {K : xk_T} {cc : ByteArray} {own : String} {nL : Nat} {Q : State → Prop} {cells slots n : Nat} {tau : Nat → Nat × Nat} {vi vl : Nat → Int → Int} {vr : Nat → Int → Option Nat} {pc pc1 : Nat} {lv : List (Nat × xa_T)} {st : List xa_T}
theorem xv_run (hC : xk_C G K cc own nL) {mc ms : Nat} {A : Array Value} {stk : List xa_T} {post : xm_T} (hrun : ∀ (H : Heap) (locs : List Loc) (ls : Array Slot), xh_R G n tau vi vl vr H → va_S (xg_A G) (xk_s K).heap H locs → lv_has ls nL (xl_m G lv) → va_Run K.1 K.2.1 K.2.2.1 K.2.2.2.1 K.2.2.2.2.1 K.2.2.2.2.2.1 K.2.2.2.2.2.2.1 K.2.2.2.2.2.2.2.1 K.2.2.2.2.2.2.2.2.1 K.2.2.2.2.2.2.2.2.2 H locs cells slots mc ms (F0 K.2.2.2.2.2.1 pc ls (stk.map (xa_tr G))) (st.map (xa_tr G)) (xm_Q G post A) (xg_A G))
    (kk : ∀ (r : Option xa_T) (n : Nat) (tau : Nat → Nat × Nat) (vi vl : Nat → Int → Int) (vr : Nat → Int → Option Nat), post r n tau vi vl vr → xv G K nL Q (cells + mc) (slots + ms) n tau vi vl vr (pc + 3) lv (r.toList ++ st)) : xv G K nL Q cells slots n tau vi vl vr pc lv stk := by
  obtain ⟨p, l, e, R, s, m, args, below, meth, c⟩ := K
  obtain ⟨hx, hb, hml, hown, hts, hE, hB, hB0⟩ := hC
  intro H locs ls hR hS hl T hT X
  obtain ⟨v, st₀, t, T', L, h0, X', hL, e1, e2, ⟨⟨r, n', tau', vi', vl', vr', hv, hp, hR1⟩, hz⟩, stp⟩ := hrun H locs ls hR hS hl T hT X
  rw [h0] at hz
  have hv : v = r.map (xa_tr G) := by cases hv; rfl
  subst hv
  have hR2 : xh_R G n' tau' vi' vl' vr' T'.heap := by rw [e1]; exact hR1
  have hS2 : va_S (xg_A G) s.heap T'.heap (locs ++ L) := ⟨Nat.le_trans hS.1 (by rw [e1]; exact hz), fun q q1 q2 => by
    have q3 : q < xg_b G := by
      rcases Nat.lt_or_ge q (xg_b G) with z | z
      · exact z
      · exact absurd z q2
    rw [hR2.2.2.2 q q3, hB0 q q3], fun q hq => by
      rcases List.mem_append.mp hq with h | h
      · exact hS.2.2 q h
      · exact hL q h⟩
  have k2 := kk r n' tau' vi' vl' vr' hp T'.heap (locs ++ L) ls hR2 hS2 hl
  have es : (r.toList ++ st).map (xa_tr G) = (r.map (xa_tr G)).toList ++ st.map (xa_tr G) := by cases r <;> rfl
  unfold xk_W at k2
  rw [es] at k2
  obtain ⟨t2, a1, b1⟩ := k2 T' rfl X'
  exact ⟨t2, stp t2 a1, b1⟩
/-- the words of a call of a method of the receiver's own class -/
def xy_V (own : String) (ix : Nat) (y : MethodName) (cc1 : ByteArray) (nL1 : Nat) (ret1 : Option FieldType) (np : Nat) : Prop := (∀ w ∈ ([.methodLink own ix y, .instanceMethod y, .selects y.cls y y, .initialized y.cls] : List Cond), w ∈ xw_tbl) ∧ Cond.code y cc1 nL1 ret1 ∈ xw_tbl ∧ (y.cls ≠ "java/lang/invoke/MethodHandle" ∧ y.cls ≠ "java/lang/invoke/VarHandle" ∧ (parseMethodDescriptor y.desc).map (fun d => d.parameters.length) = some np)
theorem vx_callV (hC : xk_C G K cc own nL) {d d1 mc ms mc1 ms1 nL1 : Nat} {y : MethodName} {cc1 : ByteArray} {ret1 : Option FieldType} {a : List xa_T} {stk : List xa_T} {post : xm_T} {k ci len ix np : Nat} {C : String} {T : u_T} {N : Nat} (hM : xm G y cc1 nL1 ret1 d mc ms (xa_r k :: a) n tau vi vl vr post) (hy : xy_V own ix y cc1 nL1 ret1 np) (ht : k < n ∧ tau k = (ci, len)) (hc : vwCl[ci]? = some (C, T, N)) (hyc : y.cls = C) (hnp : a.length = np) (hRm : xk_Rm K d1 mc1 ms1) (hcs : d + 1 ≤ d1 ∧ nL1 ≤ 21 ∧ cells + mc ≤ mc1 ∧ slots + ms ≤ ms1) (hw8 : (st.map xa_c).sum ≤ 8) (hstk : stk = a.reverse ++ xa_r k :: st) (hd : xd_D cc pc (.invokevirtual ix) 3 pc1) (kk : ∀ (r : Option xa_T) (n : Nat) (tau : Nat → Nat × Nat) (vi vl : Nat → Int → Int) (vr : Nat → Int → Option Nat), post r n tau vi vl vr → xv G K nL Q (cells + mc) (slots + ms) n tau vi vl vr pc1 lv (r.toList ++ st)) : xv G K nL Q cells slots n tau vi vl vr pc lv stk := by
  have hC0 := hC
  obtain ⟨hdg, rfl⟩ := hd
  subst hstk
  refine xv_run (A := #[]) hC0 ?_ kk
  obtain ⟨p, l, e, R, s, m, args, below, meth, c⟩ := K
  obtain ⟨hx, hb, hml, hown, hts, hE, hB, hB0⟩ := hC
  obtain ⟨r1, r2, r3, r4⟩ := hRm
  simp only [xk_R] at r1 r2 r3 r4
  intro H locs ls hR hS hl
  have hw9 : ((st.map (xa_tr G)).map fun v => v.category).sum ≤ 8 := by
    rw [List.map_map, show ((fun v : Value => v.category) ∘ xa_tr G) = xa_c from funext fun v => xa_tr_c G v]
    exact hw8
  obtain ⟨y1, y2, y3⟩ := hy
  obtain ⟨c1, c2, -⟩ := xc_all hc
  have hrecv : ∃ cell : Cell, H[xg_ad G k]? = some cell ∧ cell.vm.isStatics = false ∧ s.vm.findClass y.cls = some cell.cls := by
    rw [hR.ad ht.1, hyc]
    exact va_recv hE.1 hR.2.2.1 hc (q0 := k) (by rw [xe_get ht.1, xe_obj ht.2 c1 c2])
  rw [List.map_append, List.map_reverse]
  exact va_runV (As := a.map (xa_tr G)) (rest := st.map (xa_tr G)) (b := xg_ad G k) ⟨hx, hb, hml, hown, hts⟩ (hM l) (cwV np hts (xm_goods y1 y2) rfl rfl rfl ⟨rfl, y3⟩ ⟨by show d + 1 ≤ R.frames; omega, by show 8 + (nL1 + 11) + 40 * d ≤ R.locals; omega⟩) ⟨xm_blind, hrecv, fun U hU hW => ⟨rfl, by rw [hU]; exact hR, hE.warm hW⟩⟩ rfl (by rw [List.length_map]; exact hnp) hl.1 rfl (lv_room hw9) hdg ⟨by show cells + mc ≤ R.cells; omega, by show slots + ms ≤ R.slots; omega⟩
def xy_U (own : String) (ix : Nat) (C owner : String) (x y : MethodName) (cc1 : ByteArray) (nL1 : Nat) (ret1 : Option FieldType) (np : Nat) : Prop := (∀ w ∈ ([.methodLink own ix x, .sameMethod x.cls owner x.name x.desc, .instanceMethod ⟨owner, x.name, x.desc⟩, .selects C x y, .instanceMethod y, .initialized y.cls] : List Cond), w ∈ xw_tbl) ∧ (∃ b0 m0 r0, Cond.code ⟨owner, x.name, x.desc⟩ b0 m0 r0 ∈ xw_tbl) ∧ Cond.code y cc1 nL1 ret1 ∈ xw_tbl ∧ (owner ≠ "java/lang/invoke/MethodHandle" ∧ owner ≠ "java/lang/invoke/VarHandle" ∧ (parseMethodDescriptor x.desc).map (fun d => d.parameters.length) = some np)
theorem vx_callU (hC : xk_C G K cc own nL) {d d1 mc ms mc1 ms1 nL1 : Nat} {y : MethodName} {cc1 : ByteArray} {ret1 : Option FieldType} {a : List xa_T} {stk : List xa_T} {post : xm_T} {k ci len ix np : Nat} {C owner : String} {x : MethodName} {T : u_T} {N : Nat} (hM : xm G y cc1 nL1 ret1 d mc ms (xa_r k :: a) n tau vi vl vr post) (hy : xy_U own ix C owner x y cc1 nL1 ret1 np) (ht : k < n ∧ tau k = (ci, len)) (hc : vwCl[ci]? = some (C, T, N)) (hnp : a.length = np) (hRm : xk_Rm K d1 mc1 ms1) (hcs : d + 1 ≤ d1 ∧ nL1 ≤ 21 ∧ cells + mc ≤ mc1 ∧ slots + ms ≤ ms1) (hw8 : (st.map xa_c).sum ≤ 8) (hstk : stk = a.reverse ++ xa_r k :: st) (hd : xd_D cc pc (.invokevirtual ix) 3 pc1) (kk : ∀ (r : Option xa_T) (n : Nat) (tau : Nat → Nat × Nat) (vi vl : Nat → Int → Int) (vr : Nat → Int → Option Nat), post r n tau vi vl vr → xv G K nL Q (cells + mc) (slots + ms) n tau vi vl vr pc1 lv (r.toList ++ st)) : xv G K nL Q cells slots n tau vi vl vr pc lv stk := by
  have hC0 := hC
  obtain ⟨hdg, rfl⟩ := hd
  subst hstk
  refine xv_run (A := #[]) hC0 ?_ kk
  obtain ⟨p, l, e, R, s, m, args, below, meth, c⟩ := K
  obtain ⟨hx, hb, hml, hown, hts, hE, hB, hB0⟩ := hC
  obtain ⟨r1, r2, r3, r4⟩ := hRm
  simp only [xk_R] at r1 r2 r3 r4
  intro H locs ls hR hS hl
  have hw9 : ((st.map (xa_tr G)).map fun v => v.category).sum ≤ 8 := by
    rw [List.map_map, show ((fun v : Value => v.category) ∘ xa_tr G) = xa_c from funext fun v => xa_tr_c G v]
    exact hw8
  obtain ⟨y1, ⟨b0, m0, r0, y0⟩, y2, y3⟩ := hy
  obtain ⟨c1, c2, -⟩ := xc_all hc
  have hrecv : ∃ cell : Cell, H[xg_ad G k]? = some cell ∧ cell.vm.isStatics = false ∧ s.vm.findClass C = some cell.cls := by
    rw [hR.ad ht.1]
    exact va_recv hE.1 hR.2.2.1 hc (q0 := k) (by rw [xe_get ht.1, xe_obj ht.2 c1 c2])
  rw [List.map_append, List.map_reverse]
  exact va_runU (As := a.map (xa_tr G)) (rest := st.map (xa_tr G)) (b := xg_ad G k) (C := C) (owner := owner) ⟨hx, hb, hml, hown, hts⟩ (hM l) (va_cwO np hts (xm_goods y1 y2) rfl rfl rfl y0 y3 ⟨by show d + 1 ≤ R.frames; omega, by show 8 + (nL1 + 11) + 40 * d ≤ R.locals; omega⟩) ⟨xm_blind, hrecv, fun U hU hW => ⟨rfl, by rw [hU]; exact hR, hE.warm hW⟩⟩ rfl (by rw [List.length_map]; exact hnp) hl.1 rfl (lv_room hw9) hdg ⟨by show cells + mc ≤ R.cells; omega, by show slots + ms ≤ R.slots; omega⟩
def xy_SU (own : String) (ix : Nat) (y : MethodName) (cc1 : ByteArray) (nL1 : Nat) (ret1 : Option FieldType) (np : Nat) : Prop := (∀ w ∈ ([.methodLink own ix y, .sameMethod y.cls y.cls y.name y.desc, .superclass own y.cls, .instanceMethod y, .initialized y.cls] : List Cond), w ∈ xw_tbl) ∧ Cond.code y cc1 nL1 ret1 ∈ xw_tbl ∧ (y.name ≠ "<init>" ∧ (parseMethodDescriptor y.desc).map (fun d => d.parameters.length) = some np)
theorem vx_callSU (hC : xk_C G K cc own nL) {d d1 mc ms mc1 ms1 nL1 : Nat} {y : MethodName} {cc1 : ByteArray} {ret1 : Option FieldType} {a : List xa_T} {stk : List xa_T} {post : xm_T} {k ci len ix np : Nat} {C : String} {T : u_T} {N : Nat} (hM : xm G y cc1 nL1 ret1 d mc ms (xa_r k :: a) n tau vi vl vr post) (hy : xy_SU own ix y cc1 nL1 ret1 np) (ht : k < n ∧ tau k = (ci, len)) (hc : vwCl[ci]? = some (C, T, N)) (hnp : a.length = np) (hRm : xk_Rm K d1 mc1 ms1) (hcs : d + 1 ≤ d1 ∧ nL1 ≤ 21 ∧ cells + mc ≤ mc1 ∧ slots + ms ≤ ms1) (hw8 : (st.map xa_c).sum ≤ 8) (hstk : stk = a.reverse ++ xa_r k :: st) (hd : xd_D cc pc (.invokespecial ix) 3 pc1) (kk : ∀ (r : Option xa_T) (n : Nat) (tau : Nat → Nat × Nat) (vi vl : Nat → Int → Int) (vr : Nat → Int → Option Nat), post r n tau vi vl vr → xv G K nL Q (cells + mc) (slots + ms) n tau vi vl vr pc1 lv (r.toList ++ st)) : xv G K nL Q cells slots n tau vi vl vr pc lv stk := by
  have hC0 := hC
  obtain ⟨hdg, rfl⟩ := hd
  subst hstk
  refine xv_run (A := #[]) hC0 ?_ kk
  obtain ⟨p, l, e, R, s, m, args, below, meth, c⟩ := K
  obtain ⟨hx, hb, hml, hown, hts, hE, hB, hB0⟩ := hC
  obtain ⟨r1, r2, r3, r4⟩ := hRm
  simp only [xk_R] at r1 r2 r3 r4
  intro H locs ls hR hS hl
  have hw9 : ((st.map (xa_tr G)).map fun v => v.category).sum ≤ 8 := by
    rw [List.map_map, show ((fun v : Value => v.category) ∘ xa_tr G) = xa_c from funext fun v => xa_tr_c G v]
    exact hw8
  obtain ⟨y1, y2, y3⟩ := hy
  obtain ⟨c1, c2, -⟩ := xc_all hc
  have hrecv : ∃ cell : Cell, H[xg_ad G k]? = some cell ∧ cell.vm.isStatics = false ∧ s.vm.findClass C = some cell.cls := by
    rw [hR.ad ht.1]
    exact va_recv hE.1 hR.2.2.1 hc (q0 := k) (by rw [xe_get ht.1, xe_obj ht.2 c1 c2])
  rw [List.map_append, List.map_reverse]
  exact va_runSU (hE.1.1 ci _ hc).2 (As := a.map (xa_tr G)) (rest := st.map (xa_tr G)) (b := xg_ad G k) ⟨hx, hb, hml, hown, hts⟩ (hM l) (va_cwSU np hts (xm_goods y1 y2) rfl rfl rfl y3 ⟨by show d + 1 ≤ R.frames; omega, by show 8 + (nL1 + 11) + 40 * d ≤ R.locals; omega⟩) ⟨xm_blind, hrecv, fun U hU hW => ⟨rfl, by rw [hU]; exact hR, hE.warm hW⟩⟩ rfl (by rw [List.length_map]; exact hnp) hl.1 rfl (lv_room hw9) hdg ⟨by show cells + mc ≤ R.cells; omega, by show slots + ms ≤ R.slots; omega⟩
def xy_S (own : String) (ix : Nat) (y : MethodName) (cc1 : ByteArray) (nL1 : Nat) (ret1 : Option FieldType) (np : Nat) : Prop := (∀ w ∈ ([.methodLink own ix y, .static y, .initialized y.cls] : List Cond), w ∈ xw_tbl) ∧ Cond.code y cc1 nL1 ret1 ∈ xw_tbl ∧ (y.cls ≠ "java/lang/invoke/MethodHandle" ∧ y.cls ≠ "java/lang/invoke/VarHandle" ∧ (parseMethodDescriptor y.desc).map (fun d => d.parameters.length) = some np)
theorem vx_callS (hC : xk_C G K cc own nL) {d d1 mc ms mc1 ms1 nL1 : Nat} {y : MethodName} {cc1 : ByteArray} {ret1 : Option FieldType} {a : List xa_T} {stk : List xa_T} {post : xm_T} {ix np : Nat} (hM : xm G y cc1 nL1 ret1 d mc ms a n tau vi vl vr post) (hy : xy_S own ix y cc1 nL1 ret1 np) (hnp : a.length = np) (hRm : xk_Rm K d1 mc1 ms1) (hcs : d + 1 ≤ d1 ∧ nL1 ≤ 21 ∧ cells + mc ≤ mc1 ∧ slots + ms ≤ ms1) (hw8 : (st.map xa_c).sum ≤ 8) (hstk : stk = a.reverse ++ st) (hd : xd_D cc pc (.invokestatic ix) 3 pc1) (kk : ∀ (r : Option xa_T) (n : Nat) (tau : Nat → Nat × Nat) (vi vl : Nat → Int → Int) (vr : Nat → Int → Option Nat), post r n tau vi vl vr → xv G K nL Q (cells + mc) (slots + ms) n tau vi vl vr pc1 lv (r.toList ++ st)) : xv G K nL Q cells slots n tau vi vl vr pc lv stk := by
  have hC0 := hC
  obtain ⟨hdg, rfl⟩ := hd
  subst hstk
  refine xv_run (A := #[]) hC0 ?_ kk
  obtain ⟨p, l, e, R, s, m, args, below, meth, c⟩ := K
  obtain ⟨hx, hb, hml, hown, hts, hE, hB, hB0⟩ := hC
  obtain ⟨r1, r2, r3, r4⟩ := hRm
  simp only [xk_R] at r1 r2 r3 r4
  intro H locs ls hR hS hl
  have hw9 : ((st.map (xa_tr G)).map fun v => v.category).sum ≤ 8 := by
    rw [List.map_map, show ((fun v : Value => v.category) ∘ xa_tr G) = xa_c from funext fun v => xa_tr_c G v]
    exact hw8
  obtain ⟨y1, y2, y3⟩ := hy
  rw [List.map_append, List.map_reverse]
  exact va_runS (As := a.map (xa_tr G)) (rest := st.map (xa_tr G)) ⟨hx, hb, hml, hown, hts⟩ (hM l) (va_cwS np hts (xm_goods y1 y2) rfl rfl rfl y3 ⟨by show d + 1 ≤ R.frames; omega, by show 8 + (nL1 + 11) + 40 * d ≤ R.locals; omega⟩) ⟨xm_blind, fun U hU hW => ⟨rfl, by rw [hU]; exact hR, hE.warm hW⟩⟩ rfl (by rw [List.length_map]; exact hnp) hl.1 rfl (lv_room hw9) hdg ⟨by show cells + mc ≤ R.cells; omega, by show slots + ms ≤ R.slots; omega⟩
def xy_I (own : String) (ix : Nat) (y : MethodName) (cc1 : ByteArray) (nL1 : Nat) (np : Nat) : Prop := (∀ w ∈ ([.methodLink own ix y, .instanceMethod y, .initialized y.cls] : List Cond), w ∈ xw_tbl) ∧ Cond.code y cc1 nL1 none ∈ xw_tbl ∧ y.name = "<init>" ∧ (y.cls ≠ "java/lang/invoke/MethodHandle" ∧ y.cls ≠ "java/lang/invoke/VarHandle" ∧ (parseMethodDescriptor y.desc).map (fun d => d.parameters.length) = some np)
theorem vx_callI (hC : xk_C G K cc own nL) {d d1 mc ms mc1 ms1 nL1 : Nat} {y : MethodName} {cc1 : ByteArray} {a : List xa_T} {stk : List xa_T} {post : xm_T} {k ix np : Nat} (hM : xm G y cc1 nL1 none d mc ms (xa_r k :: a) n tau vi vl vr post) (hy : xy_I own ix y cc1 nL1 np) (hnp : a.length = np) (hRm : xk_Rm K d1 mc1 ms1) (hcs : d + 1 ≤ d1 ∧ nL1 ≤ 21 ∧ cells + mc ≤ mc1 ∧ slots + ms ≤ ms1) (hw8 : (st.map xa_c).sum ≤ 8) (hstk : stk = a.reverse ++ xa_r k :: st) (hd : xd_D cc pc (.invokespecial ix) 3 pc1) (kk : ∀ (r : Option xa_T) (n : Nat) (tau : Nat → Nat × Nat) (vi vl : Nat → Int → Int) (vr : Nat → Int → Option Nat), post r n tau vi vl vr → xv G K nL Q (cells + mc) (slots + ms) n tau vi vl vr pc1 lv (r.toList ++ st)) : xv G K nL Q cells slots n tau vi vl vr pc lv stk := by
  have hC0 := hC
  obtain ⟨hdg, rfl⟩ := hd
  subst hstk
  refine xv_run (A := #[]) hC0 ?_ kk
  obtain ⟨p, l, e, R, s, m, args, below, meth, c⟩ := K
  obtain ⟨hx, hb, hml, hown, hts, hE, hB, hB0⟩ := hC
  obtain ⟨r1, r2, r3, r4⟩ := hRm
  simp only [xk_R] at r1 r2 r3 r4
  intro H locs ls hR hS hl
  have hw9 : ((st.map (xa_tr G)).map fun v => v.category).sum ≤ 8 := by
    rw [List.map_map, show ((fun v : Value => v.category) ∘ xa_tr G) = xa_c from funext fun v => xa_tr_c G v]
    exact hw8
  obtain ⟨y1, y2, y4, y3⟩ := hy
  rw [List.map_append, List.map_reverse]
  exact va_runI (As := a.map (xa_tr G)) (rest := st.map (xa_tr G)) (b := xg_ad G k) ⟨hx, hb, hml, hown, hts⟩ (hM l) (cwI np hts (xm_good y2) rfl rfl rfl (hts _ (y1 _ (by simp))) (hts _ (y1 _ (by simp))) (hts _ (y1 _ (by simp))) y4 y3 ⟨by show d + 1 ≤ R.frames; omega, by show 8 + (nL1 + 11) + 40 * d ≤ R.locals; omega⟩) ⟨xm_blind, fun U hU hW => ⟨rfl, by rw [hU]; exact hR, hE.warm hW⟩⟩ rfl (by rw [List.length_map]; exact hnp) hl.1 rfl (lv_room hw9) hdg ⟨by show cells + mc ≤ R.cells; omega, by show slots + ms ≤ R.slots; omega⟩
def xy_IN (own : String) (ix : Nat) (y : MethodName) (host : String) (cc1 : ByteArray) (nL1 : Nat) (np : Nat) : Prop := (∀ w ∈ ([.instanceMethod y, .initialized y.cls] : List Cond), w ∈ xw_tbl) ∧ (own, ix, y, host) ∈ xw_nest ∧ Cond.code y cc1 nL1 none ∈ xw_tbl ∧ y.name = "<init>" ∧ (y.cls ≠ "java/lang/invoke/MethodHandle" ∧ y.cls ≠ "java/lang/invoke/VarHandle" ∧ (parseMethodDescriptor y.desc).map (fun d => d.parameters.length) = some np)
theorem vx_callIN (hC : xk_C G K cc own nL) {d d1 mc ms mc1 ms1 nL1 : Nat} {y : MethodName} {cc1 : ByteArray} {a : List xa_T} {stk : List xa_T} {post : xm_T} {k ix np : Nat} {host : String} (hM : xm G y cc1 nL1 none d mc ms (xa_r k :: a) n tau vi vl vr post) (hy : xy_IN own ix y host cc1 nL1 np) (hnp : a.length = np) (hRm : xk_Rm K d1 mc1 ms1) (hcs : d + 1 ≤ d1 ∧ nL1 ≤ 21 ∧ cells + mc ≤ mc1 ∧ slots + ms ≤ ms1) (hw8 : (st.map xa_c).sum ≤ 8) (hstk : stk = a.reverse ++ xa_r k :: st) (hd : xd_D cc pc (.invokespecial ix) 3 pc1) (kk : ∀ (r : Option xa_T) (n : Nat) (tau : Nat → Nat × Nat) (vi vl : Nat → Int → Int) (vr : Nat → Int → Option Nat), post r n tau vi vl vr → xv G K nL Q (cells + mc) (slots + ms) n tau vi vl vr pc1 lv (r.toList ++ st)) : xv G K nL Q cells slots n tau vi vl vr pc lv stk := by
  have hC0 := hC
  obtain ⟨hdg, rfl⟩ := hd
  subst hstk
  refine xv_run (A := #[]) hC0 ?_ kk
  obtain ⟨p, l, e, R, s, m, args, below, meth, c⟩ := K
  obtain ⟨hx, hb, hml, hown, hts, hE, hB, hB0⟩ := hC
  obtain ⟨r1, r2, r3, r4⟩ := hRm
  simp only [xk_R] at r1 r2 r3 r4
  intro H locs ls hR hS hl
  have hw9 : ((st.map (xa_tr G)).map fun v => v.category).sum ≤ 8 := by
    rw [List.map_map, show ((fun v : Value => v.category) ∘ xa_tr G) = xa_c from funext fun v => xa_tr_c G v]
    exact hw8
  obtain ⟨y1, y5, y2, y4, y3⟩ := hy
  rw [List.map_append, List.map_reverse]
  exact va_runIN (As := a.map (xa_tr G)) (rest := st.map (xa_tr G)) (b := xg_ad G k) ⟨hx, hb, hml, hown, hts⟩ (hM l) ⟨va_cnB np hts (xm_good y2) rfl rfl rfl (hE.2.2.1 _ y5) (hts _ (y1 _ (by simp))) y3 ⟨by show d + 1 ≤ R.frames; omega, by show 8 + (nL1 + 11) + 40 * d ≤ R.locals; omega⟩, y4, hts _ (y1 _ (by simp))⟩ ⟨xm_blind, fun U hU hW => ⟨rfl, by rw [hU]; exact hR, hE.warm hW⟩⟩ rfl (by rw [List.length_map]; exact hnp) hl.1 rfl (lv_room hw9) hdg ⟨by show cells + mc ≤ R.cells; omega, by show slots + ms ≤ R.slots; omega⟩
theorem vx_objInit (hC : xk_C G K cc own nL) {ix k d1 mc1 ms1 : Nat} (hRm : xk_Rm K d1 mc1 ms1) (h1 : 1 ≤ d1) (hws : ∀ w ∈ ([.methodLink own ix objectInit, .instanceMethod objectInit, .code objectInit ⟨#[0xb1]⟩ 1 none] : List Cond), w ∈ xw_tbl) (hw8 : (st.map xa_c).sum ≤ 8) (hd : xd_D cc pc (.invokespecial ix) 3 pc1) (kk : xv G K nL Q cells slots n tau vi vl vr pc1 lv st) : xv G K nL Q cells slots n tau vi vl vr pc lv (xa_r k :: st) := by
  obtain ⟨p, l, e, R, s, m, args, below, meth, c⟩ := K
  obtain ⟨hx, hb, hml, hown, hts, hE, hB, hB0⟩ := hC
  obtain ⟨hd, rfl⟩ := hd
  intro H locs ls hR hS hl
  obtain ⟨r1, r2, r3, r4⟩ := hRm
  simp only [xk_R] at r1 r2 r3 r4
  have hw9 : ((st.map (xa_tr G)).map fun v => v.category).sum ≤ 8 := by
    rw [List.map_map, show ((fun v : Value => v.category) ∘ xa_tr G) = xa_c from funext fun v => xa_tr_c G v]
    exact hw8
  exact W.objInit hx hb hown (hts _ (hws _ (by simp))) (hts _ (hws _ (by simp))) (hts _ (hws _ (by simp))) rfl (by show ls.size = c.maxLocals; rw [hl.1]; exact hml.symm) rfl hd (by show 1 ≤ R.frames; omega) (by show 2 * 0 + _ + 12 ≤ R.locals; omega) (kk H locs ls hR hS hl)
theorem vx_iret (hC : xk_C G K cc own nL) {post : xm_T} {mc ms : Nat} {y : MethodName} {ty : FieldType} {x : Int} (hM : xk_M K y (some ty)) (hn : narrow ty (.int (Int32.ofInt x)) = .int (Int32.ofInt x)) (hd : xd_D cc pc .ireturn 1 pc1) (hp : post (some (xa_i x)) n tau vi vl vr) : xv G K nL (xk_Q G K post mc ms) mc ms n tau vi vl vr pc lv [xa_i x] := by
  obtain ⟨p, l, e, R, s, m, args, below, meth, c⟩ := K
  obtain ⟨hx, hb, hml, hown, hts, hE, hB, hB0⟩ := hC
  obtain ⟨hd, rfl⟩ := hd
  intro H locs ls hR hS hl
  exact W.zret hx hb hM.1 hn (fun t ht hW => ⟨⟨some (xa_i x), n, tau, vi, vl, vr, rfl, hp, by rw [ht]; exact hR⟩, by rw [ht]; exact hS.1⟩) hS.2.2 hd hM.2.1
theorem vx_lret (hC : xk_C G K cc own nL) {post : xm_T} {mc ms : Nat} {y : MethodName} {x : Int} (hM : xk_M K y (some .long)) (hd : xd_D cc pc .lreturn 1 pc1) (hp : post (some (xa_l x)) n tau vi vl vr) : xv G K nL (xk_Q G K post mc ms) mc ms n tau vi vl vr pc lv [xa_l x] := by
  obtain ⟨p, l, e, R, s, m, args, below, meth, c⟩ := K
  obtain ⟨hx, hb, hml, hown, hts, hE, hB, hB0⟩ := hC
  obtain ⟨hd, rfl⟩ := hd
  intro H locs ls hR hS hl
  exact W.lret hx hb hM.1 (fun t ht hW => ⟨⟨some (xa_l x), n, tau, vi, vl, vr, rfl, hp, by rw [ht]; exact hR⟩, by rw [ht]; exact hS.1⟩) hS.2.2 hd hM.2.1
theorem vx_vret (hC : xk_C G K cc own nL) {post : xm_T} {mc ms : Nat} {y : MethodName} (hM : xk_M K y none) (hd : xd_D cc pc .return_ 1 pc1) (hp : post none n tau vi vl vr) : xv G K nL (xk_Q G K post mc ms) mc ms n tau vi vl vr pc lv [] := by
  obtain ⟨p, l, e, R, s, m, args, below, meth, c⟩ := K
  obtain ⟨hx, hb, hml, hown, hts, hE, hB, hB0⟩ := hC
  obtain ⟨hd, rfl⟩ := hd
  intro H locs ls hR hS hl
  exact W.vret hx hb hM.1 (fun t ht hW => ⟨⟨none, n, tau, vi, vl, vr, rfl, hp, by rw [ht]; exact hR⟩, by rw [ht]; exact hS.1⟩) hS.2.2 hd hM.2.1
theorem vx_aret (hC : xk_C G K cc own nL) {post : xm_T} {mc ms : Nat} {y : MethodName} {rt : FieldType} {r : Option Nat} (hM : xk_M K y (some rt)) (hrt : (∃ n, rt = .object n) ∨ ∃ t, rt = .array t) (hd : xd_D cc pc .areturn 1 pc1) (hp : post (some (xa_q r)) n tau vi vl vr) : xv G K nL (xk_Q G K post mc ms) mc ms n tau vi vl vr pc lv [xa_q r] := by
  obtain ⟨p, l, e, R, s, m, args, below, meth, c⟩ := K
  obtain ⟨hx, hb, hml, hown, hts, hE, hB, hB0⟩ := hC
  obtain ⟨hd, rfl⟩ := hd
  intro H locs ls hR hS hl
  exact W.aret hx hb hM.1 hrt (by cases r with | none => exact Or.inl rfl | some k => exact Or.inr ⟨_, rfl⟩) (fun t ht hW => ⟨⟨some (xa_q r), n, tau, vi, vl, vr, rfl, hp, by rw [ht]; exact hR⟩, by rw [ht]; exact hS.1⟩) hS.2.2 hd hM.2.1
theorem vx_widen {k1 k2 : Nat} (h1 : cells ≤ k1) (h2 : slots ≤ k2) (kk : xv G K nL Q k1 k2 n tau vi vl vr pc lv st) : xv G K nL Q cells slots n tau vi vl vr pc lv st := fun H locs ls hR hS hl => W.widen h1 h2 (kk H locs ls hR hS hl)
end XV
end
section
/-- a new cell's place in a table of contents -/
def xz {α : Type} (f : Nat → α) (k : Nat) (x : α) : Nat → α := fun a => if a = k then x else f a
theorem xz_s {α : Type} (f : Nat → α) (k : Nat) (x : α) : xz f k x k = x := by simp [xz]
theorem xz_n {α : Type} (f : Nat → α) {k a : Nat} (x : α) (h : a ≠ k) : xz f k x a = f a := by simp [xz, h]
theorem xh_R.grow {G : xg_T} {n : Nat} {tau tau' : Nat → Nat × Nat} {vi vl vi' vl' : Nat → Int → Int} {vr vr' : Nat → Int → Option Nat} {H H1 : Heap} (h : xh_R G n tau vi vl vr H) (hn : n + 1 ≤ 1000000) (z : H1.size = H.size + 1) (oq : ∀ q : Nat, q < H.size → H1[q]? = H[q]?) (hat : va_at G.1 vwCl (xg_b G + n, xe_E G tau' vi' vl' vr' n) H1) (ho : ∀ j, j < n → xe_E G tau' vi' vl' vr' j = xe_E G tau vi vl vr j) : xh_R G (n + 1) tau' vi' vl' vr' H1 := by
  obtain ⟨h1, h2, h3, h4⟩ := h
  refine ⟨hn, by rw [z, h2]; omega, fun j q hj => ?_, fun q hq => by rw [oq q (by omega)]; exact h4 q hq⟩
  obtain ⟨hj, rfl⟩ := xe_get' hj
  by_cases e : j = n
  · subst e; exact hat
  · have hl : j < n := by omega
    rw [ho j hl]
    exact (h3 j _ (xe_get hl)).kept (oq _ (by show xg_b G + j < _; omega))
theorem xh_S.grow {G : xg_T} {H0 H H1 : Heap} {locs : List Loc} (h : va_S (xg_A G) H0 H locs) (z : H1.size = H.size + 1) (oq : ∀ q : Nat, q < H.size → H1[q]? = H[q]?) : va_S (xg_A G) H0 H1 locs := ⟨by rw [z]; exact Nat.le_succ_of_le h.1, fun q h1 h2 => by rw [oq q (Nat.lt_of_lt_of_le h1 h.1)]; exact h.2.1 q h1 h2, h.2.2⟩
theorem xe_old {G : xg_T} {tau tau' : Nat → Nat × Nat} {vi vl vi' vl' : Nat → Int → Int} {vr vr' : Nat → Int → Option Nat} {j : Nat} (h0 : tau' j = tau j) (h1 : vi' j = vi j) (h2 : vl' j = vl j) (h3 : vr' j = vr j) : xe_E G tau' vi' vl' vr' j = xe_E G tau vi vl vr j := by
  unfold xe_E
  simp only [h0, h1, h2, h3]
theorem xf_dv (G : xg_T) (ty : FieldType) (h : ty ≠ .float ∧ ty ≠ .double) : defaultValue ty = xf_v G (xf_k ty) 0 0 none := by
  cases ty <;> first | rfl | (exact absurd rfl h.1) | (exact absurd rfl h.2)
theorem xf_nf : ∀ ci, ci < 13 → ∀ j, j < xf_n ci → xf_ty ci j ≠ .float ∧ xf_ty ci j ≠ .double := by decide +kernel
theorem xn_ad {G : xg_T} {k : Nat} : xg_ad G (1000000 + k) = G.2.2.2 k := by
  unfold xg_ad
  rw [if_neg (by omega), show 1000000 + k - 1000000 = k by omega]
/-- the cells that nobody writes lie there still -/
theorem xk_kept {G : xg_T} {K : xk_T} {cc : ByteArray} {own : String} {nL : Nat} (hC : xk_C G K cc own nL) : ∀ a : Nat, a < G.2.2.1.size → ¬ xg_A G a → (xk_s K).heap[a]? = G.2.2.1[a]? := fun a ha _ => hC.2.2.2.2.2.2.2 a ha

section XV
variable {G : xg_T} {K : xk_T} {cc : ByteArray} {own : String} {nL : Nat} {Q : State → Prop} {cells slots n : Nat} {tau : Nat → Nat × Nat} {vi vl : Nat → Int → Int} {vr : Nat → Int → Option Nat} {pc pc1 : Nat} {lv : List (Nat × xa_T)} {st : List xa_T}
theorem vx_new (hC : xk_C G K cc own nL) {ix ci N d1 mc1 ms1 : Nat} {C : String} {T : u_T} (hc : vwCl[ci]? = some (C, T, N)) (hws : ∀ w ∈ ([.classLink own ix C, .instantiable C N, .initialized C] : List Cond), w ∈ xw_tbl) (hn : n + 1 ≤ 1000000) (hRm : xk_Rm K d1 mc1 ms1) (hcs : cells + 1 ≤ mc1 ∧ slots + N ≤ ms1) (hd : xd_D cc pc (.new ix) 3 pc1) (kk : xv G K nL Q (cells + 1) (slots + N) (n + 1) (xz tau n (ci, 0)) (xz vi n (fun _ => 0)) (xz vl n (fun _ => 0)) (xz vr n (fun _ => none)) pc1 lv (xa_r n :: st)) : xv G K nL Q cells slots n tau vi vl vr pc lv st := by
  obtain ⟨p, l, e, R, s, m, args, below, meth, c⟩ := K
  obtain ⟨hx, hb, hml, hown, hts, hE, hB, hB0⟩ := hC
  obtain ⟨hd, rfl⟩ := hd
  intro H locs ls hR hS hl
  obtain ⟨r1, r2, r3, r4⟩ := hRm
  simp only [xk_R] at r1 r2 r3 r4
  obtain ⟨c1, c2, c3, c4, c5⟩ := xc_all hc
  have hKn := hE.1.1 ci _ hc
  refine W.newcK hx hb hown (hts (.classLink own ix C) (hws _ (by simp))) (hts (.instantiable C N) (hws _ (by simp))) (hts (.initialized C) (hws _ (by simp))) rfl hd (by show cells + 1 ≤ R.cells; omega) (by show slots + N ≤ R.slots; omega) hKn.2.1 hR.2.1 fun H1 kC hkC e1 z1 o1 => ?_
  have hR1 : xh_R G (n + 1) (xz tau n (ci, 0)) (xz vi n (fun _ => 0)) (xz vl n (fun _ => 0)) (xz vr n (fun _ => none)) H1 := by
    refine hR.grow hn (by rw [z1, hR.2.1]) (by rw [hR.2.1]; exact o1) ?_ (fun j hj => xe_old (xz_n _ _ (by omega)) (xz_n _ _ (by omega)) (xz_n _ _ (by omega)) (xz_n _ _ (by omega)))
    rw [xe_obj (len := 0) (xz_s _ _ _) c1 c2]
    refine ⟨_, hc, (u_born (xf_ty ci) hts c3 hKn hkC e1 c4).to (fun j hj => ?_)⟩
    have hj : j < N := hj
    have hj2 : j < xf_n ci := by rw [c2]; exact hj
    simp [vp_V, hj, xz_s, xf_dv G _ (xf_nf ci c1 j hj2)]
  have k2 := kk H1 locs ls hR1 (xh_S.grow hS (by rw [z1, hR.2.1]) (by rw [hR.2.1]; exact o1)) hl
  have ea : xa_tr G (xa_r n) = .ref (xg_b G + n) := by
    show Value.ref (xg_ad G n) = _
    rw [hR1.ad (by omega)]
  rw [List.map_cons, ea] at k2
  exact k2
theorem vx_newarrI (hC : xk_C G K cc own nL) {z : Int} {len d1 mc1 ms1 : Nat} (hz : z = (len : Int)) (hlen : len ≤ 10000) (hw : Cond.arrayClass .int ∈ xw_tbl) (hn : n + 1 ≤ 1000000) (hRm : xk_Rm K d1 mc1 ms1) (hcs : cells + 1 ≤ mc1 ∧ slots + len ≤ ms1) (hd : xd_D cc pc (.newarray .int) 2 pc1) (kk : xv G K nL Q (cells + 1) (slots + len) (n + 1) (xz tau n (14, len)) (xz vi n (fun _ => 0)) (xz vl n (fun _ => 0)) (xz vr n (fun _ => none)) pc1 lv (xa_r n :: st)) : xv G K nL Q cells slots n tau vi vl vr pc lv (xa_i z :: st) := by
  obtain ⟨p, l, e, R, s, m, args, below, meth, c⟩ := K
  obtain ⟨hx, hb, hml, hown, hts, hE, hB, hB0⟩ := hC
  obtain ⟨hd, rfl⟩ := hd
  intro H locs ls hR hS hl
  subst hz
  obtain ⟨r1, r2, r3, r4⟩ := hRm
  simp only [xk_R] at r1 r2 r3 r4
  obtain ⟨i1, i2⟩ := xn_in (z := (len : Int)) (n := 10001) (by omega) (by omega) (by omega)
  have e0 : (Int32.ofInt (len : Int)).toNatClampNeg = len := by rw [i2]; omega
  refine va_newaK (atype := .int) hx hb (hts (.arrayClass .int) hw) rfl hd rfl (fun h => i1 (Or.inl h)) e0 (by show len * _ ≤ _; simp only [newarray.typeOf, componentBytes]; omega) (by show cells + 1 ≤ R.cells; omega) (by show slots + len ≤ R.slots; omega) hR.2.1 fun H1 cA e1 z1 o1 hAr hNm => ?_
  have hcA : cA = G.2.1 14 := Option.some.inj (hNm.symm.trans (hE.1.2 1 _ rfl).2)
  subst hcA
  have hR1 : xh_R G (n + 1) (xz tau n (14, len)) (xz vi n (fun _ => 0)) (xz vl n (fun _ => 0)) (xz vr n (fun _ => none)) H1 := by
    refine hR.grow hn (by rw [z1, hR.2.1]) (by rw [hR.2.1]; exact o1) ?_ (fun j hj => xe_old (xz_n _ _ (by omega)) (xz_n _ _ (by omega)) (xz_n _ _ (by omega)) (xz_n _ _ (by omega)))
    rw [xe_int (xz_s _ _ _) (by decide)]
    show H1[_]? = some (vp_cell _ _)
    dsimp only
    rw [e1, vp_cell_i]
    simp only [xz_s]
    rfl
  have k2 := kk H1 locs ls hR1 (xh_S.grow hS (by rw [z1, hR.2.1]) (by rw [hR.2.1]; exact o1)) hl
  have ea : xa_tr G (xa_r n) = .ref (xg_b G + n) := by
    show Value.ref (xg_ad G n) = _
    rw [hR1.ad (by omega)]
  rw [List.map_cons, ea] at k2
  exact k2
theorem vx_newarrJ (hC : xk_C G K cc own nL) {z : Int} {len d1 mc1 ms1 : Nat} (hz : z = (len : Int)) (hlen : len ≤ 10000) (hw : Cond.arrayClass .long ∈ xw_tbl) (hn : n + 1 ≤ 1000000) (hRm : xk_Rm K d1 mc1 ms1) (hcs : cells + 1 ≤ mc1 ∧ slots + len ≤ ms1) (hd : xd_D cc pc (.newarray .long) 2 pc1) (kk : xv G K nL Q (cells + 1) (slots + len) (n + 1) (xz tau n (15, len)) (xz vi n (fun _ => 0)) (xz vl n (fun _ => 0)) (xz vr n (fun _ => none)) pc1 lv (xa_r n :: st)) : xv G K nL Q cells slots n tau vi vl vr pc lv (xa_i z :: st) := by
  obtain ⟨p, l, e, R, s, m, args, below, meth, c⟩ := K
  obtain ⟨hx, hb, hml, hown, hts, hE, hB, hB0⟩ := hC
  obtain ⟨hd, rfl⟩ := hd
  intro H locs ls hR hS hl
  subst hz
  obtain ⟨r1, r2, r3, r4⟩ := hRm
  simp only [xk_R] at r1 r2 r3 r4
  obtain ⟨i1, i2⟩ := xn_in (z := (len : Int)) (n := 10001) (by omega) (by omega) (by omega)
  have e0 : (Int32.ofInt (len : Int)).toNatClampNeg = len := by rw [i2]; omega
  refine va_newaK (atype := .long) hx hb (hts (.arrayClass .long) hw) rfl hd rfl (fun h => i1 (Or.inl h)) e0 (by show len * _ ≤ _; simp only [newarray.typeOf, componentBytes]; omega) (by show cells + 1 ≤ R.cells; omega) (by show slots + len ≤ R.slots; omega) hR.2.1 fun H1 cA e1 z1 o1 hAr hNm => ?_
  have hcA : cA = G.2.1 15 := Option.some.inj (hNm.symm.trans (hE.1.2 2 _ rfl).2)
  subst hcA
  have hR1 : xh_R G (n + 1) (xz tau n (15, len)) (xz vi n (fun _ => 0)) (xz vl n (fun _ => 0)) (xz vr n (fun _ => none)) H1 := by
    refine hR.grow hn (by rw [z1, hR.2.1]) (by rw [hR.2.1]; exact o1) ?_ (fun j hj => xe_old (xz_n _ _ (by omega)) (xz_n _ _ (by omega)) (xz_n _ _ (by omega)) (xz_n _ _ (by omega)))
    rw [xe_long (xz_s _ _ _)]
    show H1[_]? = some (vp_cell _ _)
    dsimp only
    rw [e1, vp_cell_l]
    simp only [xz_s]
    rfl
  have k2 := kk H1 locs ls hR1 (xh_S.grow hS (by rw [z1, hR.2.1]) (by rw [hR.2.1]; exact o1)) hl
  have ea : xa_tr G (xa_r n) = .ref (xg_b G + n) := by
    show Value.ref (xg_ad G n) = _
    rw [hR1.ad (by omega)]
  rw [List.map_cons, ea] at k2
  exact k2
theorem vx_newarrB (hC : xk_C G K cc own nL) {z : Int} {len d1 mc1 ms1 : Nat} (hz : z = (len : Int)) (hlen : len ≤ 10000) (hw : Cond.arrayClass .byte ∈ xw_tbl) (hn : n + 1 ≤ 1000000) (hRm : xk_Rm K d1 mc1 ms1) (hcs : cells + 1 ≤ mc1 ∧ slots + len ≤ ms1) (hd : xd_D cc pc (.newarray .byte) 2 pc1) (kk : xv G K nL Q (cells + 1) (slots + len) (n + 1) (xz tau n (13, len)) (xz vi n (fun _ => 0)) (xz vl n (fun _ => 0)) (xz vr n (fun _ => none)) pc1 lv (xa_r n :: st)) : xv G K nL Q cells slots n tau vi vl vr pc lv (xa_i z :: st) := by
  obtain ⟨p, l, e, R, s, m, args, below, meth, c⟩ := K
  obtain ⟨hx, hb, hml, hown, hts, hE, hB, hB0⟩ := hC
  obtain ⟨hd, rfl⟩ := hd
  intro H locs ls hR hS hl
  subst hz
  obtain ⟨r1, r2, r3, r4⟩ := hRm
  simp only [xk_R] at r1 r2 r3 r4
  obtain ⟨i1, i2⟩ := xn_in (z := (len : Int)) (n := 10001) (by omega) (by omega) (by omega)
  have e0 : (Int32.ofInt (len : Int)).toNatClampNeg = len := by rw [i2]; omega
  refine va_newaK (atype := .byte) hx hb (hts (.arrayClass .byte) hw) rfl hd rfl (fun h => i1 (Or.inl h)) e0 (by show len * _ ≤ _; simp only [newarray.typeOf, componentBytes]; omega) (by show cells + 1 ≤ R.cells; omega) (by show slots + len ≤ R.slots; omega) hR.2.1 fun H1 cA e1 z1 o1 hAr hNm => ?_
  have hcA : cA = G.2.1 13 := Option.some.inj (hNm.symm.trans (hE.1.2 0 _ rfl).2)
  subst hcA
  have hR1 : xh_R G (n + 1) (xz tau n (13, len)) (xz vi n (fun _ => 0)) (xz vl n (fun _ => 0)) (xz vr n (fun _ => none)) H1 := by
    refine hR.grow hn (by rw [z1, hR.2.1]) (by rw [hR.2.1]; exact o1) ?_ (fun j hj => xe_old (xz_n _ _ (by omega)) (xz_n _ _ (by omega)) (xz_n _ _ (by omega)) (xz_n _ _ (by omega)))
    rw [xe_int (xz_s _ _ _) (by decide)]
    show H1[_]? = some (vp_cell _ _)
    dsimp only
    rw [e1, vp_cell_i]
    simp only [xz_s]
    rfl
  have k2 := kk H1 locs ls hR1 (xh_S.grow hS (by rw [z1, hR.2.1]) (by rw [hR.2.1]; exact o1)) hl
  have ea : xa_tr G (xa_r n) = .ref (xg_b G + n) := by
    show Value.ref (xg_ad G n) = _
    rw [hR1.ad (by omega)]
  rw [List.map_cons, ea] at k2
  exact k2
theorem vx_newarrZ (hC : xk_C G K cc own nL) {z : Int} {len d1 mc1 ms1 : Nat} (hz : z = (len : Int)) (hlen : len ≤ 10000) (hw : Cond.arrayClass .boolean ∈ xw_tbl) (hn : n + 1 ≤ 1000000) (hRm : xk_Rm K d1 mc1 ms1) (hcs : cells + 1 ≤ mc1 ∧ slots + len ≤ ms1) (hd : xd_D cc pc (.newarray .boolean) 2 pc1) (kk : xv G K nL Q (cells + 1) (slots + len) (n + 1) (xz tau n (16, len)) (xz vi n (fun _ => 0)) (xz vl n (fun _ => 0)) (xz vr n (fun _ => none)) pc1 lv (xa_r n :: st)) : xv G K nL Q cells slots n tau vi vl vr pc lv (xa_i z :: st) := by
  obtain ⟨p, l, e, R, s, m, args, below, meth, c⟩ := K
  obtain ⟨hx, hb, hml, hown, hts, hE, hB, hB0⟩ := hC
  obtain ⟨hd, rfl⟩ := hd
  intro H locs ls hR hS hl
  subst hz
  obtain ⟨r1, r2, r3, r4⟩ := hRm
  simp only [xk_R] at r1 r2 r3 r4
  obtain ⟨i1, i2⟩ := xn_in (z := (len : Int)) (n := 10001) (by omega) (by omega) (by omega)
  have e0 : (Int32.ofInt (len : Int)).toNatClampNeg = len := by rw [i2]; omega
  refine va_newaK (atype := .boolean) hx hb (hts (.arrayClass .boolean) hw) rfl hd rfl (fun h => i1 (Or.inl h)) e0 (by show len * _ ≤ _; simp only [newarray.typeOf, componentBytes]; omega) (by show cells + 1 ≤ R.cells; omega) (by show slots + len ≤ R.slots; omega) hR.2.1 fun H1 cA e1 z1 o1 hAr hNm => ?_
  have hcA : cA = G.2.1 16 := Option.some.inj (hNm.symm.trans (hE.1.2 3 _ rfl).2)
  subst hcA
  have hR1 : xh_R G (n + 1) (xz tau n (16, len)) (xz vi n (fun _ => 0)) (xz vl n (fun _ => 0)) (xz vr n (fun _ => none)) H1 := by
    refine hR.grow hn (by rw [z1, hR.2.1]) (by rw [hR.2.1]; exact o1) ?_ (fun j hj => xe_old (xz_n _ _ (by omega)) (xz_n _ _ (by omega)) (xz_n _ _ (by omega)) (xz_n _ _ (by omega)))
    rw [xe_int (xz_s _ _ _) (by decide)]
    show H1[_]? = some (vp_cell _ _)
    dsimp only
    rw [e1, vp_cell_i]
    simp only [xz_s]
    rfl
  have k2 := kk H1 locs ls hR1 (xh_S.grow hS (by rw [z1, hR.2.1]) (by rw [hR.2.1]; exact o1)) hl
  have ea : xa_tr G (xa_r n) = .ref (xg_b G + n) := by
    show Value.ref (xg_ad G n) = _
    rw [hR1.ad (by omega)]
  rw [List.map_cons, ea] at k2
  exact k2
theorem vx_newarrP (hC : xk_C G K cc own nL) {z : Int} {ix len d1 mc1 ms1 : Nat} (hz : z = (len : Int)) (hlen : len ≤ 10000) (hw : Cond.classLink own ix RX4 ∈ xw_tbl) (hn : n + 1 ≤ 1000000) (hRm : xk_Rm K d1 mc1 ms1) (hcs : cells + 1 ≤ mc1 ∧ slots + len ≤ ms1) (hd : xd_D cc pc (.anewarray ix) 3 pc1) (kk : xv G K nL Q (cells + 1) (slots + len) (n + 1) (xz tau n (17, len)) (xz vi n (fun _ => 0)) (xz vl n (fun _ => 0)) (xz vr n (fun _ => none)) pc1 lv (xa_r n :: st)) : xv G K nL Q cells slots n tau vi vl vr pc lv (xa_i z :: st) := by
  obtain ⟨p, l, e, R, s, m, args, below, meth, c⟩ := K
  obtain ⟨hx, hb, hml, hown, hts, hE, hB, hB0⟩ := hC
  obtain ⟨hd, rfl⟩ := hd
  intro H locs ls hR hS hl
  subst hz
  obtain ⟨r1, r2, r3, r4⟩ := hRm
  simp only [xk_R] at r1 r2 r3 r4
  obtain ⟨i1, i2⟩ := xn_in (z := (len : Int)) (n := 10001) (by omega) (by omega) (by omega)
  have e0 : (Int32.ofInt (len : Int)).toNatClampNeg = len := by rw [i2]; omega
  refine W.anew hx hb hown (hts _ hw) (va_AO.use hE.2.2.2.2.1.1) rfl hd rfl (fun h => i1 (Or.inl h)) (by rw [e0]; omega) (by show cells + 1 ≤ R.cells; omega) (by rw [e0]; show slots + len ≤ R.slots; omega) fun cA kA comp f1 f2 f3 f4 => ?_
  have hcA : cA = G.2.1 17 := by
    obtain ⟨_, _, _, _, _, h4⟩ := (hE.1.2 4 _ rfl).2
    exact Option.some.inj (f1.symm.trans h4)
  subst hcA
  rw [e0]
  generalize hH1 : H.push ({ cls := G.2.1 17, slots := Array.replicate len .null, vm := .none } : Cell) = H1
  have z1 : H1.size = H.size + 1 := by rw [← hH1, Array.size_push]
  have e1 : H1[H.size]? = some (arrV (G.2.1 17) len (fun _ => .null)) := by rw [← hH1, Array.getElem?_push_size, ← arrV_new]
  have o1 : ∀ q : Nat, q < H.size → H1[q]? = H[q]? := fun q hq => by rw [← hH1, Array.getElem?_push, if_neg (Nat.ne_of_lt hq)]
  have hR1 : xh_R G (n + 1) (xz tau n (17, len)) (xz vi n (fun _ => 0)) (xz vl n (fun _ => 0)) (xz vr n (fun _ => none)) H1 := by
    refine hR.grow hn z1 o1 ?_ (fun j hj => xe_old (xz_n _ _ (by omega)) (xz_n _ _ (by omega)) (xz_n _ _ (by omega)) (xz_n _ _ (by omega)))
    rw [xe_ref (xz_s _ _ _) (by decide)]
    show H1[_]? = some (vp_cell _ _)
    dsimp only
    rw [← hR.2.1, e1, vp_cell_q]
    simp only [xz_s]
    rfl
  have k2 := kk H1 locs ls hR1 (xh_S.grow hS z1 o1) hl
  have ea : xa_tr G (xa_r n) = .ref H.size := by
    show Value.ref (xg_ad G n) = _
    rw [hR1.ad (by omega), hR.2.1]
  rw [List.map_cons, ea] at k2
  exact k2
theorem vx_newarrT (hC : xk_C G K cc own nL) {z : Int} {ix len d1 mc1 ms1 : Nat} (hz : z = (len : Int)) (hlen : len ≤ 10000) (hw : Cond.classLink own ix RX8 ∈ xw_tbl) (hn : n + 1 ≤ 1000000) (hRm : xk_Rm K d1 mc1 ms1) (hcs : cells + 1 ≤ mc1 ∧ slots + len ≤ ms1) (hd : xd_D cc pc (.anewarray ix) 3 pc1) (kk : xv G K nL Q (cells + 1) (slots + len) (n + 1) (xz tau n (18, len)) (xz vi n (fun _ => 0)) (xz vl n (fun _ => 0)) (xz vr n (fun _ => none)) pc1 lv (xa_r n :: st)) : xv G K nL Q cells slots n tau vi vl vr pc lv (xa_i z :: st) := by
  obtain ⟨p, l, e, R, s, m, args, below, meth, c⟩ := K
  obtain ⟨hx, hb, hml, hown, hts, hE, hB, hB0⟩ := hC
  obtain ⟨hd, rfl⟩ := hd
  intro H locs ls hR hS hl
  subst hz
  obtain ⟨r1, r2, r3, r4⟩ := hRm
  simp only [xk_R] at r1 r2 r3 r4
  obtain ⟨i1, i2⟩ := xn_in (z := (len : Int)) (n := 10001) (by omega) (by omega) (by omega)
  have e0 : (Int32.ofInt (len : Int)).toNatClampNeg = len := by rw [i2]; omega
  refine W.anew hx hb hown (hts _ hw) (va_AO.use hE.2.2.2.2.1.2) rfl hd rfl (fun h => i1 (Or.inl h)) (by rw [e0]; omega) (by show cells + 1 ≤ R.cells; omega) (by rw [e0]; show slots + len ≤ R.slots; omega) fun cA kA comp f1 f2 f3 f4 => ?_
  have hcA : cA = G.2.1 18 := by
    obtain ⟨_, _, _, _, _, h4⟩ := (hE.1.2 5 _ rfl).2
    exact Option.some.inj (f1.symm.trans h4)
  subst hcA
  rw [e0]
  generalize hH1 : H.push ({ cls := G.2.1 18, slots := Array.replicate len .null, vm := .none } : Cell) = H1
  have z1 : H1.size = H.size + 1 := by rw [← hH1, Array.size_push]
  have e1 : H1[H.size]? = some (arrV (G.2.1 18) len (fun _ => .null)) := by rw [← hH1, Array.getElem?_push_size, ← arrV_new]
  have o1 : ∀ q : Nat, q < H.size → H1[q]? = H[q]? := fun q hq => by rw [← hH1, Array.getElem?_push, if_neg (Nat.ne_of_lt hq)]
  have hR1 : xh_R G (n + 1) (xz tau n (18, len)) (xz vi n (fun _ => 0)) (xz vl n (fun _ => 0)) (xz vr n (fun _ => none)) H1 := by
    refine hR.grow hn z1 o1 ?_ (fun j hj => xe_old (xz_n _ _ (by omega)) (xz_n _ _ (by omega)) (xz_n _ _ (by omega)) (xz_n _ _ (by omega)))
    rw [xe_ref (xz_s _ _ _) (by decide)]
    show H1[_]? = some (vp_cell _ _)
    dsimp only
    rw [← hR.2.1, e1, vp_cell_q]
    simp only [xz_s]
    rfl
  have k2 := kk H1 locs ls hR1 (xh_S.grow hS z1 o1) hl
  have ea : xa_tr G (xa_r n) = .ref H.size := by
    show Value.ref (xg_ad G n) = _
    rw [hR1.ad (by omega), hR.2.1]
  rw [List.map_cons, ea] at k2
  exact k2
theorem xk_asg (hC : xk_C G K cc own nL) {ci N : Nat} {C D : String} {T : u_T} {comp : ClassId} (hc : vwCl[ci]? = some (C, T, N)) (hD : C = D ∨ (C, D) ∈ xw_cast) (hf : (xk_s K).vm.findClass D = some comp) : (xk_s K).vm.assignable (G.1.1 ci) comp = true := by
  obtain ⟨-, -, -, -, -, hE, -⟩ := hC
  have hk := (hE.1.1 ci _ hc).2
  rcases hD with rfl | hD
  · have e : comp = G.1.1 ci := Option.some.inj (hf.symm.trans hk.1)
    rw [e]
    exact va_assign hk
  · obtain ⟨c0, t0, f1, f2, f3⟩ := Cond.castable_spec (va_Nw.use (A := #[]) rfl (hE.2.1 _ hD))
    have e1 : c0 = G.1.1 ci := Option.some.inj (f1.symm.trans hk.1)
    have e2 : t0 = comp := Option.some.inj (f2.symm.trans hf)
    rw [← e1, ← e2]
    exact f3
theorem vx_aastore17 (hC : xk_C G K cc own nL) {k len : Nat} {z : Int} {r : Option Nat} (ht : k < n ∧ tau k = (17, len)) (hz : 0 ≤ z ∧ z < len) (hln : len < 2147483648) (hr : ∀ q, r = some q → q < n ∧ ∃ ci ln C T N, tau q = (ci, ln) ∧ vwCl[ci]? = some (C, T, N) ∧ (C = RX4 ∨ (C, RX4) ∈ xw_cast)) (hd : xd_D cc pc .aastore 1 pc1) (kk : xv G K nL Q cells slots n tau vi vl (xu vr k z r) pc1 lv st) : xv G K nL Q cells slots n tau vi vl vr pc lv (xa_q r :: xa_i z :: xa_r k :: st) := by
  have hasg := fun (ci N : Nat) (C : String) (T : u_T) (comp : ClassId) h1 h2 h3 => xk_asg (ci := ci) (N := N) (C := C) (D := RX4) (T := T) (comp := comp) hC h1 h2 h3
  obtain ⟨p, l, e, R, s, m, args, below, meth, c⟩ := K
  obtain ⟨hx, hb, hml, hown, hts, hE, hB, hB0⟩ := hC
  obtain ⟨hd, rfl⟩ := hd
  intro H locs ls hR hS hl
  obtain ⟨i1, i2⟩ := xn_in hz.1 hz.2 hln
  have hP := hR.2.2.1 k _ (xe_get ht.1)
  rw [xe_ref ht.2 (by decide)] at hP
  have hin : ¬ Int32.ofInt z < 0 ∧ (Int32.ofInt z).toNatClampNeg < len := ⟨fun h => i1 (Or.inl h), Nat.not_le.mp fun h => i1 (Or.inr h)⟩
  have fin : ∀ H1 : Heap, H1[xg_b G + k]? = some ((vp_cell (G.2.1 17) (len, .inr (.inr (.inr (.inr fun j => (vr k j).map (xg_ad G)))))).setSlot (Int32.ofInt z).toNatClampNeg (va_rf (r.map (xg_ad G)))) → H1.size = H.size → (∀ q : Nat, q ≠ xg_b G + k → H1[q]? = H[q]?) → W p l e R s m args below meth c H1 (locs ++ [⟨xg_b G + k, (Int32.ofInt z).toNatClampNeg⟩]) cells slots Q (F0 m (pc + 1) ls (st.map (xa_tr G))) := by
    intro H1 e1 z1 oq
    refine kk H1 _ ls (hR.put z1 oq ?_ (fun a ha => xe_same (fun b => rfl) (fun b => rfl) (fun b => xu_n _ _ _ _ (fun q => ha q.1)))) (xh_S.put hS z1 oq) hl
    rw [xe_ref ht.2 (by decide)]
    show H1[_]? = some (vp_cell _ _)
    dsimp only
    rw [e1, i2, vp_cell_q, vp_cell_q, arrV_store]
    congr 2
    funext j
    by_cases hj : j = z.toNat
    · subst hj
      have ez : ((z.toNat : Nat) : Int) = z := by omega
      simp [updV, ez, xu_s]
    · have ez : ¬ (j : Int) = z := by omega
      simp [updV, hj, xu, ez]
  cases r with
  | none =>
    show W p l e R s m args below meth c H locs cells slots Q (F0 m pc ls (.null :: .int (Int32.ofInt z) :: .ref (xg_ad G k) :: st.map (xa_tr G)))
    rw [hR.ad ht.1]
    exact va_WaastN (C := RX4) hx hb hP ((hE.1.2 4 _ rfl).1 len _) (fun h => by cases h) (by show ¬ (_ ∨ (arrV _ _ _).slots.size ≤ _); rw [arrV_size]; exact i1) rfl rfl hd fin
  | some q =>
    obtain ⟨hq, ci, ln, C, T, N, hq2, hc, hcD⟩ := hr q rfl
    obtain ⟨c1, c2, -⟩ := xc_all hc
    show W p l e R s m args below meth c H locs cells slots Q (F0 m pc ls (.ref (xg_ad G q) :: .int (Int32.ofInt z) :: .ref (xg_ad G k) :: st.map (xa_tr G)))
    have hPq := hR.2.2.1 q _ (xe_get hq)
    rw [xe_obj hq2 c1 c2] at hPq
    obtain ⟨r', hr', cellV, g1, g2, g3, -⟩ := hPq
    obtain ⟨kA, comp, k1, k2, k3, -⟩ := (hE.1.2 4 _ rfl).2
    obtain ⟨kB, hkB, -⟩ := Vm.findClass_spec k3
    obtain ⟨-, kC, hkC, -⟩ := (hE.1.1 ci _ hc).2
    rw [hR.ad ht.1]
    refine W.aast (cv := cellV) hx hb hP (fun q h => by cases h) (fun h => by cases h) k1 k2 rfl hkB ⟨hin.1, by show _ < (arrV _ _ _).slots.size; rw [arrV_size]; exact hin.2⟩ (by rw [hR.ad hq]; exact g1) (fun q h => by rw [g3] at h; cases h) (by rw [g2]; exact hkC) (by rw [g2]; exact hasg ci N C T comp hc hcD k3) rfl rfl hd fin
theorem vx_aastore18 (hC : xk_C G K cc own nL) {k len : Nat} {z : Int} {r : Option Nat} (ht : k < n ∧ tau k = (18, len)) (hz : 0 ≤ z ∧ z < len) (hln : len < 2147483648) (hr : ∀ q, r = some q → q < n ∧ ∃ ci ln C T N, tau q = (ci, ln) ∧ vwCl[ci]? = some (C, T, N) ∧ (C = RX8 ∨ (C, RX8) ∈ xw_cast)) (hd : xd_D cc pc .aastore 1 pc1) (kk : xv G K nL Q cells slots n tau vi vl (xu vr k z r) pc1 lv st) : xv G K nL Q cells slots n tau vi vl vr pc lv (xa_q r :: xa_i z :: xa_r k :: st) := by
  have hasg := fun (ci N : Nat) (C : String) (T : u_T) (comp : ClassId) h1 h2 h3 => xk_asg (ci := ci) (N := N) (C := C) (D := RX8) (T := T) (comp := comp) hC h1 h2 h3
  obtain ⟨p, l, e, R, s, m, args, below, meth, c⟩ := K
  obtain ⟨hx, hb, hml, hown, hts, hE, hB, hB0⟩ := hC
  obtain ⟨hd, rfl⟩ := hd
  intro H locs ls hR hS hl
  obtain ⟨i1, i2⟩ := xn_in hz.1 hz.2 hln
  have hP := hR.2.2.1 k _ (xe_get ht.1)
  rw [xe_ref ht.2 (by decide)] at hP
  have hin : ¬ Int32.ofInt z < 0 ∧ (Int32.ofInt z).toNatClampNeg < len := ⟨fun h => i1 (Or.inl h), Nat.not_le.mp fun h => i1 (Or.inr h)⟩
  have fin : ∀ H1 : Heap, H1[xg_b G + k]? = some ((vp_cell (G.2.1 18) (len, .inr (.inr (.inr (.inr fun j => (vr k j).map (xg_ad G)))))).setSlot (Int32.ofInt z).toNatClampNeg (va_rf (r.map (xg_ad G)))) → H1.size = H.size → (∀ q : Nat, q ≠ xg_b G + k → H1[q]? = H[q]?) → W p l e R s m args below meth c H1 (locs ++ [⟨xg_b G + k, (Int32.ofInt z).toNatClampNeg⟩]) cells slots Q (F0 m (pc + 1) ls (st.map (xa_tr G))) := by
    intro H1 e1 z1 oq
    refine kk H1 _ ls (hR.put z1 oq ?_ (fun a ha => xe_same (fun b => rfl) (fun b => rfl) (fun b => xu_n _ _ _ _ (fun q => ha q.1)))) (xh_S.put hS z1 oq) hl
    rw [xe_ref ht.2 (by decide)]
    show H1[_]? = some (vp_cell _ _)
    dsimp only
    rw [e1, i2, vp_cell_q, vp_cell_q, arrV_store]
    congr 2
    funext j
    by_cases hj : j = z.toNat
    · subst hj
      have ez : ((z.toNat : Nat) : Int) = z := by omega
      simp [updV, ez, xu_s]
    · have ez : ¬ (j : Int) = z := by omega
      simp [updV, hj, xu, ez]
  cases r with
  | none =>
    show W p l e R s m args below meth c H locs cells slots Q (F0 m pc ls (.null :: .int (Int32.ofInt z) :: .ref (xg_ad G k) :: st.map (xa_tr G)))
    rw [hR.ad ht.1]
    exact va_WaastN (C := RX8) hx hb hP ((hE.1.2 5 _ rfl).1 len _) (fun h => by cases h) (by show ¬ (_ ∨ (arrV _ _ _).slots.size ≤ _); rw [arrV_size]; exact i1) rfl rfl hd fin
  | some q =>
    obtain ⟨hq, ci, ln, C, T, N, hq2, hc, hcD⟩ := hr q rfl
    obtain ⟨c1, c2, -⟩ := xc_all hc
    show W p l e R s m args below meth c H locs cells slots Q (F0 m pc ls (.ref (xg_ad G q) :: .int (Int32.ofInt z) :: .ref (xg_ad G k) :: st.map (xa_tr G)))
    have hPq := hR.2.2.1 q _ (xe_get hq)
    rw [xe_obj hq2 c1 c2] at hPq
    obtain ⟨r', hr', cellV, g1, g2, g3, -⟩ := hPq
    obtain ⟨kA, comp, k1, k2, k3, -⟩ := (hE.1.2 5 _ rfl).2
    obtain ⟨kB, hkB, -⟩ := Vm.findClass_spec k3
    obtain ⟨-, kC, hkC, -⟩ := (hE.1.1 ci _ hc).2
    rw [hR.ad ht.1]
    refine W.aast (cv := cellV) hx hb hP (fun q h => by cases h) (fun h => by cases h) k1 k2 rfl hkB ⟨hin.1, by show _ < (arrV _ _ _).slots.size; rw [arrV_size]; exact hin.2⟩ (by rw [hR.ad hq]; exact g1) (fun q h => by rw [g3] at h; cases h) (by rw [g2]; exact hkC) (by rw [g2]; exact hasg ci N C T comp hc hcD k3) rfl rfl hd fin
theorem vx_instY (hC : xk_C G K cc own nL) {k ci len ix N : Nat} {C D : String} {T : u_T} (ht : k < n ∧ tau k = (ci, len)) (hc : vwCl[ci]? = some (C, T, N)) (hD : C = D ∨ (C, D) ∈ xw_cast) (hw : Cond.classLink own ix D ∈ xw_tbl) (hd : xd_D cc pc (.instanceof ix) 3 pc1) (kk : xv G K nL Q cells slots n tau vi vl vr pc1 lv (xa_i 1 :: st)) : xv G K nL Q cells slots n tau vi vl vr pc lv (xa_r k :: st) := by
  obtain ⟨p, l, e, R, s, m, args, below, meth, c⟩ := K
  obtain ⟨hx, hb, hml, hown, hts, hE, hB, hB0⟩ := hC
  obtain ⟨hd, rfl⟩ := hd
  intro H locs ls hR hS hl
  obtain ⟨c1, c2, -⟩ := xc_all hc
  have hrecv : ∃ cell : Cell, H[xg_ad G k]? = some cell ∧ cell.vm.isStatics = false ∧ s.vm.findClass C = some cell.cls := by
    rw [hR.ad ht.1]
    exact va_recv hE.1 hR.2.2.1 hc (q0 := k) (by rw [xe_get ht.1, xe_obj ht.2 c1 c2])
  rcases hD with rfl | hD
  · exact va_instS hx hb hown (hts _ hw) (hE.1.1 ci _ hc).2 hrecv hd (kk H locs ls hR hS hl)
  · exact va_instY hx hb hown (hts _ hw) (hE.2.1 _ hD) hrecv hd (kk H locs ls hR hS hl)
theorem vx_instNo (hC : xk_C G K cc own nL) {k ci len ix N : Nat} {C D : String} {T : u_T} (ht : k < n ∧ tau k = (ci, len)) (hc : vwCl[ci]? = some (C, T, N)) (hD : (C, D) ∈ xw_nc) (hw : Cond.classLink own ix D ∈ xw_tbl) (hd : xd_D cc pc (.instanceof ix) 3 pc1) (kk : xv G K nL Q cells slots n tau vi vl vr pc1 lv (xa_i 0 :: st)) : xv G K nL Q cells slots n tau vi vl vr pc lv (xa_r k :: st) := by
  obtain ⟨p, l, e, R, s, m, args, below, meth, c⟩ := K
  obtain ⟨hx, hb, hml, hown, hts, hE, hB, hB0⟩ := hC
  obtain ⟨hd, rfl⟩ := hd
  intro H locs ls hR hS hl
  obtain ⟨c1, c2, -⟩ := xc_all hc
  have hrecv : ∃ cell : Cell, H[xg_ad G k]? = some cell ∧ cell.vm.isStatics = false ∧ s.vm.findClass C = some cell.cls := by
    rw [hR.ad ht.1]
    exact va_recv hE.1 hR.2.2.1 hc (q0 := k) (by rw [xe_get ht.1, xe_obj ht.2 c1 c2])
  exact va_instNo hx hb hown (hts _ hw) (hE.2.2.2.1 _ hD) hrecv hd (kk H locs ls hR hS hl)
theorem vx_givers (hC : xk_C G K cc own nL) {ix : Nat} (hw : Cond.fieldLink own ix "LastPenny$Chances" "GIVERS" "[I" ∈ xw_tbl) (hd : xd_D cc pc (.getstatic ix) 3 pc1) (kk : xv G K nL Q cells slots n tau vi vl vr pc1 lv (xa_r 1000000 :: st)) : xv G K nL Q cells slots n tau vi vl vr pc lv st := by
  have hkp := xk_kept hC
  obtain ⟨p, l, e, R, s, m, args, below, meth, c⟩ := K
  obtain ⟨hx, hb, hml, hown, hts, hE, hB, hB0⟩ := hC
  obtain ⟨hd, rfl⟩ := hd
  intro H locs ls hR hS hl
  exact va_gets hx hb (hE.2.2.2.2.2.2.1.1.kept hkp) hS hown (hts _ hw) (fun _ h => h) hd (kk H locs ls hR hS hl)
theorem vx_takers (hC : xk_C G K cc own nL) {ix : Nat} (hw : Cond.fieldLink own ix "LastPenny$Chances" "TAKERS" "[I" ∈ xw_tbl) (hd : xd_D cc pc (.getstatic ix) 3 pc1) (kk : xv G K nL Q cells slots n tau vi vl vr pc1 lv (xa_r 1000001 :: st)) : xv G K nL Q cells slots n tau vi vl vr pc lv st := by
  have hkp := xk_kept hC
  obtain ⟨p, l, e, R, s, m, args, below, meth, c⟩ := K
  obtain ⟨hx, hb, hml, hown, hts, hE, hB, hB0⟩ := hC
  obtain ⟨hd, rfl⟩ := hd
  intro H locs ls hR hS hl
  exact va_gets hx hb (hE.2.2.2.2.2.2.1.2.1.kept hkp) hS hown (hts _ hw) (fun _ h => h) hd (kk H locs ls hR hS hl)
theorem vx_compact (hC : xk_C G K cc own nL) {ix : Nat} (hw : Cond.fieldLink own ix "java/lang/String" "COMPACT_STRINGS" "Z" ∈ xw_tbl) (hd : xd_D cc pc (.getstatic ix) 3 pc1) (kk : xv G K nL Q cells slots n tau vi vl vr pc1 lv (xa_i 1 :: st)) : xv G K nL Q cells slots n tau vi vl vr pc lv st := by
  have hkp := xk_kept hC
  obtain ⟨p, l, e, R, s, m, args, below, meth, c⟩ := K
  obtain ⟨hx, hb, hml, hown, hts, hE, hB, hB0⟩ := hC
  obtain ⟨hd, rfl⟩ := hd
  intro H locs ls hR hS hl
  exact va_gets hx hb (hE.2.2.2.2.2.2.1.2.2.kept hkp) hS hown (hts _ hw) (fun _ h => h) hd (kk H locs ls hR hS hl)
theorem vx_giver (hC : xk_C G K cc own nL) {z : Int} (hz : 0 ≤ z ∧ z < 6) (hd : xd_D cc pc .iaload 1 pc1) (kk : xv G K nL Q cells slots n tau vi vl vr pc1 lv (xa_i (([0, 0, 1, 1, 2, 2] : List Int).getD z.toNat 0) :: st)) : xv G K nL Q cells slots n tau vi vl vr pc lv (xa_i z :: xa_r 1000000 :: st) := by
  have hkp := xk_kept hC
  obtain ⟨p, l, e, R, s, m, args, below, meth, c⟩ := K
  obtain ⟨hx, hb, hml, hown, hts, hE, hB, hB0⟩ := hC
  obtain ⟨hd, rfl⟩ := hd
  intro H locs ls hR hS hl
  obtain ⟨i1, i2⟩ := xn_in (n := 6) hz.1 hz.2 (by omega)
  exact va_ti hx hb (hE.2.2.2.2.2.2.2.1.1.kept hkp) hS i1 (by rw [i2]; rfl) hd (kk H locs ls hR hS hl)
theorem vx_taker (hC : xk_C G K cc own nL) {z : Int} (hz : 0 ≤ z ∧ z < 6) (hd : xd_D cc pc .iaload 1 pc1) (kk : xv G K nL Q cells slots n tau vi vl vr pc1 lv (xa_i (([1, 2, 0, 2, 0, 1] : List Int).getD z.toNat 0) :: st)) : xv G K nL Q cells slots n tau vi vl vr pc lv (xa_i z :: xa_r 1000001 :: st) := by
  have hkp := xk_kept hC
  obtain ⟨p, l, e, R, s, m, args, below, meth, c⟩ := K
  obtain ⟨hx, hb, hml, hown, hts, hE, hB, hB0⟩ := hC
  obtain ⟨hd, rfl⟩ := hd
  intro H locs ls hR hS hl
  obtain ⟨i1, i2⟩ := xn_in (n := 6) hz.1 hz.2 (by omega)
  exact va_ti hx hb (hE.2.2.2.2.2.2.2.1.2.kept hkp) hS i1 (by rw [i2]; rfl) hd (kk H locs ls hR hS hl)
theorem vx_ldcs (hC : xk_C G K cc own nL) {ix i : Nat} {tx : String} (hs : (own, ix, tx, i) ∈ xw_sites) (hd : xd_D cc pc (.ldc ix) 2 pc1) (kk : xv G K nL Q cells slots n tau vi vl vr pc1 lv (xa_r (1000002 + i) :: st)) : xv G K nL Q cells slots n tau vi vl vr pc lv st := by
  have hkp := xk_kept hC
  obtain ⟨p, l, e, R, s, m, args, below, meth, c⟩ := K
  obtain ⟨hx, hb, hml, hown, hts, hE, hB, hB0⟩ := hC
  obtain ⟨hd, rfl⟩ := hd
  intro H locs ls hR hS hl
  have k2 := kk H locs ls hR hS hl
  have ea : xa_tr G (xa_r (1000002 + i)) = .ref (G.2.2.2 (2 + i)) := by
    show Value.ref (xg_ad G (1000002 + i)) = _
    rw [show 1000002 + i = 1000000 + (2 + i) by omega, xn_ad]
  rw [List.map_cons, ea] at k2
  exact va_ldcS hx hb hown (hE.2.2.2.2.2.1 _ hs) hd k2
theorem vx_strCoder (hC : xk_C G K cc own nL) {ix i : Nat} (hi : i < 8) (hw : Cond.fieldLink own ix "java/lang/String" "coder" "B" ∈ xw_tbl) (hd : xd_D cc pc (.getfield ix) 3 pc1) (kk : xv G K nL Q cells slots n tau vi vl vr pc1 lv (xa_i 0 :: st)) : xv G K nL Q cells slots n tau vi vl vr pc lv (xa_r (1000002 + i) :: st) := by
  have hkp := xk_kept hC
  obtain ⟨p, l, e, R, s, m, args, below, meth, c⟩ := K
  obtain ⟨hx, hb, hml, hown, hts, hE, hB, hB0⟩ := hC
  obtain ⟨hd, rfl⟩ := hd
  intro H locs ls hR hS hl
  show W p l e R s m args below meth c H locs cells slots Q (F0 m pc ls (.ref (xg_ad G (1000002 + i)) :: st.map (xa_tr G)))
  rw [show 1000002 + i = 1000000 + (2 + i) by omega, xn_ad]
  exact vk_getf hx hb ((hE.2.2.2.2.2.2.2.2 i hi).2.1.kept hkp) hS hown (hts _ hw) (fun _ h => h) hd (kk H locs ls hR hS hl)
theorem vx_strValue (hC : xk_C G K cc own nL) {ix i : Nat} (hi : i < 8) (hw : Cond.fieldLink own ix "java/lang/String" "value" "[B" ∈ xw_tbl) (hd : xd_D cc pc (.getfield ix) 3 pc1) (kk : xv G K nL Q cells slots n tau vi vl vr pc1 lv (xa_r (1000010 + i) :: st)) : xv G K nL Q cells slots n tau vi vl vr pc lv (xa_r (1000002 + i) :: st) := by
  have hkp := xk_kept hC
  obtain ⟨p, l, e, R, s, m, args, below, meth, c⟩ := K
  obtain ⟨hx, hb, hml, hown, hts, hE, hB, hB0⟩ := hC
  obtain ⟨hd, rfl⟩ := hd
  intro H locs ls hR hS hl
  have k2 := kk H locs ls hR hS hl
  have ea : xa_tr G (xa_r (1000010 + i)) = .ref (G.2.2.2 (10 + i)) := by
    show Value.ref (xg_ad G (1000010 + i)) = _
    rw [show 1000010 + i = 1000000 + (10 + i) by omega, xn_ad]
  rw [List.map_cons, ea] at k2
  show W p l e R s m args below meth c H locs cells slots Q (F0 m pc ls (.ref (xg_ad G (1000002 + i)) :: st.map (xa_tr G)))
  rw [show 1000002 + i = 1000000 + (2 + i) by omega, xn_ad]
  exact vk_getf hx hb ((hE.2.2.2.2.2.2.2.2 i hi).2.2.1.kept hkp) hS hown (hts _ hw) (fun _ h => h) hd k2
theorem vx_strLen (hC : xk_C G K cc own nL) {i : Nat} (hi : i < 8) (hd : xd_D cc pc .arraylength 1 pc1) (kk : xv G K nL Q cells slots n tau vi vl vr pc1 lv (xa_i (xw_byt.getD i []).length :: st)) : xv G K nL Q cells slots n tau vi vl vr pc lv (xa_r (1000010 + i) :: st) := by
  have hkp := xk_kept hC
  obtain ⟨p, l, e, R, s, m, args, below, meth, c⟩ := K
  obtain ⟨hx, hb, hml, hown, hts, hE, hB, hB0⟩ := hC
  obtain ⟨hd, rfl⟩ := hd
  intro H locs ls hR hS hl
  show W p l e R s m args below meth c H locs cells slots Q (F0 m pc ls (.ref (xg_ad G (1000010 + i)) :: st.map (xa_tr G)))
  rw [show 1000010 + i = 1000000 + (10 + i) by omega, xn_ad]
  exact va_tlen hx hb ((hE.2.2.2.2.2.2.2.2 i hi).2.2.2.kept hkp) hS rfl hd (kk H locs ls hR hS hl)
theorem vx_strByte (hC : xk_C G K cc own nL) {i : Nat} {z : Int} (hi : i < 8) (hz : 0 ≤ z ∧ z < (xw_byt.getD i []).length) (hd : xd_D cc pc .baload 1 pc1) (kk : xv G K nL Q cells slots n tau vi vl vr pc1 lv (xa_i ((xw_byt.getD i []).getD z.toNat 0) :: st)) : xv G K nL Q cells slots n tau vi vl vr pc lv (xa_i z :: xa_r (1000010 + i) :: st) := by
  have hkp := xk_kept hC
  obtain ⟨p, l, e, R, s, m, args, below, meth, c⟩ := K
  obtain ⟨hx, hb, hml, hown, hts, hE, hB, hB0⟩ := hC
  obtain ⟨hd, rfl⟩ := hd
  intro H locs ls hR hS hl
  have hln : (xw_byt.getD i []).length < 2147483648 := by
    have : ∀ i, i < 8 → (xw_byt.getD i []).length < 2147483648 := by decide
    exact this i hi
  obtain ⟨i1, i2⟩ := xn_in hz.1 hz.2 hln
  show W p l e R s m args below meth c H locs cells slots Q (F0 m pc ls (.int (Int32.ofInt z) :: .ref (xg_ad G (1000010 + i)) :: st.map (xa_tr G)))
  rw [show 1000010 + i = 1000000 + (10 + i) by omega, xn_ad]
  exact va_tb hx hb ((hE.2.2.2.2.2.2.2.2 i hi).2.2.2.kept hkp) hS i1 (by rw [i2]; rfl) hd (kk H locs ls hR hS hl)
theorem vx_mmax (hC : xk_C G K cc own nL) {x y : Int} {ix d1 mc1 ms1 : Nat} (hr : -2147483648 ≤ x ∧ x < 2147483648 ∧ -2147483648 ≤ y ∧ y < 2147483648) (hws : ∀ w ∈ ([.methodLink own ix Lib.Math.max.name, .static Lib.Math.max.name, .initialized "java/lang/Math", .code Lib.Math.max.name Lib.Math.max.code 2 (some .int)] : List Cond), w ∈ xw_tbl) (hRm : xk_Rm K d1 mc1 ms1) (h1 : 1 ≤ d1 ∧ cells ≤ mc1 ∧ slots ≤ ms1) (hw8 : (st.map xa_c).sum ≤ 8) (hd : xd_D cc pc (.invokestatic ix) 3 pc1) (kk : xv G K nL Q cells slots n tau vi vl vr pc1 lv (xa_i (if x < y then y else x) :: st)) : xv G K nL Q cells slots n tau vi vl vr pc lv (xa_i y :: xa_i x :: st) := by
  obtain ⟨p, l, e, R, s, m, args, below, meth, c⟩ := K
  obtain ⟨hx, hb, hml, hown, hts, hE, hB, hB0⟩ := hC
  obtain ⟨hd, rfl⟩ := hd
  intro H locs ls hR hS hl
  obtain ⟨r1, r2, r3, r4⟩ := hRm
  simp only [xk_R] at r1 r2 r3 r4
  have hw9 : ((st.map (xa_tr G)).map fun v => v.category).sum ≤ 8 := by
    rw [List.map_map, show ((fun v : Value => v.category) ∘ xa_tr G) = xa_c from funext fun v => xa_tr_c G v]
    exact hw8
  refine va_mmax hx hb (by rw [hl.1]; exact hml) hown (hts _ (hws _ (by simp))) (hts _ (hws _ (by simp))) (hts _ (hws _ (by simp))) (hts _ (hws _ (by simp))) (by show 1 ≤ R.frames; omega) (by show _ ≤ R.locals; omega) (by show cells ≤ R.cells; omega) (by show slots ≤ R.slots; omega) hd ?_
  have e : (if Int32.ofInt x < Int32.ofInt y then Int32.ofInt y else Int32.ofInt x) = Int32.ofInt (if x < y then y else x) := by
    by_cases h : x < y
    · rw [if_pos h, if_pos ((xn_lt hr).mpr h)]
    · rw [if_neg h, if_neg (fun q => h ((xn_lt hr).mp q))]
  rw [e]
  exact kk H locs ls hR hS hl
theorem vx_mmin (hC : xk_C G K cc own nL) {x y : Int} {ix d1 mc1 ms1 : Nat} (hr : -2147483648 ≤ x ∧ x < 2147483648 ∧ -2147483648 ≤ y ∧ y < 2147483648) (hws : ∀ w ∈ ([.methodLink own ix Lib.Math.min.name, .static Lib.Math.min.name, .initialized "java/lang/Math", .code Lib.Math.min.name Lib.Math.min.code 2 (some .int)] : List Cond), w ∈ xw_tbl) (hRm : xk_Rm K d1 mc1 ms1) (h1 : 1 ≤ d1 ∧ cells ≤ mc1 ∧ slots ≤ ms1) (hw8 : (st.map xa_c).sum ≤ 8) (hd : xd_D cc pc (.invokestatic ix) 3 pc1) (kk : xv G K nL Q cells slots n tau vi vl vr pc1 lv (xa_i (if y < x then y else x) :: st)) : xv G K nL Q cells slots n tau vi vl vr pc lv (xa_i y :: xa_i x :: st) := by
  obtain ⟨p, l, e, R, s, m, args, below, meth, c⟩ := K
  obtain ⟨hx, hb, hml, hown, hts, hE, hB, hB0⟩ := hC
  obtain ⟨hd, rfl⟩ := hd
  intro H locs ls hR hS hl
  obtain ⟨r1, r2, r3, r4⟩ := hRm
  simp only [xk_R] at r1 r2 r3 r4
  have hw9 : ((st.map (xa_tr G)).map fun v => v.category).sum ≤ 8 := by
    rw [List.map_map, show ((fun v : Value => v.category) ∘ xa_tr G) = xa_c from funext fun v => xa_tr_c G v]
    exact hw8
  refine va_mmin hx hb (by rw [hl.1]; exact hml) hown (hts _ (hws _ (by simp))) (hts _ (hws _ (by simp))) (hts _ (hws _ (by simp))) (hts _ (hws _ (by simp))) (by show 1 ≤ R.frames; omega) (by show _ ≤ R.locals; omega) (by show cells ≤ R.cells; omega) (by show slots ≤ R.slots; omega) hd ?_
  have e : (if Int32.ofInt y < Int32.ofInt x then Int32.ofInt y else Int32.ofInt x) = Int32.ofInt (if y < x then y else x) := by
    by_cases h : y < x
    · rw [if_pos h, if_pos ((xn_lt ⟨hr.2.2.1, hr.2.2.2, hr.1, hr.2.1⟩).mpr h)]
    · rw [if_neg h, if_neg (fun q => h ((xn_lt ⟨hr.2.2.1, hr.2.2.2, hr.1, hr.2.1⟩).mp q))]
  rw [e]
  exact kk H locs ls hR hS hl
theorem vx_mabs (hC : xk_C G K cc own nL) {x : Int} {ix d1 mc1 ms1 : Nat} (hr : -2147483648 ≤ x ∧ x < 2147483648) (hws : ∀ w ∈ ([.methodLink own ix Lib.Math.abs.name, .static Lib.Math.abs.name, .initialized "java/lang/Math", .code Lib.Math.abs.name Lib.Math.abs.code 1 (some .int)] : List Cond), w ∈ xw_tbl) (hRm : xk_Rm K d1 mc1 ms1) (h1 : 1 ≤ d1 ∧ cells ≤ mc1 ∧ slots ≤ ms1) (hw8 : (st.map xa_c).sum ≤ 8) (hd : xd_D cc pc (.invokestatic ix) 3 pc1) (kk : xv G K nL Q cells slots n tau vi vl vr pc1 lv (xa_i (if 0 ≤ x then x else 0 - x) :: st)) : xv G K nL Q cells slots n tau vi vl vr pc lv (xa_i x :: st) := by
  obtain ⟨p, l, e, R, s, m, args, below, meth, c⟩ := K
  obtain ⟨hx, hb, hml, hown, hts, hE, hB, hB0⟩ := hC
  obtain ⟨hd, rfl⟩ := hd
  intro H locs ls hR hS hl
  obtain ⟨r1, r2, r3, r4⟩ := hRm
  simp only [xk_R] at r1 r2 r3 r4
  have hw9 : ((st.map (xa_tr G)).map fun v => v.category).sum ≤ 8 := by
    rw [List.map_map, show ((fun v : Value => v.category) ∘ xa_tr G) = xa_c from funext fun v => xa_tr_c G v]
    exact hw8
  refine va_mabs hx hb (by rw [hl.1]; exact hml) hown (hts _ (hws _ (by simp))) (hts _ (hws _ (by simp))) (hts _ (hws _ (by simp))) (hts _ (hws _ (by simp))) (by show 1 ≤ R.frames; omega) (by show _ ≤ R.locals; omega) (by show cells ≤ R.cells; omega) (by show slots ≤ R.slots; omega) hd ?_
  have e : (if 0 ≤ Int32.ofInt x then Int32.ofInt x else 0 - Int32.ofInt x) = Int32.ofInt (if 0 ≤ x then x else 0 - x) := by
    have h0 : (0 : Int32) ≤ Int32.ofInt x ↔ 0 ≤ x := xn_le (x := 0) (y := x) ⟨by omega, by omega, hr.1, hr.2⟩
    by_cases h : 0 ≤ x
    · rw [if_pos h, if_pos (h0.mpr h)]
    · rw [if_neg h, if_neg (fun q => h (h0.mp q)), Int32.ofInt_sub]; rfl
  rw [e]
  exact kk H locs ls hR hS hl
/-- copy: places dp .. dp + m - 1 of the new row are f's from sp on -/
def xcp (f g : Int → Int) (sp dp m : Int) : Int → Int := fun z => if dp ≤ z ∧ z < dp + m then f (sp + (z - dp)) else g z
theorem vx_copyW {p : Program} {l : Launch} {e : Env} {R : Room} {s : State} {m : MethodId} {args : Array Value} {below : List Frame} {meth : Method} {c : Code} {H : Heap} {locs : List Loc} {ls : Array Slot} {rest : List Value} (hexec : p.tables.exec = Jvm.exec) (hb : c.code = cc) (hml : c.maxLocals = ls.size) {ix : Nat} (hown : s.vm.findClass own = some m.cls) (hlink : (Cond.methodLink own ix arraycopyName).before args s = true) (hnat : (Cond.native arraycopyName).before args s = true) (hstat : (Cond.static arraycopyName).before args s = true) (hini : (Cond.initialized "java/lang/System").before args s = true)
    {a0 a n0 n1 : Nat} {cA : ClassId} {f g : Nat → Value} {ty : FieldType} (ha0 : H[a0]? = some (arrV cA n0 f)) (ha1 : H[a]? = some (arrV cA n1 g)) (hA : ArrOfT s cA ty) (hprim : refKind ty = false) {sp dp k : Nat} (h4 : sp + k ≤ n0 ∧ n0 < 2147483648) (h5 : dp + k ≤ n1 ∧ n1 < 2147483648) (hfit : ∀ i, i < k → fits ty (f (sp + i)) = true ∧ ∃ z : Int32, f (sp + i) = .int z ∨ ∃ z : Int64, f (sp + i) = .long z)
    (hframes : 1 ≤ R.frames) (hlocals : (rest.map fun v => v.category).sum + 18 ≤ R.locals) (hdg : decode cc pc = .ok (.invokestatic ix, 3))
    (kk : ∀ (H1 : Heap) (locs1 : List Loc), H1[a]? = some (arrV cA n1 (va_cpy f g sp dp k)) → H1.size = H.size → (∀ q : Nat, q ≠ a → H1[q]? = H[q]?) → (∀ q ∈ locs1, q ∈ locs ∨ q.base = a) → W p l e R s m args below meth c H1 locs1 cells slots Q (F0 m (pc + 3) ls rest)) : W p l e R s m args below meth c H locs cells slots Q (F0 m pc ls (.int (Int32.ofInt k) :: .int (Int32.ofInt dp) :: .ref a :: .int (Int32.ofInt sp) :: .ref a0 :: rest)) := by
  have nn : ∀ z : Nat, z < 2147483648 → (Int32.ofInt (z : Int)).toInt = (z : Int) := fun z hz => xn_t (by omega) (by omega)
  have nc : ∀ z : Nat, z < 2147483648 → (Int32.ofInt (z : Int)).toNatClampNeg = z := fun z hz => by show (Int32.ofInt (z : Int)).toInt.toNat = z; rw [nn z hz]; omega
  have ng : ∀ z : Nat, z < 2147483648 → ¬ Int32.ofInt (z : Int) < 0 := fun z hz => by rw [show (0 : Int32) = Int32.ofInt 0 from rfl, xn_lt ⟨by omega, by omega, by omega, by omega⟩]; omega
  intro T hT X
  obtain ⟨-, k0, hk0, cm0, hkk0⟩ := hA n0 f
  obtain ⟨-, k1, hk1, cm1, hkk1⟩ := hA n1 g
  obtain ⟨vm', X', step⟩ := X.arraycopy hexec hown hlink hnat hstat hini (src := a0) (dst := a) (cs := arrV cA n0 f) (cd := arrV cA n1 g) (srcPos := Int32.ofInt sp) (destPos := Int32.ofInt dp) (n := Int32.ofInt k) (by rw [hT]; exact ha0) (by rw [hT]; exact ha1)
    (fun _ h => by cases h) (fun _ h => by cases h) (fun h => by cases h) (fun h => by cases h) hk0 hk1 hkk0 hkk1 (by simp [hprim]) (ng sp (by omega)) (ng dp (by omega)) (ng k (by omega))
    (by rw [nn sp (by omega), nn k (by omega), arrV_size]; omega)
    (by rw [nn dp (by omega), nn k (by omega), arrV_size]; omega)
    (fun vm₁ _ i hi => by
      rw [nc k (by omega)] at hi
      have e : (arrV cA n0 f).slots.getD ((Int32.ofInt (sp : Int)).toNatClampNeg + i) .null = f (sp + i) := by
        rw [nc sp (by omega), Array.getD_eq_getD_getElem?, arrV_read _ _ (by omega)]
        rfl
      rw [e]
      obtain ⟨f1, z, f2 | ⟨z2, f2⟩⟩ := hfit i hi
      · exact ⟨f1, by rw [f2]; exact trivial⟩
      · exact ⟨f1, by rw [f2]; exact trivial⟩)
    (g := F0 m pc ls (.int (Int32.ofInt k) :: .int (Int32.ofInt dp) :: .ref a :: .int (Int32.ofInt sp) :: .ref a0 :: rest)) rfl (by rw [hml]) (rest := rest) rfl (by rw [hb]; exact hdg) hframes (by show 2 * 0 + _ + _ ≤ _; rw [show nativeFrameWords "java/lang/System" "arraycopy" 5 = 7 by decide]; omega)
  have e1 : copied (arrV cA n0 f) (arrV cA n1 g) (Int32.ofInt sp) (Int32.ofInt dp) (Int32.ofInt k) = arrV cA n1 (va_cpy f g sp dp k) := by
    have := va_copied (fun z => z) cA cA (n0 := n0) (n1 := n1) (sp := sp) (dp := dp) (n := k) f g h4.1
    unfold copied
    rw [nc sp (by omega), nc dp (by omega), nc k (by omega)]
    exact this
  rw [e1] at X' step
  have hl : a < H.size := (Array.getElem?_eq_some_iff.mp ha1).1
  have hheap : ((T.setVm vm').setCell a (arrV cA n1 (va_cpy f g sp dp k))).heap = H.setIfInBounds a (arrV cA n1 (va_cpy f g sp dp k)) := by rw [← hT]; rfl
  obtain ⟨t, a1, b1⟩ := kk _ _ (by simp [Array.getElem?_setIfInBounds, hl]) (by simp) (fun q hq => by simp [Array.getElem?_setIfInBounds, Ne.symm hq]) (fun q hq => by
      rcases List.mem_append.mp hq with h | h
      · exact Or.inl h
      · obtain ⟨z, -, hz⟩ := List.mem_map.mp h
        rw [← hz]
        exact Or.inr rfl) _ hheap X'
  exact ⟨t, step t a1, b1⟩
theorem vx_copyI (hC : xk_C G K cc own nL) {k0 k1 len0 len1 ix d1 mc1 ms1 : Nat} {sp dp q : Int} (ht0 : k0 < n ∧ tau k0 = (14, len0)) (ht1 : k1 < n ∧ tau k1 = (14, len1)) (hne : k0 ≠ k1) (hz : 0 ≤ sp ∧ 0 ≤ dp ∧ 0 ≤ q ∧ sp + q ≤ len0 ∧ dp + q ≤ len1 ∧ len0 < 2147483648 ∧ len1 < 2147483648) (hws : ∀ w ∈ ([.methodLink own ix arraycopyName, .native arraycopyName, .static arraycopyName, .initialized "java/lang/System"] : List Cond), w ∈ xw_tbl) (hRm : xk_Rm K d1 mc1 ms1) (h1 : 1 ≤ d1) (hw8 : (st.map xa_c).sum ≤ 8) (hd : xd_D cc pc (.invokestatic ix) 3 pc1) (kk : xv G K nL Q cells slots n tau (fun a => if a = k1 then xcp (vi k0) (vi k1) sp dp q else vi a) vl vr pc1 lv st) : xv G K nL Q cells slots n tau vi vl vr pc lv (xa_i q :: xa_i dp :: xa_r k1 :: xa_i sp :: xa_r k0 :: st) := by
  obtain ⟨p, l, e, R, s, m, args, below, meth, c⟩ := K
  obtain ⟨hx, hb, hml, hown, hts, hE, hB, hB0⟩ := hC
  obtain ⟨hd, rfl⟩ := hd
  intro H locs ls hR hS hl
  obtain ⟨r1, r2, r3, r4⟩ := hRm
  simp only [xk_R] at r1 r2 r3 r4
  have hw9 : ((st.map (xa_tr G)).map fun v => v.category).sum ≤ 8 := by
    rw [List.map_map, show ((fun v : Value => v.category) ∘ xa_tr G) = xa_c from funext fun v => xa_tr_c G v]
    exact hw8
  have es : sp = (sp.toNat : Int) := by omega
  have ed : dp = (dp.toNat : Int) := by omega
  have eq : q = (q.toNat : Int) := by omega
  have hP0 := hR.2.2.1 k0 _ (xe_get ht0.1)
  rw [xe_int ht0.2 (by decide)] at hP0
  have hP1 := hR.2.2.1 k1 _ (xe_get ht1.1)
  rw [xe_int ht1.2 (by decide)] at hP1
  show W p l e R s m args below meth c H locs cells slots Q (F0 m pc ls (.int (Int32.ofInt q) :: .int (Int32.ofInt dp) :: .ref (xg_ad G k1) :: .int (Int32.ofInt sp) :: .ref (xg_ad G k0) :: st.map (xa_tr G)))
  rw [hR.ad ht0.1, hR.ad ht1.1, es, ed, eq]
  refine vx_copyW hx hb (by rw [hl.1]; exact hml) hown (hts _ (hws _ (by simp))) (hts _ (hws _ (by simp))) (hts _ (hws _ (by simp))) (hts _ (hws _ (by simp))) (f := fun j => .int (Int32.ofInt (vi k0 j))) (g := fun j => .int (Int32.ofInt (vi k1 j))) (ty := .int) (n0 := len0) (n1 := len1) hP0 hP1 (hE.1.2 1 _ rfl).1 rfl ⟨by omega, by omega⟩ ⟨by omega, by omega⟩ (fun i hi => ⟨rfl, _, Or.inl rfl⟩) (by show 1 ≤ R.frames; omega) (by show _ ≤ R.locals; omega) hd fun H1 locs1 e1 z1 oq hlc => ?_
  refine kk H1 locs1 ls (hR.put z1 oq ?_ (fun a ha => xe_same (fun b => if_neg ha ▸ rfl) (fun b => rfl) (fun b => rfl))) ⟨by rw [z1]; exact hS.1, fun x x1 x2 => by rw [oq x (fun h => x2 (by rw [h]; show xg_b G ≤ xg_b G + k1; omega))]; exact hS.2.1 x x1 x2, fun x hx9 => by rcases hlc x hx9 with h | h; exact hS.2.2 x h; rw [h]; show xg_b G ≤ xg_b G + k1; omega⟩ hl
  rw [xe_int ht1.2 (by decide)]
  show H1[_]? = some (vp_cell _ _)
  dsimp only
  rw [e1, vp_cell_i]
  congr 2
  funext j
  simp only [if_pos, va_cpy, xcp]
  by_cases h : dp.toNat ≤ j ∧ j < dp.toNat + q.toNat
  · rw [if_pos h, if_pos (by omega)]
    have e9 : ((sp.toNat + (j - dp.toNat) : Nat) : Int) = sp + ((j : Int) - dp) := by omega
    rw [e9]
  · rw [if_neg h, if_neg (by omega)]
theorem vx_copyJ (hC : xk_C G K cc own nL) {k0 k1 len0 len1 ix d1 mc1 ms1 : Nat} {sp dp q : Int} (ht0 : k0 < n ∧ tau k0 = (15, len0)) (ht1 : k1 < n ∧ tau k1 = (15, len1)) (hne : k0 ≠ k1) (hz : 0 ≤ sp ∧ 0 ≤ dp ∧ 0 ≤ q ∧ sp + q ≤ len0 ∧ dp + q ≤ len1 ∧ len0 < 2147483648 ∧ len1 < 2147483648) (hws : ∀ w ∈ ([.methodLink own ix arraycopyName, .native arraycopyName, .static arraycopyName, .initialized "java/lang/System"] : List Cond), w ∈ xw_tbl) (hRm : xk_Rm K d1 mc1 ms1) (h1 : 1 ≤ d1) (hw8 : (st.map xa_c).sum ≤ 8) (hd : xd_D cc pc (.invokestatic ix) 3 pc1) (kk : xv G K nL Q cells slots n tau vi (fun a => if a = k1 then xcp (vl k0) (vl k1) sp dp q else vl a) vr pc1 lv st) : xv G K nL Q cells slots n tau vi vl vr pc lv (xa_i q :: xa_i dp :: xa_r k1 :: xa_i sp :: xa_r k0 :: st) := by
  obtain ⟨p, l, e, R, s, m, args, below, meth, c⟩ := K
  obtain ⟨hx, hb, hml, hown, hts, hE, hB, hB0⟩ := hC
  obtain ⟨hd, rfl⟩ := hd
  intro H locs ls hR hS hl
  obtain ⟨r1, r2, r3, r4⟩ := hRm
  simp only [xk_R] at r1 r2 r3 r4
  have hw9 : ((st.map (xa_tr G)).map fun v => v.category).sum ≤ 8 := by
    rw [List.map_map, show ((fun v : Value => v.category) ∘ xa_tr G) = xa_c from funext fun v => xa_tr_c G v]
    exact hw8
  have es : sp = (sp.toNat : Int) := by omega
  have ed : dp = (dp.toNat : Int) := by omega
  have eq : q = (q.toNat : Int) := by omega
  have hP0 := hR.2.2.1 k0 _ (xe_get ht0.1)
  rw [xe_long ht0.2] at hP0
  have hP1 := hR.2.2.1 k1 _ (xe_get ht1.1)
  rw [xe_long ht1.2] at hP1
  show W p l e R s m args below meth c H locs cells slots Q (F0 m pc ls (.int (Int32.ofInt q) :: .int (Int32.ofInt dp) :: .ref (xg_ad G k1) :: .int (Int32.ofInt sp) :: .ref (xg_ad G k0) :: st.map (xa_tr G)))
  rw [hR.ad ht0.1, hR.ad ht1.1, es, ed, eq]
  refine vx_copyW hx hb (by rw [hl.1]; exact hml) hown (hts _ (hws _ (by simp))) (hts _ (hws _ (by simp))) (hts _ (hws _ (by simp))) (hts _ (hws _ (by simp))) (f := fun j => .long (Int64.ofInt (vl k0 j))) (g := fun j => .long (Int64.ofInt (vl k1 j))) (ty := .long) (n0 := len0) (n1 := len1) hP0 hP1 (hE.1.2 2 _ rfl).1 rfl ⟨by omega, by omega⟩ ⟨by omega, by omega⟩ (fun i hi => ⟨rfl, 0, Or.inr ⟨_, rfl⟩⟩) (by show 1 ≤ R.frames; omega) (by show _ ≤ R.locals; omega) hd fun H1 locs1 e1 z1 oq hlc => ?_
  refine kk H1 locs1 ls (hR.put z1 oq ?_ (fun a ha => xe_same (fun b => rfl) (fun b => if_neg ha ▸ rfl) (fun b => rfl))) ⟨by rw [z1]; exact hS.1, fun x x1 x2 => by rw [oq x (fun h => x2 (by rw [h]; show xg_b G ≤ xg_b G + k1; omega))]; exact hS.2.1 x x1 x2, fun x hx9 => by rcases hlc x hx9 with h | h; exact hS.2.2 x h; rw [h]; show xg_b G ≤ xg_b G + k1; omega⟩ hl
  rw [xe_long ht1.2]
  show H1[_]? = some (vp_cell _ _)
  dsimp only
  rw [e1, vp_cell_l]
  congr 2
  funext j
  simp only [if_pos, va_cpy, xcp]
  by_cases h : dp.toNat ≤ j ∧ j < dp.toNat + q.toNat
  · rw [if_pos h, if_pos (by omega)]
    have e9 : ((sp.toNat + (j - dp.toNat) : Nat) : Int) = sp + ((j : Int) - dp) := by omega
    rw [e9]
  · rw [if_neg h, if_neg (by omega)]
theorem vx_copyB (hC : xk_C G K cc own nL) {k0 k1 len0 len1 ix d1 mc1 ms1 : Nat} {sp dp q : Int} (ht0 : k0 < n ∧ tau k0 = (13, len0)) (ht1 : k1 < n ∧ tau k1 = (13, len1)) (hne : k0 ≠ k1) (hz : 0 ≤ sp ∧ 0 ≤ dp ∧ 0 ≤ q ∧ sp + q ≤ len0 ∧ dp + q ≤ len1 ∧ len0 < 2147483648 ∧ len1 < 2147483648) (hby : ∀ z : Int, 0 ≤ z → z < len0 → -128 ≤ vi k0 z ∧ vi k0 z < 128) (hws : ∀ w ∈ ([.methodLink own ix arraycopyName, .native arraycopyName, .static arraycopyName, .initialized "java/lang/System"] : List Cond), w ∈ xw_tbl) (hRm : xk_Rm K d1 mc1 ms1) (h1 : 1 ≤ d1) (hw8 : (st.map xa_c).sum ≤ 8) (hd : xd_D cc pc (.invokestatic ix) 3 pc1) (kk : xv G K nL Q cells slots n tau (fun a => if a = k1 then xcp (vi k0) (vi k1) sp dp q else vi a) vl vr pc1 lv st) : xv G K nL Q cells slots n tau vi vl vr pc lv (xa_i q :: xa_i dp :: xa_r k1 :: xa_i sp :: xa_r k0 :: st) := by
  obtain ⟨p, l, e, R, s, m, args, below, meth, c⟩ := K
  obtain ⟨hx, hb, hml, hown, hts, hE, hB, hB0⟩ := hC
  obtain ⟨hd, rfl⟩ := hd
  intro H locs ls hR hS hl
  obtain ⟨r1, r2, r3, r4⟩ := hRm
  simp only [xk_R] at r1 r2 r3 r4
  have hw9 : ((st.map (xa_tr G)).map fun v => v.category).sum ≤ 8 := by
    rw [List.map_map, show ((fun v : Value => v.category) ∘ xa_tr G) = xa_c from funext fun v => xa_tr_c G v]
    exact hw8
  have es : sp = (sp.toNat : Int) := by omega
  have ed : dp = (dp.toNat : Int) := by omega
  have eq : q = (q.toNat : Int) := by omega
  have hP0 := hR.2.2.1 k0 _ (xe_get ht0.1)
  rw [xe_int ht0.2 (by decide)] at hP0
  have hP1 := hR.2.2.1 k1 _ (xe_get ht1.1)
  rw [xe_int ht1.2 (by decide)] at hP1
  show W p l e R s m args below meth c H locs cells slots Q (F0 m pc ls (.int (Int32.ofInt q) :: .int (Int32.ofInt dp) :: .ref (xg_ad G k1) :: .int (Int32.ofInt sp) :: .ref (xg_ad G k0) :: st.map (xa_tr G)))
  rw [hR.ad ht0.1, hR.ad ht1.1, es, ed, eq]
  refine vx_copyW hx hb (by rw [hl.1]; exact hml) hown (hts _ (hws _ (by simp))) (hts _ (hws _ (by simp))) (hts _ (hws _ (by simp))) (hts _ (hws _ (by simp))) (f := fun j => .int (Int32.ofInt (vi k0 j))) (g := fun j => .int (Int32.ofInt (vi k1 j))) (ty := .byte) (n0 := len0) (n1 := len1) hP0 hP1 (hE.1.2 0 _ rfl).1 rfl ⟨by omega, by omega⟩ ⟨by omega, by omega⟩ (fun i hi => ⟨by obtain ⟨b1, b2⟩ := hby ((sp.toNat + i : Nat) : Int) (by omega) (by omega); simp only [fits]; rw [Bool.and_eq_true, decide_eq_true_eq, decide_eq_true_eq, show (-128 : Int32) = Int32.ofInt (-128) from rfl, show (127 : Int32) = Int32.ofInt 127 from rfl, xn_le ⟨by omega, by omega, by omega, by omega⟩, xn_le ⟨by omega, by omega, by omega, by omega⟩]; omega, _, Or.inl rfl⟩) (by show 1 ≤ R.frames; omega) (by show _ ≤ R.locals; omega) hd fun H1 locs1 e1 z1 oq hlc => ?_
  refine kk H1 locs1 ls (hR.put z1 oq ?_ (fun a ha => xe_same (fun b => if_neg ha ▸ rfl) (fun b => rfl) (fun b => rfl))) ⟨by rw [z1]; exact hS.1, fun x x1 x2 => by rw [oq x (fun h => x2 (by rw [h]; show xg_b G ≤ xg_b G + k1; omega))]; exact hS.2.1 x x1 x2, fun x hx9 => by rcases hlc x hx9 with h | h; exact hS.2.2 x h; rw [h]; show xg_b G ≤ xg_b G + k1; omega⟩ hl
  rw [xe_int ht1.2 (by decide)]
  show H1[_]? = some (vp_cell _ _)
  dsimp only
  rw [e1, vp_cell_i]
  congr 2
  funext j
  simp only [if_pos, va_cpy, xcp]
  by_cases h : dp.toNat ≤ j ∧ j < dp.toNat + q.toNat
  · rw [if_pos h, if_pos (by omega)]
    have e9 : ((sp.toNat + (j - dp.toNat) : Nat) : Int) = sp + ((j : Int) - dp) := by omega
    rw [e9]
  · rw [if_neg h, if_neg (by omega)]
end XV
end
