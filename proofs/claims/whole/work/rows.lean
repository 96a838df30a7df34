section
-- ===== PART A: goes FIRST, ahead of the names: the tables' words, and 'selects' of the private methods out of them =====
/-- a private method of a class that the tables say can be made, by its rows of tables_1 -/
def lw_okq (q : MethodName × Nat) : Prop := (q.1.cls ≠ "java/lang/invoke/MethodHandle" ∧ q.1.cls ≠ "java/lang/invoke/VarHandle") ∧ Cond.instantiable q.1.cls q.2 ∈ tables_1 ∧ Cond.privateMethod q.1 ∈ tables_1 ∧ Cond.instanceMethod q.1 ∈ tables_1
theorem lw_p0 : lw_okq (⟨"TransitGate$Bytes", "putNumber", "(IIJ)V"⟩, 2) := ⟨⟨by decide +kernel, by decide +kernel⟩, List.mem_of_getElem? (i := 32) (by decide +kernel), List.mem_of_getElem? (i := 236) (by decide +kernel), List.mem_of_getElem? (i := 237) (by decide +kernel)⟩
theorem lw_p1 : lw_okq (⟨"TransitGate", "passFromInside", "()I"⟩, 8) := ⟨⟨by decide +kernel, by decide +kernel⟩, List.mem_of_getElem? (i := 24) (by decide +kernel), List.mem_of_getElem? (i := 244) (by decide +kernel), List.mem_of_getElem? (i := 245) (by decide +kernel)⟩
theorem lw_p2 : lw_okq (⟨"TransitGate$Bytes", "number", "(II)J"⟩, 2) := ⟨⟨by decide +kernel, by decide +kernel⟩, List.mem_of_getElem? (i := 32) (by decide +kernel), List.mem_of_getElem? (i := 263) (by decide +kernel), List.mem_of_getElem? (i := 264) (by decide +kernel)⟩
theorem lw_p3 : lw_okq (⟨"TransitGate$Table", "byInner", "(LTransitGate$Flow;JJ)LTransitGate$Binding;"⟩, 3) := ⟨⟨by decide +kernel, by decide +kernel⟩, List.mem_of_getElem? (i := 82) (by decide +kernel), List.mem_of_getElem? (i := 394) (by decide +kernel), List.mem_of_getElem? (i := 395) (by decide +kernel)⟩
theorem lw_p4 : lw_okq (⟨"TransitGate$Table", "meetsSession", "(LTransitGate$Binding;LTransitGate$Flow;)Z"⟩, 3) := ⟨⟨by decide +kernel, by decide +kernel⟩, List.mem_of_getElem? (i := 82) (by decide +kernel), List.mem_of_getElem? (i := 421) (by decide +kernel), List.mem_of_getElem? (i := 422) (by decide +kernel)⟩
theorem lw_p5 : lw_okq (⟨"TransitGate$Session", "stateAfter", "(IZ)I"⟩, 5) := ⟨⟨by decide +kernel, by decide +kernel⟩, List.mem_of_getElem? (i := 432) (by decide +kernel), List.mem_of_getElem? (i := 430) (by decide +kernel), List.mem_of_getElem? (i := 431) (by decide +kernel)⟩
theorem lw_p6 : lw_okq (⟨"TransitGate$Table", "mayAddSession", "(LTransitGate$Flow;)Z"⟩, 3) := ⟨⟨by decide +kernel, by decide +kernel⟩, List.mem_of_getElem? (i := 82) (by decide +kernel), List.mem_of_getElem? (i := 438) (by decide +kernel), List.mem_of_getElem? (i := 439) (by decide +kernel)⟩
theorem lw_p7 : lw_okq (⟨"TransitGate$Table", "bind", "(LTransitGate$Flow;JJI)LTransitGate$Binding;"⟩, 3) := ⟨⟨by decide +kernel, by decide +kernel⟩, List.mem_of_getElem? (i := 82) (by decide +kernel), List.mem_of_getElem? (i := 446) (by decide +kernel), List.mem_of_getElem? (i := 447) (by decide +kernel)⟩
theorem lw_p8 : lw_okq (⟨"TransitGate$Table", "numberFor", "(JJI)I"⟩, 3) := ⟨⟨by decide +kernel, by decide +kernel⟩, List.mem_of_getElem? (i := 82) (by decide +kernel), List.mem_of_getElem? (i := 450) (by decide +kernel), List.mem_of_getElem? (i := 451) (by decide +kernel)⟩
theorem lw_p9 : lw_okq (⟨"TransitGate$Table", "bindingsAt", "(I)I"⟩, 3) := ⟨⟨by decide +kernel, by decide +kernel⟩, List.mem_of_getElem? (i := 82) (by decide +kernel), List.mem_of_getElem? (i := 454) (by decide +kernel), List.mem_of_getElem? (i := 455) (by decide +kernel)⟩
theorem lw_p10 : lw_okq (⟨"TransitGate$Table", "freePort", "(LTransitGate$Flow;I)I"⟩, 3) := ⟨⟨by decide +kernel, by decide +kernel⟩, List.mem_of_getElem? (i := 82) (by decide +kernel), List.mem_of_getElem? (i := 458) (by decide +kernel), List.mem_of_getElem? (i := 459) (by decide +kernel)⟩
theorem lw_p11 : lw_okq (⟨"java/util/ArrayList", "add", "(Ljava/lang/Object;[Ljava/lang/Object;I)V"⟩, 3) := ⟨⟨by decide +kernel, by decide +kernel⟩, List.mem_of_getElem? (i := 88) (by decide +kernel), List.mem_of_getElem? (i := 512) (by decide +kernel), List.mem_of_getElem? (i := 513) (by decide +kernel)⟩
theorem lw_p12 : lw_okq (⟨"java/util/ArrayList", "grow", "()[Ljava/lang/Object;"⟩, 3) := ⟨⟨by decide +kernel, by decide +kernel⟩, List.mem_of_getElem? (i := 88) (by decide +kernel), List.mem_of_getElem? (i := 516) (by decide +kernel), List.mem_of_getElem? (i := 517) (by decide +kernel)⟩
theorem lw_p13 : lw_okq (⟨"java/util/ArrayList", "grow", "(I)[Ljava/lang/Object;"⟩, 3) := ⟨⟨by decide +kernel, by decide +kernel⟩, List.mem_of_getElem? (i := 88) (by decide +kernel), List.mem_of_getElem? (i := 520) (by decide +kernel), List.mem_of_getElem? (i := 521) (by decide +kernel)⟩
theorem lw_p14 : lw_okq (⟨"TransitGate", "closePacket", "(I)I"⟩, 8) := ⟨⟨by decide +kernel, by decide +kernel⟩, List.mem_of_getElem? (i := 24) (by decide +kernel), List.mem_of_getElem? (i := 627) (by decide +kernel), List.mem_of_getElem? (i := 628) (by decide +kernel)⟩
theorem lw_p15 : lw_okq (⟨"TransitGate", "passFromOutside", "()I"⟩, 8) := ⟨⟨by decide +kernel, by decide +kernel⟩, List.mem_of_getElem? (i := 24) (by decide +kernel), List.mem_of_getElem? (i := 635) (by decide +kernel), List.mem_of_getElem? (i := 636) (by decide +kernel)⟩
def lw_privs_1 : List (MethodName × Nat) := [(⟨"TransitGate$Bytes", "putNumber", "(IIJ)V"⟩, 2), (⟨"TransitGate", "passFromInside", "()I"⟩, 8), (⟨"TransitGate$Bytes", "number", "(II)J"⟩, 2), (⟨"TransitGate$Table", "byInner", "(LTransitGate$Flow;JJ)LTransitGate$Binding;"⟩, 3), (⟨"TransitGate$Table", "meetsSession", "(LTransitGate$Binding;LTransitGate$Flow;)Z"⟩, 3), (⟨"TransitGate$Session", "stateAfter", "(IZ)I"⟩, 5), (⟨"TransitGate$Table", "mayAddSession", "(LTransitGate$Flow;)Z"⟩, 3), (⟨"TransitGate$Table", "bind", "(LTransitGate$Flow;JJI)LTransitGate$Binding;"⟩, 3), (⟨"TransitGate$Table", "numberFor", "(JJI)I"⟩, 3), (⟨"TransitGate$Table", "bindingsAt", "(I)I"⟩, 3), (⟨"TransitGate$Table", "freePort", "(LTransitGate$Flow;I)I"⟩, 3), (⟨"java/util/ArrayList", "add", "(Ljava/lang/Object;[Ljava/lang/Object;I)V"⟩, 3), (⟨"java/util/ArrayList", "grow", "()[Ljava/lang/Object;"⟩, 3), (⟨"java/util/ArrayList", "grow", "(I)[Ljava/lang/Object;"⟩, 3), (⟨"TransitGate", "closePacket", "(I)I"⟩, 8), (⟨"TransitGate", "passFromOutside", "()I"⟩, 8)]
theorem lw_r1 : ∀ q ∈ lw_privs_1, lw_okq q := List.forall_mem_cons.mpr ⟨lw_p0, List.forall_mem_cons.mpr ⟨lw_p1, List.forall_mem_cons.mpr ⟨lw_p2, List.forall_mem_cons.mpr ⟨lw_p3, List.forall_mem_cons.mpr ⟨lw_p4, List.forall_mem_cons.mpr ⟨lw_p5, List.forall_mem_cons.mpr ⟨lw_p6, List.forall_mem_cons.mpr ⟨lw_p7, List.forall_mem_cons.mpr ⟨lw_p8, List.forall_mem_cons.mpr ⟨lw_p9, List.forall_mem_cons.mpr ⟨lw_p10, List.forall_mem_cons.mpr ⟨lw_p11, List.forall_mem_cons.mpr ⟨lw_p12, List.forall_mem_cons.mpr ⟨lw_p13, List.forall_mem_cons.mpr ⟨lw_p14, List.forall_mem_cons.mpr ⟨lw_p15, fun _ h => absurd h List.not_mem_nil⟩⟩⟩⟩⟩⟩⟩⟩⟩⟩⟩⟩⟩⟩⟩⟩
theorem lw_p16 : lw_okq (⟨"TransitGate", "passError", "()I"⟩, 8) := ⟨⟨by decide +kernel, by decide +kernel⟩, List.mem_of_getElem? (i := 24) (by decide +kernel), List.mem_of_getElem? (i := 671) (by decide +kernel), List.mem_of_getElem? (i := 672) (by decide +kernel)⟩
theorem lw_p17 : lw_okq (⟨"java/util/ArrayList", "fastRemove", "([Ljava/lang/Object;I)V"⟩, 3) := ⟨⟨by decide +kernel, by decide +kernel⟩, List.mem_of_getElem? (i := 88) (by decide +kernel), List.mem_of_getElem? (i := 763) (by decide +kernel), List.mem_of_getElem? (i := 764) (by decide +kernel)⟩
theorem lw_p18 : lw_okq (⟨"TransitGate$Table", "letIdleBindingsGo", "()V"⟩, 3) := ⟨⟨by decide +kernel, by decide +kernel⟩, List.mem_of_getElem? (i := 82) (by decide +kernel), List.mem_of_getElem? (i := 768) (by decide +kernel), List.mem_of_getElem? (i := 769) (by decide +kernel)⟩
theorem lw_p19 : lw_okq (⟨"TransitGateModel", "poolOf", "(I)I"⟩, 28) := ⟨⟨by decide +kernel, by decide +kernel⟩, List.mem_of_getElem? (i := 825) (by decide +kernel), List.mem_of_getElem? (i := 930) (by decide +kernel), List.mem_of_getElem? (i := 931) (by decide +kernel)⟩
theorem lw_p20 : lw_okq (⟨"TransitGateModel", "placeOf", "(I)I"⟩, 28) := ⟨⟨by decide +kernel, by decide +kernel⟩, List.mem_of_getElem? (i := 825) (by decide +kernel), List.mem_of_getElem? (i := 938) (by decide +kernel), List.mem_of_getElem? (i := 939) (by decide +kernel)⟩
theorem lw_p21 : lw_okq (⟨"TransitGateModel", "isOfPrefix", "(JJ)Z"⟩, 28) := ⟨⟨by decide +kernel, by decide +kernel⟩, List.mem_of_getElem? (i := 825) (by decide +kernel), List.mem_of_getElem? (i := 954) (by decide +kernel), List.mem_of_getElem? (i := 955) (by decide +kernel)⟩
theorem lw_p22 : lw_okq (⟨"TransitGateModel", "drawnOf", "(JJ)I"⟩, 28) := ⟨⟨by decide +kernel, by decide +kernel⟩, List.mem_of_getElem? (i := 825) (by decide +kernel), List.mem_of_getElem? (i := 958) (by decide +kernel), List.mem_of_getElem? (i := 959) (by decide +kernel)⟩
theorem lw_p23 : lw_okq (⟨"TransitGateModel", "sweep", "()I"⟩, 28) := ⟨⟨by decide +kernel, by decide +kernel⟩, List.mem_of_getElem? (i := 825) (by decide +kernel), List.mem_of_getElem? (i := 978) (by decide +kernel), List.mem_of_getElem? (i := 979) (by decide +kernel)⟩
theorem lw_p24 : lw_okq (⟨"TransitGateModel", "sessionsOf", "(I)I"⟩, 28) := ⟨⟨by decide +kernel, by decide +kernel⟩, List.mem_of_getElem? (i := 825) (by decide +kernel), List.mem_of_getElem? (i := 982) (by decide +kernel), List.mem_of_getElem? (i := 983) (by decide +kernel)⟩
theorem lw_p25 : lw_okq (⟨"TransitGateModel", "dropBinding", "(I)V"⟩, 28) := ⟨⟨by decide +kernel, by decide +kernel⟩, List.mem_of_getElem? (i := 825) (by decide +kernel), List.mem_of_getElem? (i := 986) (by decide +kernel), List.mem_of_getElem? (i := 987) (by decide +kernel)⟩
theorem lw_p26 : lw_okq (⟨"TransitGateModel", "begin", "(I)V"⟩, 28) := ⟨⟨by decide +kernel, by decide +kernel⟩, List.mem_of_getElem? (i := 825) (by decide +kernel), List.mem_of_getElem? (i := 994) (by decide +kernel), List.mem_of_getElem? (i := 995) (by decide +kernel)⟩
theorem lw_p27 : lw_okq (⟨"TransitGateModel", "lackOfInside", "()I"⟩, 28) := ⟨⟨by decide +kernel, by decide +kernel⟩, List.mem_of_getElem? (i := 825) (by decide +kernel), List.mem_of_getElem? (i := 998) (by decide +kernel), List.mem_of_getElem? (i := 999) (by decide +kernel)⟩
theorem lw_p28 : lw_okq (⟨"TransitGateModel", "isBadPart", "(II)Z"⟩, 28) := ⟨⟨by decide +kernel, by decide +kernel⟩, List.mem_of_getElem? (i := 825) (by decide +kernel), List.mem_of_getElem? (i := 1008) (by decide +kernel), List.mem_of_getElem? (i := 1009) (by decide +kernel)⟩
theorem lw_p29 : lw_okq (⟨"TransitGateModel", "isRight", "(II)Z"⟩, 28) := ⟨⟨by decide +kernel, by decide +kernel⟩, List.mem_of_getElem? (i := 825) (by decide +kernel), List.mem_of_getElem? (i := 1012) (by decide +kernel), List.mem_of_getElem? (i := 1013) (by decide +kernel)⟩
theorem lw_p30 : lw_okq (⟨"TransitGateModel", "drops", "(I)I"⟩, 28) := ⟨⟨by decide +kernel, by decide +kernel⟩, List.mem_of_getElem? (i := 825) (by decide +kernel), List.mem_of_getElem? (i := 1036) (by decide +kernel), List.mem_of_getElem? (i := 1037) (by decide +kernel)⟩
theorem lw_p31 : lw_okq (⟨"TransitGateModel", "findInner", "(IJJI)I"⟩, 28) := ⟨⟨by decide +kernel, by decide +kernel⟩, List.mem_of_getElem? (i := 825) (by decide +kernel), List.mem_of_getElem? (i := 1043) (by decide +kernel), List.mem_of_getElem? (i := 1044) (by decide +kernel)⟩
def lw_privs_2 : List (MethodName × Nat) := [(⟨"TransitGate", "passError", "()I"⟩, 8), (⟨"java/util/ArrayList", "fastRemove", "([Ljava/lang/Object;I)V"⟩, 3), (⟨"TransitGate$Table", "letIdleBindingsGo", "()V"⟩, 3), (⟨"TransitGateModel", "poolOf", "(I)I"⟩, 28), (⟨"TransitGateModel", "placeOf", "(I)I"⟩, 28), (⟨"TransitGateModel", "isOfPrefix", "(JJ)Z"⟩, 28), (⟨"TransitGateModel", "drawnOf", "(JJ)I"⟩, 28), (⟨"TransitGateModel", "sweep", "()I"⟩, 28), (⟨"TransitGateModel", "sessionsOf", "(I)I"⟩, 28), (⟨"TransitGateModel", "dropBinding", "(I)V"⟩, 28), (⟨"TransitGateModel", "begin", "(I)V"⟩, 28), (⟨"TransitGateModel", "lackOfInside", "()I"⟩, 28), (⟨"TransitGateModel", "isBadPart", "(II)Z"⟩, 28), (⟨"TransitGateModel", "isRight", "(II)Z"⟩, 28), (⟨"TransitGateModel", "drops", "(I)I"⟩, 28), (⟨"TransitGateModel", "findInner", "(IJJI)I"⟩, 28)]
theorem lw_r2 : ∀ q ∈ lw_privs_2, lw_okq q := List.forall_mem_cons.mpr ⟨lw_p16, List.forall_mem_cons.mpr ⟨lw_p17, List.forall_mem_cons.mpr ⟨lw_p18, List.forall_mem_cons.mpr ⟨lw_p19, List.forall_mem_cons.mpr ⟨lw_p20, List.forall_mem_cons.mpr ⟨lw_p21, List.forall_mem_cons.mpr ⟨lw_p22, List.forall_mem_cons.mpr ⟨lw_p23, List.forall_mem_cons.mpr ⟨lw_p24, List.forall_mem_cons.mpr ⟨lw_p25, List.forall_mem_cons.mpr ⟨lw_p26, List.forall_mem_cons.mpr ⟨lw_p27, List.forall_mem_cons.mpr ⟨lw_p28, List.forall_mem_cons.mpr ⟨lw_p29, List.forall_mem_cons.mpr ⟨lw_p30, List.forall_mem_cons.mpr ⟨lw_p31, fun _ h => absurd h List.not_mem_nil⟩⟩⟩⟩⟩⟩⟩⟩⟩⟩⟩⟩⟩⟩⟩⟩
theorem lw_p32 : lw_okq (⟨"TransitGateModel", "findSession", "(III)I"⟩, 28) := ⟨⟨by decide +kernel, by decide +kernel⟩, List.mem_of_getElem? (i := 825) (by decide +kernel), List.mem_of_getElem? (i := 1047) (by decide +kernel), List.mem_of_getElem? (i := 1048) (by decide +kernel)⟩
theorem lw_p33 : lw_okq (⟨"TransitGateModel", "makeBinding", "(IJJI)I"⟩, 28) := ⟨⟨by decide +kernel, by decide +kernel⟩, List.mem_of_getElem? (i := 825) (by decide +kernel), List.mem_of_getElem? (i := 1051) (by decide +kernel), List.mem_of_getElem? (i := 1052) (by decide +kernel)⟩
theorem lw_p34 : lw_okq (⟨"TransitGateModel", "bestPool", "(JJ)I"⟩, 28) := ⟨⟨by decide +kernel, by decide +kernel⟩, List.mem_of_getElem? (i := 825) (by decide +kernel), List.mem_of_getElem? (i := 1055) (by decide +kernel), List.mem_of_getElem? (i := 1056) (by decide +kernel)⟩
theorem lw_p35 : lw_okq (⟨"TransitGateModel", "findOuter", "(III)I"⟩, 28) := ⟨⟨by decide +kernel, by decide +kernel⟩, List.mem_of_getElem? (i := 825) (by decide +kernel), List.mem_of_getElem? (i := 1059) (by decide +kernel), List.mem_of_getElem? (i := 1060) (by decide +kernel)⟩
theorem lw_p36 : lw_okq (⟨"TransitGateModel", "makeSession", "(IIIZ)I"⟩, 28) := ⟨⟨by decide +kernel, by decide +kernel⟩, List.mem_of_getElem? (i := 825) (by decide +kernel), List.mem_of_getElem? (i := 1063) (by decide +kernel), List.mem_of_getElem? (i := 1064) (by decide +kernel)⟩
theorem lw_p37 : lw_okq (⟨"TransitGateModel", "anew", "(I)V"⟩, 28) := ⟨⟨by decide +kernel, by decide +kernel⟩, List.mem_of_getElem? (i := 825) (by decide +kernel), List.mem_of_getElem? (i := 1067) (by decide +kernel), List.mem_of_getElem? (i := 1068) (by decide +kernel)⟩
theorem lw_p38 : lw_okq (⟨"TransitGateModel", "goesOn", "(IIZ)V"⟩, 28) := ⟨⟨by decide +kernel, by decide +kernel⟩, List.mem_of_getElem? (i := 825) (by decide +kernel), List.mem_of_getElem? (i := 1071) (by decide +kernel), List.mem_of_getElem? (i := 1072) (by decide +kernel)⟩
theorem lw_p39 : lw_okq (⟨"TransitGateModel", "becomes", "(II)V"⟩, 28) := ⟨⟨by decide +kernel, by decide +kernel⟩, List.mem_of_getElem? (i := 825) (by decide +kernel), List.mem_of_getElem? (i := 1075) (by decide +kernel), List.mem_of_getElem? (i := 1076) (by decide +kernel)⟩
theorem lw_p40 : lw_okq (⟨"TransitGateModel", "makeInner", "(III)V"⟩, 28) := ⟨⟨by decide +kernel, by decide +kernel⟩, List.mem_of_getElem? (i := 825) (by decide +kernel), List.mem_of_getElem? (i := 1079) (by decide +kernel), List.mem_of_getElem? (i := 1080) (by decide +kernel)⟩
theorem lw_p41 : lw_okq (⟨"TransitGateModel", "lackOfOutside", "()I"⟩, 28) := ⟨⟨by decide +kernel, by decide +kernel⟩, List.mem_of_getElem? (i := 825) (by decide +kernel), List.mem_of_getElem? (i := 1096) (by decide +kernel), List.mem_of_getElem? (i := 1097) (by decide +kernel)⟩
theorem lw_p42 : lw_okq (⟨"TransitGateModel", "isError", "()Z"⟩, 28) := ⟨⟨by decide +kernel, by decide +kernel⟩, List.mem_of_getElem? (i := 825) (by decide +kernel), List.mem_of_getElem? (i := 1100) (by decide +kernel), List.mem_of_getElem? (i := 1101) (by decide +kernel)⟩
theorem lw_p43 : lw_okq (⟨"TransitGateModel", "isBadError", "()Z"⟩, 28) := ⟨⟨by decide +kernel, by decide +kernel⟩, List.mem_of_getElem? (i := 825) (by decide +kernel), List.mem_of_getElem? (i := 1104) (by decide +kernel), List.mem_of_getElem? (i := 1105) (by decide +kernel)⟩
theorem lw_p44 : lw_okq (⟨"TransitGateModel", "errorCame", "()I"⟩, 28) := ⟨⟨by decide +kernel, by decide +kernel⟩, List.mem_of_getElem? (i := 825) (by decide +kernel), List.mem_of_getElem? (i := 1108) (by decide +kernel), List.mem_of_getElem? (i := 1109) (by decide +kernel)⟩
theorem lw_p45 : lw_okq (⟨"TransitGateModel", "head", "(III)V"⟩, 28) := ⟨⟨by decide +kernel, by decide +kernel⟩, List.mem_of_getElem? (i := 825) (by decide +kernel), List.mem_of_getElem? (i := 1112) (by decide +kernel), List.mem_of_getElem? (i := 1113) (by decide +kernel)⟩
theorem lw_p46 : lw_okq (⟨"TransitGateModel", "finish", "(I)V"⟩, 28) := ⟨⟨by decide +kernel, by decide +kernel⟩, List.mem_of_getElem? (i := 825) (by decide +kernel), List.mem_of_getElem? (i := 1122) (by decide +kernel), List.mem_of_getElem? (i := 1123) (by decide +kernel)⟩
def lw_privs_3 : List (MethodName × Nat) := [(⟨"TransitGateModel", "findSession", "(III)I"⟩, 28), (⟨"TransitGateModel", "makeBinding", "(IJJI)I"⟩, 28), (⟨"TransitGateModel", "bestPool", "(JJ)I"⟩, 28), (⟨"TransitGateModel", "findOuter", "(III)I"⟩, 28), (⟨"TransitGateModel", "makeSession", "(IIIZ)I"⟩, 28), (⟨"TransitGateModel", "anew", "(I)V"⟩, 28), (⟨"TransitGateModel", "goesOn", "(IIZ)V"⟩, 28), (⟨"TransitGateModel", "becomes", "(II)V"⟩, 28), (⟨"TransitGateModel", "makeInner", "(III)V"⟩, 28), (⟨"TransitGateModel", "lackOfOutside", "()I"⟩, 28), (⟨"TransitGateModel", "isError", "()Z"⟩, 28), (⟨"TransitGateModel", "isBadError", "()Z"⟩, 28), (⟨"TransitGateModel", "errorCame", "()I"⟩, 28), (⟨"TransitGateModel", "head", "(III)V"⟩, 28), (⟨"TransitGateModel", "finish", "(I)V"⟩, 28)]
theorem lw_r3 : ∀ q ∈ lw_privs_3, lw_okq q := List.forall_mem_cons.mpr ⟨lw_p32, List.forall_mem_cons.mpr ⟨lw_p33, List.forall_mem_cons.mpr ⟨lw_p34, List.forall_mem_cons.mpr ⟨lw_p35, List.forall_mem_cons.mpr ⟨lw_p36, List.forall_mem_cons.mpr ⟨lw_p37, List.forall_mem_cons.mpr ⟨lw_p38, List.forall_mem_cons.mpr ⟨lw_p39, List.forall_mem_cons.mpr ⟨lw_p40, List.forall_mem_cons.mpr ⟨lw_p41, List.forall_mem_cons.mpr ⟨lw_p42, List.forall_mem_cons.mpr ⟨lw_p43, List.forall_mem_cons.mpr ⟨lw_p44, List.forall_mem_cons.mpr ⟨lw_p45, List.forall_mem_cons.mpr ⟨lw_p46, fun _ h => absurd h List.not_mem_nil⟩⟩⟩⟩⟩⟩⟩⟩⟩⟩⟩⟩⟩⟩⟩
def lw_privs : List (MethodName × Nat) := lw_privs_1 ++ (lw_privs_2 ++ (lw_privs_3))
def lw_tbl : List Cond := k2_sels lw_privs ++ tables_1
theorem lw_privs_ok : ∀ q ∈ lw_privs, lw_okq q := by
  show ∀ q ∈ lw_privs_1 ++ (lw_privs_2 ++ (lw_privs_3)), lw_okq q
  exact List.forall_mem_append.mpr ⟨lw_r1, List.forall_mem_append.mpr ⟨lw_r2, lw_r3⟩⟩
end
section
def RX0 : String := "TransitGate$Binding"
def TX0 : u_T := fun k => match k with
  | 0 => ("TransitGate$Binding", "protocol", "I", true)
  | 1 => ("TransitGate$Binding", "innerHigh", "J", true)
  | 2 => ("TransitGate$Binding", "innerLow", "J", true)
  | 3 => ("TransitGate$Binding", "innerPort", "I", true)
  | 4 => ("TransitGate$Binding", "poolNumber", "I", true)
  | _ => ("TransitGate$Binding", "outerPort", "I", true)
def tyX0 : Nat → FieldType := fun k => match k with
  | 0 => .int
  | 1 => .long
  | 2 => .long
  | 3 => .int
  | 4 => .int
  | _ => .int
abbrev wsX00 : List Cond := u_ws RX0 TX0 6
theorem nmX0 : ∀ a, a < 6 → ∀ b, b < 6 → a ≠ b → (TX0 a).2.1 ≠ (TX0 b).2.1 := by decide +kernel
theorem tyX0_ok : ∀ k, k < 6 → parseFieldDescriptor (TX0 k).2.2.1 = some (tyX0 k) := by decide +kernel
abbrev cX0_init : ByteArray := prog_2_method_1_code
def yX0_init : MethodName := ⟨RX0, "<init>", "(LTransitGate$Flow;JJII)V"⟩
abbrev cX0_isOf : ByteArray := prog_2_method_2_code
def yX0_isOf : MethodName := ⟨RX0, "isOf", "(JJ)Z"⟩
def RX1 : String := "TransitGate$Bytes"
def TX1 : u_T := fun k => match k with
  | 0 => ("TransitGate$Bytes", "cells", "[B", true)
  | _ => ("TransitGate$Bytes", "length", "I", false)
def tyX1 : Nat → FieldType := fun k => match k with
  | 0 => .array .byte
  | _ => .int
abbrev wsX10 : List Cond := u_ws RX1 TX1 2
theorem nmX1 : ∀ a, a < 2 → ∀ b, b < 2 → a ≠ b → (TX1 a).2.1 ≠ (TX1 b).2.1 := by decide +kernel
theorem tyX1_ok : ∀ k, k < 2 → parseFieldDescriptor (TX1 k).2.2.1 = some (tyX1 k) := by decide +kernel
abbrev cX1_init : ByteArray := prog_3_method_1_code
def yX1_init : MethodName := ⟨RX1, "<init>", "(I)V"⟩
abbrev cX1_length : ByteArray := prog_3_method_2_code
def yX1_length : MethodName := ⟨RX1, "length", "()I"⟩
abbrev cX1_resize : ByteArray := prog_3_method_3_code
def yX1_resize : MethodName := ⟨RX1, "resize", "(I)V"⟩
abbrev cX1_octet : ByteArray := prog_3_method_4_code
def yX1_octet : MethodName := ⟨RX1, "octet", "(I)I"⟩
abbrev cX1_pair : ByteArray := prog_3_method_5_code
def yX1_pair : MethodName := ⟨RX1, "pair", "(I)I"⟩
abbrev cX1_quad : ByteArray := prog_3_method_6_code
def yX1_quad : MethodName := ⟨RX1, "quad", "(I)I"⟩
abbrev cX1_eight : ByteArray := prog_3_method_7_code
def yX1_eight : MethodName := ⟨RX1, "eight", "(I)J"⟩
abbrev cX1_put : ByteArray := prog_3_method_8_code
def yX1_put : MethodName := ⟨RX1, "put", "(II)V"⟩
abbrev cX1_putPair : ByteArray := prog_3_method_9_code
def yX1_putPair : MethodName := ⟨RX1, "putPair", "(II)V"⟩
abbrev cX1_putQuad : ByteArray := prog_3_method_10_code
def yX1_putQuad : MethodName := ⟨RX1, "putQuad", "(II)V"⟩
abbrev cX1_putEight : ByteArray := prog_3_method_11_code
def yX1_putEight : MethodName := ⟨RX1, "putEight", "(IJ)V"⟩
abbrev cX1_number : ByteArray := prog_3_method_12_code
def yX1_number : MethodName := ⟨RX1, "number", "(II)J"⟩
abbrev cX1_putNumber : ByteArray := prog_3_method_13_code
def yX1_putNumber : MethodName := ⟨RX1, "putNumber", "(IIJ)V"⟩
abbrev cX1_copy : ByteArray := prog_3_method_14_code
def yX1_copy : MethodName := ⟨RX1, "copy", "(LTransitGate$Bytes;III)V"⟩
def RX2 : String := "TransitGate$Flow"
def TX2 : u_T := fun k => match k with
  | 0 => ("TransitGate$Flow", "isFromInside", "Z", true)
  | 1 => ("TransitGate$Flow", "protocol", "I", true)
  | 2 => ("TransitGate$Flow", "port", "I", true)
  | 3 => ("TransitGate$Flow", "farAddress", "I", true)
  | 4 => ("TransitGate$Flow", "farPort", "I", true)
  | _ => ("TransitGate$Flow", "event", "I", true)
def tyX2 : Nat → FieldType := fun k => match k with
  | 0 => .boolean
  | 1 => .int
  | 2 => .int
  | 3 => .int
  | 4 => .int
  | _ => .int
abbrev wsX20 : List Cond := u_ws RX2 TX2 6
theorem nmX2 : ∀ a, a < 6 → ∀ b, b < 6 → a ≠ b → (TX2 a).2.1 ≠ (TX2 b).2.1 := by decide +kernel
theorem tyX2_ok : ∀ k, k < 6 → parseFieldDescriptor (TX2 k).2.2.1 = some (tyX2 k) := by decide +kernel
abbrev cX2_init : ByteArray := prog_4_method_1_code
def yX2_init : MethodName := ⟨RX2, "<init>", "(ZIIIII)V"⟩
abbrev cX2_fromInside : ByteArray := prog_4_method_2_code
def yX2_fromInside : MethodName := ⟨RX2, "fromInside", "(LTransitGate$Bytes;I)LTransitGate$Flow;"⟩
abbrev cX2_fromOutside : ByteArray := prog_4_method_3_code
def yX2_fromOutside : MethodName := ⟨RX2, "fromOutside", "(LTransitGate$Bytes;)LTransitGate$Flow;"⟩
abbrev cX2_mayOpen : ByteArray := prog_4_method_4_code
def yX2_mayOpen : MethodName := ⟨RX2, "mayOpen", "()Z"⟩
def RX3 : String := "TransitGate$Maker"
def TX3 : u_T := fun k => match k with
  | _ => ("", "", "", false)
def tyX3 : Nat → FieldType := fun k => match k with
  | _ => .int
abbrev wsX30 : List Cond := u_ws RX3 TX3 0
theorem nmX3 : ∀ a, a < 0 → ∀ b, b < 0 → a ≠ b → (TX3 a).2.1 ≠ (TX3 b).2.1 := by decide +kernel
theorem tyX3_ok : ∀ k, k < 0 → parseFieldDescriptor (TX3 k).2.2.1 = some (tyX3 k) := by decide +kernel
abbrev cX3_toFour : ByteArray := prog_5_method_2_code
def yX3_toFour : MethodName := ⟨RX3, "toFour", "(LTransitGate$Bytes;LTransitGate$Bytes;LTransitGate$Binding;III)V"⟩
abbrev cX3_toSix : ByteArray := prog_5_method_3_code
def yX3_toSix : MethodName := ⟨RX3, "toSix", "(LTransitGate$Bytes;LTransitGate$Bytes;LTransitGate$Binding;LTransitGate$Site;)V"⟩
abbrev cX3_errorToSix : ByteArray := prog_5_method_4_code
def yX3_errorToSix : MethodName := ⟨RX3, "errorToSix", "(LTransitGate$Bytes;LTransitGate$Bytes;LTransitGate$Binding;LTransitGate$Site;)V"⟩
abbrev cX3_withinToSix : ByteArray := prog_5_method_5_code
def yX3_withinToSix : MethodName := ⟨RX3, "withinToSix", "(LTransitGate$Bytes;LTransitGate$Bytes;LTransitGate$Binding;LTransitGate$Site;)V"⟩
abbrev cX3_putErrorKind : ByteArray := prog_5_method_6_code
def yX3_putErrorKind : MethodName := ⟨RX3, "putErrorKind", "(LTransitGate$Bytes;LTransitGate$Bytes;)V"⟩
abbrev cX3_unreachableCode : ByteArray := prog_5_method_7_code
def yX3_unreachableCode : MethodName := ⟨RX3, "unreachableCode", "(I)I"⟩
abbrev cX3_putSixHead : ByteArray := prog_5_method_8_code
def yX3_putSixHead : MethodName := ⟨RX3, "putSixHead", "(LTransitGate$Bytes;IIIII)V"⟩
abbrev cX3_putEmbedded : ByteArray := prog_5_method_9_code
def yX3_putEmbedded : MethodName := ⟨RX3, "putEmbedded", "(LTransitGate$Bytes;IILTransitGate$Site;)V"⟩
abbrev cX3_putInner : ByteArray := prog_5_method_10_code
def yX3_putInner : MethodName := ⟨RX3, "putInner", "(LTransitGate$Bytes;ILTransitGate$Binding;)V"⟩
def RX4 : String := "TransitGate$Part"
def TX4 : u_T := fun k => match k with
  | _ => ("", "", "", false)
def tyX4 : Nat → FieldType := fun k => match k with
  | _ => .int
abbrev wsX40 : List Cond := u_ws RX4 TX4 0
theorem nmX4 : ∀ a, a < 0 → ∀ b, b < 0 → a ≠ b → (TX4 a).2.1 ≠ (TX4 b).2.1 := by decide +kernel
theorem tyX4_ok : ∀ k, k < 0 → parseFieldDescriptor (TX4 k).2.2.1 = some (tyX4 k) := by decide +kernel
abbrev cX4_headOf : ByteArray := prog_6_method_2_code
def yX4_headOf : MethodName := ⟨RX4, "headOf", "(LTransitGate$Bytes;)I"⟩
abbrev cX4_protocolOf : ByteArray := prog_6_method_3_code
def yX4_protocolOf : MethodName := ⟨RX4, "protocolOf", "(LTransitGate$Bytes;I)I"⟩
abbrev cX4_sumAt : ByteArray := prog_6_method_4_code
def yX4_sumAt : MethodName := ⟨RX4, "sumAt", "(I)I"⟩
abbrev cX4_hasPorts : ByteArray := prog_6_method_5_code
def yX4_hasPorts : MethodName := ⟨RX4, "hasPorts", "(I)Z"⟩
abbrev cX4_sourcePortAt : ByteArray := prog_6_method_6_code
def yX4_sourcePortAt : MethodName := ⟨RX4, "sourcePortAt", "(I)I"⟩
abbrev cX4_destinationPortAt : ByteArray := prog_6_method_7_code
def yX4_destinationPortAt : MethodName := ⟨RX4, "destinationPortAt", "(I)I"⟩
abbrev cX4_sourcePort : ByteArray := prog_6_method_8_code
def yX4_sourcePort : MethodName := ⟨RX4, "sourcePort", "(LTransitGate$Bytes;II)I"⟩
abbrev cX4_destinationPort : ByteArray := prog_6_method_9_code
def yX4_destinationPort : MethodName := ⟨RX4, "destinationPort", "(LTransitGate$Bytes;II)I"⟩
abbrev cX4_isSoundTcp : ByteArray := prog_6_method_10_code
def yX4_isSoundTcp : MethodName := ⟨RX4, "isSoundTcp", "(LTransitGate$Bytes;I)Z"⟩
abbrev cX4_isSoundUdp : ByteArray := prog_6_method_11_code
def yX4_isSoundUdp : MethodName := ⟨RX4, "isSoundUdp", "(LTransitGate$Bytes;I)Z"⟩
abbrev cX4_isLongEnoughIcmp : ByteArray := prog_6_method_12_code
def yX4_isLongEnoughIcmp : MethodName := ⟨RX4, "isLongEnoughIcmp", "(LTransitGate$Bytes;I)Z"⟩
abbrev cX4_isError : ByteArray := prog_6_method_13_code
def yX4_isError : MethodName := ⟨RX4, "isError", "(LTransitGate$Bytes;)Z"⟩
abbrev cX4_eventOf : ByteArray := prog_6_method_14_code
def yX4_eventOf : MethodName := ⟨RX4, "eventOf", "(LTransitGate$Bytes;II)I"⟩
def RX5 : String := "TransitGate$Pool"
def TX5 : u_T := fun k => match k with
  | 0 => ("TransitGate$Pool", "rows", "[I", true)
  | _ => ("TransitGate$Pool", "used", "I", false)
def tyX5 : Nat → FieldType := fun k => match k with
  | 0 => .array .int
  | _ => .int
abbrev wsX50 : List Cond := u_ws RX5 TX5 2
theorem nmX5 : ∀ a, a < 2 → ∀ b, b < 2 → a ≠ b → (TX5 a).2.1 ≠ (TX5 b).2.1 := by decide +kernel
theorem tyX5_ok : ∀ k, k < 2 → parseFieldDescriptor (TX5 k).2.2.1 = some (tyX5 k) := by decide +kernel
abbrev cX5_init : ByteArray := prog_7_method_1_code
def yX5_init : MethodName := ⟨RX5, "<init>", "()V"⟩
abbrev cX5_isOdd : ByteArray := prog_7_method_2_code
def yX5_isOdd : MethodName := ⟨RX5, "isOdd", "(I)Z"⟩
abbrev cX5_size : ByteArray := prog_7_method_3_code
def yX5_size : MethodName := ⟨RX5, "size", "()I"⟩
abbrev cX5_at : ByteArray := prog_7_method_4_code
def yX5_at : MethodName := ⟨RX5, "at", "(I)I"⟩
abbrev cX5_numberOf : ByteArray := prog_7_method_5_code
def yX5_numberOf : MethodName := ⟨RX5, "numberOf", "(I)I"⟩
abbrev cX5_has : ByteArray := prog_7_method_6_code
def yX5_has : MethodName := ⟨RX5, "has", "(I)Z"⟩
abbrev cX5_join : ByteArray := prog_7_method_7_code
def yX5_join : MethodName := ⟨RX5, "join", "(I)I"⟩
def RX6 : String := "TransitGate$Rules"
def TX6 : u_T := fun k => match k with
  | _ => ("", "", "", false)
def tyX6 : Nat → FieldType := fun k => match k with
  | _ => .int
abbrev wsX60 : List Cond := u_ws RX6 TX6 0
theorem nmX6 : ∀ a, a < 0 → ∀ b, b < 0 → a ≠ b → (TX6 a).2.1 ≠ (TX6 b).2.1 := by decide +kernel
theorem tyX6_ok : ∀ k, k < 0 → parseFieldDescriptor (TX6 k).2.2.1 = some (tyX6 k) := by decide +kernel
abbrev cX6_faultFromInside : ByteArray := prog_8_method_2_code
def yX6_faultFromInside : MethodName := ⟨RX6, "faultFromInside", "(LTransitGate$Bytes;LTransitGate$Site;LTransitGate$Pool;)I"⟩
abbrev cX6_faultFromOutside : ByteArray := prog_8_method_3_code
def yX6_faultFromOutside : MethodName := ⟨RX6, "faultFromOutside", "(LTransitGate$Bytes;LTransitGate$Site;LTransitGate$Pool;)I"⟩
abbrev cX6_isFramedSix : ByteArray := prog_8_method_4_code
def yX6_isFramedSix : MethodName := ⟨RX6, "isFramedSix", "(LTransitGate$Bytes;)Z"⟩
abbrev cX6_isKnownSix : ByteArray := prog_8_method_5_code
def yX6_isKnownSix : MethodName := ⟨RX6, "isKnownSix", "(LTransitGate$Bytes;)Z"⟩
abbrev cX6_isEchoSix : ByteArray := prog_8_method_6_code
def yX6_isEchoSix : MethodName := ⟨RX6, "isEchoSix", "(LTransitGate$Bytes;)Z"⟩
abbrev cX6_isPlacedSix : ByteArray := prog_8_method_7_code
def yX6_isPlacedSix : MethodName := ⟨RX6, "isPlacedSix", "(LTransitGate$Bytes;LTransitGate$Site;LTransitGate$Pool;)Z"⟩
abbrev cX6_isFramedFour : ByteArray := prog_8_method_8_code
def yX6_isFramedFour : MethodName := ⟨RX6, "isFramedFour", "(LTransitGate$Bytes;)Z"⟩
abbrev cX6_isKnownFour : ByteArray := prog_8_method_9_code
def yX6_isKnownFour : MethodName := ⟨RX6, "isKnownFour", "(LTransitGate$Bytes;)Z"⟩
abbrev cX6_isKnownIcmpFour : ByteArray := prog_8_method_10_code
def yX6_isKnownIcmpFour : MethodName := ⟨RX6, "isKnownIcmpFour", "(LTransitGate$Bytes;)Z"⟩
abbrev cX6_hasKnownWithin : ByteArray := prog_8_method_11_code
def yX6_hasKnownWithin : MethodName := ⟨RX6, "hasKnownWithin", "(LTransitGate$Bytes;)Z"⟩
abbrev cX6_isPlacedFour : ByteArray := prog_8_method_12_code
def yX6_isPlacedFour : MethodName := ⟨RX6, "isPlacedFour", "(LTransitGate$Bytes;LTransitGate$Site;LTransitGate$Pool;)Z"⟩
def RX7 : String := "TransitGate$Session"
def TX7 : u_T := fun k => match k with
  | 0 => ("TransitGate$Session", "owner", "LTransitGate$Binding;", true)
  | 1 => ("TransitGate$Session", "farAddress", "I", true)
  | 2 => ("TransitGate$Session", "farPort", "I", true)
  | 3 => ("TransitGate$Session", "state", "I", false)
  | _ => ("TransitGate$Session", "end", "J", false)
def tyX7 : Nat → FieldType := fun k => match k with
  | 0 => .object "TransitGate$Binding"
  | 1 => .int
  | 2 => .int
  | 3 => .int
  | _ => .long
abbrev wsX70 : List Cond := u_ws RX7 TX7 5
theorem nmX7 : ∀ a, a < 5 → ∀ b, b < 5 → a ≠ b → (TX7 a).2.1 ≠ (TX7 b).2.1 := by decide +kernel
theorem tyX7_ok : ∀ k, k < 5 → parseFieldDescriptor (TX7 k).2.2.1 = some (tyX7 k) := by decide +kernel
abbrev cX7_init : ByteArray := prog_9_method_1_code
def yX7_init : MethodName := ⟨RX7, "<init>", "(LTransitGate$Binding;LTransitGate$Flow;J)V"⟩
abbrev cX7_meet : ByteArray := prog_9_method_2_code
def yX7_meet : MethodName := ⟨RX7, "meet", "(LTransitGate$Flow;J)V"⟩
abbrev cX7_firstState : ByteArray := prog_9_method_3_code
def yX7_firstState : MethodName := ⟨RX7, "firstState", "(LTransitGate$Flow;)I"⟩
abbrev cX7_stateAfter : ByteArray := prog_9_method_4_code
def yX7_stateAfter : MethodName := ⟨RX7, "stateAfter", "(IZ)I"⟩
abbrev cX7_lifetime : ByteArray := prog_9_method_5_code
def yX7_lifetime : MethodName := ⟨RX7, "lifetime", "(II)I"⟩
def RX8 : String := "TransitGate$Site"
def TX8 : u_T := fun k => match k with
  | 0 => ("TransitGate$Site", "first", "J", false)
  | 1 => ("TransitGate$Site", "second", "J", false)
  | 2 => ("TransitGate$Site", "bits", "I", false)
  | _ => ("TransitGate$Site", "behindByte8", "I", false)
def tyX8 : Nat → FieldType := fun k => match k with
  | 0 => .long
  | 1 => .long
  | 2 => .int
  | _ => .int
abbrev wsX80 : List Cond := u_ws RX8 TX8 4
theorem nmX8 : ∀ a, a < 4 → ∀ b, b < 4 → a ≠ b → (TX8 a).2.1 ≠ (TX8 b).2.1 := by decide +kernel
theorem tyX8_ok : ∀ k, k < 4 → parseFieldDescriptor (TX8 k).2.2.1 = some (tyX8 k) := by decide +kernel
abbrev cX8_init : ByteArray := prog_10_method_1_code
def yX8_init : MethodName := ⟨RX8, "<init>", "()V"⟩
abbrev cX8_bits : ByteArray := prog_10_method_2_code
def yX8_bits : MethodName := ⟨RX8, "bits", "()I"⟩
abbrev cX8_isSet : ByteArray := prog_10_method_3_code
def yX8_isSet : MethodName := ⟨RX8, "isSet", "()Z"⟩
abbrev cX8_settle : ByteArray := prog_10_method_4_code
def yX8_settle : MethodName := ⟨RX8, "settle", "(JJI)Z"⟩
abbrev cX8_embedHigh : ByteArray := prog_10_method_5_code
def yX8_embedHigh : MethodName := ⟨RX8, "embedHigh", "(I)J"⟩
abbrev cX8_embedLow : ByteArray := prog_10_method_6_code
def yX8_embedLow : MethodName := ⟨RX8, "embedLow", "(I)J"⟩
abbrev cX8_draw : ByteArray := prog_10_method_7_code
def yX8_draw : MethodName := ⟨RX8, "draw", "(JJ)J"⟩
abbrev cX8_covers : ByteArray := prog_10_method_8_code
def yX8_covers : MethodName := ⟨RX8, "covers", "(JJ)Z"⟩
abbrev cX8_headMask : ByteArray := prog_10_method_9_code
def yX8_headMask : MethodName := ⟨RX8, "headMask", "(I)J"⟩
abbrev cX8_tailMask : ByteArray := prog_10_method_10_code
def yX8_tailMask : MethodName := ⟨RX8, "tailMask", "(I)J"⟩
def RX9 : String := "TransitGate$Sums"
def TX9 : u_T := fun k => match k with
  | _ => ("", "", "", false)
def tyX9 : Nat → FieldType := fun k => match k with
  | _ => .int
abbrev wsX90 : List Cond := u_ws RX9 TX9 0
theorem nmX9 : ∀ a, a < 0 → ∀ b, b < 0 → a ≠ b → (TX9 a).2.1 ≠ (TX9 b).2.1 := by decide +kernel
theorem tyX9_ok : ∀ k, k < 0 → parseFieldDescriptor (TX9 k).2.2.1 = some (tyX9 k) := by decide +kernel
abbrev cX9_ofHead : ByteArray := prog_11_method_2_code
def yX9_ofHead : MethodName := ⟨RX9, "ofHead", "(LTransitGate$Bytes;)I"⟩
abbrev cX9_ofPart : ByteArray := prog_11_method_3_code
def yX9_ofPart : MethodName := ⟨RX9, "ofPart", "(LTransitGate$Bytes;III)I"⟩
abbrev cX9_headIsRight : ByteArray := prog_11_method_4_code
def yX9_headIsRight : MethodName := ⟨RX9, "headIsRight", "(LTransitGate$Bytes;)Z"⟩
abbrev cX9_partIsRight : ByteArray := prog_11_method_5_code
def yX9_partIsRight : MethodName := ⟨RX9, "partIsRight", "(LTransitGate$Bytes;I)Z"⟩
abbrev cX9_putPart : ByteArray := prog_11_method_6_code
def yX9_putPart : MethodName := ⟨RX9, "putPart", "(LTransitGate$Bytes;I)V"⟩
abbrev cX9_words : ByteArray := prog_11_method_7_code
def yX9_words : MethodName := ⟨RX9, "words", "(LTransitGate$Bytes;III)I"⟩
abbrev cX9_closed : ByteArray := prog_11_method_8_code
def yX9_closed : MethodName := ⟨RX9, "closed", "(I)I"⟩
def RX10 : String := "TransitGate$Table"
def TX10 : u_T := fun k => match k with
  | 0 => ("TransitGate$Table", "bindings", "Ljava/util/ArrayList;", true)
  | 1 => ("TransitGate$Table", "sessions", "Ljava/util/ArrayList;", true)
  | _ => ("TransitGate$Table", "time", "J", false)
def tyX10 : Nat → FieldType := fun k => match k with
  | 0 => .object "java/util/ArrayList"
  | 1 => .object "java/util/ArrayList"
  | _ => .long
abbrev wsX100 : List Cond := u_ws RX10 TX10 3
theorem nmX10 : ∀ a, a < 3 → ∀ b, b < 3 → a ≠ b → (TX10 a).2.1 ≠ (TX10 b).2.1 := by decide +kernel
theorem tyX10_ok : ∀ k, k < 3 → parseFieldDescriptor (TX10 k).2.2.1 = some (tyX10 k) := by decide +kernel
abbrev cX10_init : ByteArray := prog_12_method_1_code
def yX10_init : MethodName := ⟨RX10, "<init>", "()V"⟩
abbrev cX10_time : ByteArray := prog_12_method_2_code
def yX10_time : MethodName := ⟨RX10, "time", "()J"⟩
abbrev cX10_bindingCount : ByteArray := prog_12_method_3_code
def yX10_bindingCount : MethodName := ⟨RX10, "bindingCount", "()I"⟩
abbrev cX10_sessionCount : ByteArray := prog_12_method_4_code
def yX10_sessionCount : MethodName := ⟨RX10, "sessionCount", "()I"⟩
abbrev cX10_bindingAt : ByteArray := prog_12_method_5_code
def yX10_bindingAt : MethodName := ⟨RX10, "bindingAt", "(I)LTransitGate$Binding;"⟩
abbrev cX10_sessionAt : ByteArray := prog_12_method_6_code
def yX10_sessionAt : MethodName := ⟨RX10, "sessionAt", "(I)LTransitGate$Session;"⟩
abbrev cX10_forget : ByteArray := prog_12_method_7_code
def yX10_forget : MethodName := ⟨RX10, "forget", "()V"⟩
abbrev cX10_numberOf : ByteArray := prog_12_method_8_code
def yX10_numberOf : MethodName := ⟨RX10, "numberOf", "(LTransitGate$Binding;)I"⟩
abbrev cX10_sessionsOf : ByteArray := prog_12_method_9_code
def yX10_sessionsOf : MethodName := ⟨RX10, "sessionsOf", "(LTransitGate$Binding;)I"⟩
abbrev cX10_pass : ByteArray := prog_12_method_10_code
def yX10_pass : MethodName := ⟨RX10, "pass", "(I)I"⟩
abbrev cX10_letIdleBindingsGo : ByteArray := prog_12_method_11_code
def yX10_letIdleBindingsGo : MethodName := ⟨RX10, "letIdleBindingsGo", "()V"⟩
abbrev cX10_admitFromInside : ByteArray := prog_12_method_12_code
def yX10_admitFromInside : MethodName := ⟨RX10, "admitFromInside", "(LTransitGate$Flow;JJI)LTransitGate$Binding;"⟩
abbrev cX10_admitFromOutside : ByteArray := prog_12_method_13_code
def yX10_admitFromOutside : MethodName := ⟨RX10, "admitFromOutside", "(LTransitGate$Flow;I)LTransitGate$Binding;"⟩
abbrev cX10_byOuter : ByteArray := prog_12_method_14_code
def yX10_byOuter : MethodName := ⟨RX10, "byOuter", "(III)LTransitGate$Binding;"⟩
abbrev cX10_byInner : ByteArray := prog_12_method_15_code
def yX10_byInner : MethodName := ⟨RX10, "byInner", "(LTransitGate$Flow;JJ)LTransitGate$Binding;"⟩
abbrev cX10_meetsSession : ByteArray := prog_12_method_16_code
def yX10_meetsSession : MethodName := ⟨RX10, "meetsSession", "(LTransitGate$Binding;LTransitGate$Flow;)Z"⟩
abbrev cX10_mayAddSession : ByteArray := prog_12_method_17_code
def yX10_mayAddSession : MethodName := ⟨RX10, "mayAddSession", "(LTransitGate$Flow;)Z"⟩
abbrev cX10_bind : ByteArray := prog_12_method_18_code
def yX10_bind : MethodName := ⟨RX10, "bind", "(LTransitGate$Flow;JJI)LTransitGate$Binding;"⟩
abbrev cX10_numberFor : ByteArray := prog_12_method_19_code
def yX10_numberFor : MethodName := ⟨RX10, "numberFor", "(JJI)I"⟩
abbrev cX10_bindingsAt : ByteArray := prog_12_method_20_code
def yX10_bindingsAt : MethodName := ⟨RX10, "bindingsAt", "(I)I"⟩
abbrev cX10_freePort : ByteArray := prog_12_method_21_code
def yX10_freePort : MethodName := ⟨RX10, "freePort", "(LTransitGate$Flow;I)I"⟩
abbrev cX10_firstPort : ByteArray := prog_12_method_22_code
def yX10_firstPort : MethodName := ⟨RX10, "firstPort", "(LTransitGate$Flow;)I"⟩
def RX11 : String := "TransitGate"
def TX11 : u_T := fun k => match k with
  | 0 => ("TransitGate", "tape", "LTransitGate$Bytes;", true)
  | 1 => ("TransitGate", "out", "LTransitGate$Bytes;", true)
  | 2 => ("TransitGate", "site", "LTransitGate$Site;", true)
  | 3 => ("TransitGate", "addresses", "LTransitGate$Pool;", true)
  | 4 => ("TransitGate", "table", "LTransitGate$Table;", true)
  | 5 => ("TransitGate", "dropped", "[I", true)
  | 6 => ("TransitGate", "made", "I", false)
  | _ => ("TransitGate", "identification", "I", false)
def tyX11 : Nat → FieldType := fun k => match k with
  | 0 => .object "TransitGate$Bytes"
  | 1 => .object "TransitGate$Bytes"
  | 2 => .object "TransitGate$Site"
  | 3 => .object "TransitGate$Pool"
  | 4 => .object "TransitGate$Table"
  | 5 => .array .int
  | 6 => .int
  | _ => .int
abbrev wsX110 : List Cond := u_ws RX11 TX11 8
theorem nmX11 : ∀ a, a < 8 → ∀ b, b < 8 → a ≠ b → (TX11 a).2.1 ≠ (TX11 b).2.1 := by decide +kernel
theorem tyX11_ok : ∀ k, k < 8 → parseFieldDescriptor (TX11 k).2.2.1 = some (tyX11 k) := by decide +kernel
abbrev cX11_init : ByteArray := prog_1_method_1_code
def yX11_init : MethodName := ⟨RX11, "<init>", "()V"⟩
abbrev cX11_prefix : ByteArray := prog_1_method_2_code
def yX11_prefix : MethodName := ⟨RX11, "prefix", "(JJI)Z"⟩
abbrev cX11_pool : ByteArray := prog_1_method_3_code
def yX11_pool : MethodName := ⟨RX11, "pool", "(I)I"⟩
abbrev cX11_high : ByteArray := prog_1_method_4_code
def yX11_high : MethodName := ⟨RX11, "high", "(I)J"⟩
abbrev cX11_low : ByteArray := prog_1_method_5_code
def yX11_low : MethodName := ⟨RX11, "low", "(I)J"⟩
abbrev cX11_drawn : ByteArray := prog_1_method_6_code
def yX11_drawn : MethodName := ⟨RX11, "drawn", "(JJ)J"⟩
abbrev cX11_feed : ByteArray := prog_1_method_7_code
def yX11_feed : MethodName := ⟨RX11, "feed", "(IIIII)Z"⟩
abbrev cX11_inside : ByteArray := prog_1_method_8_code
def yX11_inside : MethodName := ⟨RX11, "inside", "(I)I"⟩
abbrev cX11_outside : ByteArray := prog_1_method_9_code
def yX11_outside : MethodName := ⟨RX11, "outside", "(I)I"⟩
abbrev cX11_word : ByteArray := prog_1_method_10_code
def yX11_word : MethodName := ⟨RX11, "word", "(I)I"⟩
abbrev cX11_take : ByteArray := prog_1_method_11_code
def yX11_take : MethodName := ⟨RX11, "take", "()I"⟩
abbrev cX11_bend : ByteArray := prog_1_method_12_code
def yX11_bend : MethodName := ⟨RX11, "bend", "(II)I"⟩
abbrev cX11_sign : ByteArray := prog_1_method_13_code
def yX11_sign : MethodName := ⟨RX11, "sign", "(II)I"⟩
abbrev cX11_signHead : ByteArray := prog_1_method_14_code
def yX11_signHead : MethodName := ⟨RX11, "signHead", "()I"⟩
abbrev cX11_tick : ByteArray := prog_1_method_15_code
def yX11_tick : MethodName := ⟨RX11, "tick", "(I)I"⟩
abbrev cX11_binding : ByteArray := prog_1_method_16_code
def yX11_binding : MethodName := ⟨RX11, "binding", "(II)I"⟩
abbrev cX11_inner : ByteArray := prog_1_method_17_code
def yX11_inner : MethodName := ⟨RX11, "inner", "(IZ)J"⟩
abbrev cX11_session : ByteArray := prog_1_method_18_code
def yX11_session : MethodName := ⟨RX11, "session", "(II)I"⟩
abbrev cX11_count : ByteArray := prog_1_method_19_code
def yX11_count : MethodName := ⟨RX11, "count", "(I)I"⟩
abbrev cX11_closePacket : ByteArray := prog_1_method_20_code
def yX11_closePacket : MethodName := ⟨RX11, "closePacket", "(I)I"⟩
abbrev cX11_passFromInside : ByteArray := prog_1_method_21_code
def yX11_passFromInside : MethodName := ⟨RX11, "passFromInside", "()I"⟩
abbrev cX11_passFromOutside : ByteArray := prog_1_method_22_code
def yX11_passFromOutside : MethodName := ⟨RX11, "passFromOutside", "()I"⟩
abbrev cX11_passError : ByteArray := prog_1_method_23_code
def yX11_passError : MethodName := ⟨RX11, "passError", "()I"⟩
def RX12 : String := "TransitGateModel"
def TX12 : u_T := fun k => match k with
  | 0 => ("TransitGateModel", "tape", "[B", true)
  | 1 => ("TransitGateModel", "taped", "I", false)
  | 2 => ("TransitGateModel", "out", "[B", true)
  | 3 => ("TransitGateModel", "outSize", "I", false)
  | 4 => ("TransitGateModel", "in", "[B", true)
  | 5 => ("TransitGateModel", "size", "I", false)
  | 6 => ("TransitGateModel", "bits", "I", false)
  | 7 => ("TransitGateModel", "prefixHigh", "J", false)
  | 8 => ("TransitGateModel", "prefixLow", "J", false)
  | 9 => ("TransitGateModel", "pools", "I", false)
  | 10 => ("TransitGateModel", "pool", "[I", true)
  | 11 => ("TransitGateModel", "bindings", "I", false)
  | 12 => ("TransitGateModel", "protocol", "[I", true)
  | 13 => ("TransitGateModel", "innerHigh", "[J", true)
  | 14 => ("TransitGateModel", "innerLow", "[J", true)
  | 15 => ("TransitGateModel", "innerPort", "[I", true)
  | 16 => ("TransitGateModel", "outer", "[I", true)
  | 17 => ("TransitGateModel", "outerPort", "[I", true)
  | 18 => ("TransitGateModel", "sessions", "I", false)
  | 19 => ("TransitGateModel", "bindingOf", "[I", true)
  | 20 => ("TransitGateModel", "far", "[I", true)
  | 21 => ("TransitGateModel", "farPort", "[I", true)
  | 22 => ("TransitGateModel", "state", "[I", true)
  | 23 => ("TransitGateModel", "end", "[I", true)
  | 24 => ("TransitGateModel", "time", "I", false)
  | 25 => ("TransitGateModel", "made", "I", false)
  | 26 => ("TransitGateModel", "dropped", "[I", true)
  | _ => ("TransitGateModel", "identification", "I", false)
def tyX12 : Nat → FieldType := fun k => match k with
  | 0 => .array .byte
  | 1 => .int
  | 2 => .array .byte
  | 3 => .int
  | 4 => .array .byte
  | 5 => .int
  | 6 => .int
  | 7 => .long
  | 8 => .long
  | 9 => .int
  | 10 => .array .int
  | 11 => .int
  | 12 => .array .int
  | 13 => .array .long
  | 14 => .array .long
  | 15 => .array .int
  | 16 => .array .int
  | 17 => .array .int
  | 18 => .int
  | 19 => .array .int
  | 20 => .array .int
  | 21 => .array .int
  | 22 => .array .int
  | 23 => .array .int
  | 24 => .int
  | 25 => .int
  | 26 => .array .int
  | _ => .int
abbrev wsX120 : List Cond := u_ws RX12 TX12 28
theorem nmX12 : ∀ a, a < 28 → ∀ b, b < 28 → a ≠ b → (TX12 a).2.1 ≠ (TX12 b).2.1 := by decide +kernel
theorem tyX12_ok : ∀ k, k < 28 → parseFieldDescriptor (TX12 k).2.2.1 = some (tyX12 k) := by decide +kernel
abbrev cX12_init : ByteArray := prog_14_method_1_code
def yX12_init : MethodName := ⟨RX12, "<init>", "()V"⟩
abbrev cX12_isIn : ByteArray := prog_14_method_3_code
def yX12_isIn : MethodName := ⟨RX12, "isIn", "(JJJ)Z"⟩
abbrev cX12_placeOf : ByteArray := prog_14_method_4_code
def yX12_placeOf : MethodName := ⟨RX12, "placeOf", "(I)I"⟩
abbrev cX12_byteOf : ByteArray := prog_14_method_5_code
def yX12_byteOf : MethodName := ⟨RX12, "byteOf", "(JJI)I"⟩
abbrev cX12_with : ByteArray := prog_14_method_6_code
def yX12_with : MethodName := ⟨RX12, "with", "(JII)J"⟩
abbrev cX12_prefix : ByteArray := prog_14_method_7_code
def yX12_prefix : MethodName := ⟨RX12, "prefix", "(JJI)Z"⟩
abbrev cX12_isOdd : ByteArray := prog_14_method_8_code
def yX12_isOdd : MethodName := ⟨RX12, "isOdd", "(I)Z"⟩
abbrev cX12_poolOf : ByteArray := prog_14_method_9_code
def yX12_poolOf : MethodName := ⟨RX12, "poolOf", "(I)I"⟩
abbrev cX12_pool : ByteArray := prog_14_method_10_code
def yX12_pool : MethodName := ⟨RX12, "pool", "(I)I"⟩
abbrev cX12_high : ByteArray := prog_14_method_11_code
def yX12_high : MethodName := ⟨RX12, "high", "(I)J"⟩
abbrev cX12_low : ByteArray := prog_14_method_12_code
def yX12_low : MethodName := ⟨RX12, "low", "(I)J"⟩
abbrev cX12_isOfPrefix : ByteArray := prog_14_method_13_code
def yX12_isOfPrefix : MethodName := ⟨RX12, "isOfPrefix", "(JJ)Z"⟩
abbrev cX12_drawnOf : ByteArray := prog_14_method_14_code
def yX12_drawnOf : MethodName := ⟨RX12, "drawnOf", "(JJ)I"⟩
abbrev cX12_drawn : ByteArray := prog_14_method_15_code
def yX12_drawn : MethodName := ⟨RX12, "drawn", "(JJ)J"⟩
abbrev cX12_feed : ByteArray := prog_14_method_16_code
def yX12_feed : MethodName := ⟨RX12, "feed", "(IIIII)Z"⟩
abbrev cX12_begin : ByteArray := prog_14_method_17_code
def yX12_begin : MethodName := ⟨RX12, "begin", "(I)V"⟩
abbrev cX12_at : ByteArray := prog_14_method_18_code
def yX12_at : MethodName := ⟨RX12, "at", "([BI)I"⟩
abbrev cX12_two : ByteArray := prog_14_method_19_code
def yX12_two : MethodName := ⟨RX12, "two", "([BI)I"⟩
abbrev cX12_four : ByteArray := prog_14_method_20_code
def yX12_four : MethodName := ⟨RX12, "four", "([BI)I"⟩
abbrev cX12_eight : ByteArray := prog_14_method_21_code
def yX12_eight : MethodName := ⟨RX12, "eight", "([BI)J"⟩
abbrev cX12_put : ByteArray := prog_14_method_22_code
def yX12_put : MethodName := ⟨RX12, "put", "([BIIJ)V"⟩
abbrev cX12_words : ByteArray := prog_14_method_23_code
def yX12_words : MethodName := ⟨RX12, "words", "([BIII)J"⟩
abbrev cX12_folded : ByteArray := prog_14_method_24_code
def yX12_folded : MethodName := ⟨RX12, "folded", "(J)I"⟩
abbrev cX12_sumOf : ByteArray := prog_14_method_25_code
def yX12_sumOf : MethodName := ⟨RX12, "sumOf", "([BIIII)I"⟩
abbrev cX12_placeOfSum : ByteArray := prog_14_method_26_code
def yX12_placeOfSum : MethodName := ⟨RX12, "placeOfSum", "(I)I"⟩
abbrev cX12_isRight : ByteArray := prog_14_method_27_code
def yX12_isRight : MethodName := ⟨RX12, "isRight", "(II)Z"⟩
abbrev cX12_headSum : ByteArray := prog_14_method_28_code
def yX12_headSum : MethodName := ⟨RX12, "headSum", "([B)I"⟩
abbrev cX12_sessionsOf : ByteArray := prog_14_method_29_code
def yX12_sessionsOf : MethodName := ⟨RX12, "sessionsOf", "(I)I"⟩
abbrev cX12_findInner : ByteArray := prog_14_method_30_code
def yX12_findInner : MethodName := ⟨RX12, "findInner", "(IJJI)I"⟩
abbrev cX12_findOuter : ByteArray := prog_14_method_31_code
def yX12_findOuter : MethodName := ⟨RX12, "findOuter", "(III)I"⟩
abbrev cX12_findSession : ByteArray := prog_14_method_32_code
def yX12_findSession : MethodName := ⟨RX12, "findSession", "(III)I"⟩
abbrev cX12_bestPool : ByteArray := prog_14_method_33_code
def yX12_bestPool : MethodName := ⟨RX12, "bestPool", "(JJ)I"⟩
abbrev cX12_makeBinding : ByteArray := prog_14_method_34_code
def yX12_makeBinding : MethodName := ⟨RX12, "makeBinding", "(IJJI)I"⟩
abbrev cX12_makeSession : ByteArray := prog_14_method_35_code
def yX12_makeSession : MethodName := ⟨RX12, "makeSession", "(IIIZ)I"⟩
abbrev cX12_anew : ByteArray := prog_14_method_36_code
def yX12_anew : MethodName := ⟨RX12, "anew", "(I)V"⟩
abbrev cX12_becomes : ByteArray := prog_14_method_37_code
def yX12_becomes : MethodName := ⟨RX12, "becomes", "(II)V"⟩
abbrev cX12_kindOf : ByteArray := prog_14_method_38_code
def yX12_kindOf : MethodName := ⟨RX12, "kindOf", "([BI)I"⟩
abbrev cX12_goesOn : ByteArray := prog_14_method_39_code
def yX12_goesOn : MethodName := ⟨RX12, "goesOn", "(IIZ)V"⟩
abbrev cX12_sweep : ByteArray := prog_14_method_40_code
def yX12_sweep : MethodName := ⟨RX12, "sweep", "()I"⟩
abbrev cX12_dropBinding : ByteArray := prog_14_method_41_code
def yX12_dropBinding : MethodName := ⟨RX12, "dropBinding", "(I)V"⟩
abbrev cX12_tick : ByteArray := prog_14_method_42_code
def yX12_tick : MethodName := ⟨RX12, "tick", "(I)I"⟩
abbrev cX12_drops : ByteArray := prog_14_method_43_code
def yX12_drops : MethodName := ⟨RX12, "drops", "(I)I"⟩
abbrev cX12_isBadPart : ByteArray := prog_14_method_44_code
def yX12_isBadPart : MethodName := ⟨RX12, "isBadPart", "(II)Z"⟩
abbrev cX12_lackOfInside : ByteArray := prog_14_method_45_code
def yX12_lackOfInside : MethodName := ⟨RX12, "lackOfInside", "()I"⟩
abbrev cX12_inside : ByteArray := prog_14_method_46_code
def yX12_inside : MethodName := ⟨RX12, "inside", "(I)I"⟩
abbrev cX12_makeInner : ByteArray := prog_14_method_47_code
def yX12_makeInner : MethodName := ⟨RX12, "makeInner", "(III)V"⟩
abbrev cX12_isError : ByteArray := prog_14_method_48_code
def yX12_isError : MethodName := ⟨RX12, "isError", "()Z"⟩
abbrev cX12_isBadError : ByteArray := prog_14_method_49_code
def yX12_isBadError : MethodName := ⟨RX12, "isBadError", "()Z"⟩
abbrev cX12_lackOfOutside : ByteArray := prog_14_method_50_code
def yX12_lackOfOutside : MethodName := ⟨RX12, "lackOfOutside", "()I"⟩
abbrev cX12_outside : ByteArray := prog_14_method_51_code
def yX12_outside : MethodName := ⟨RX12, "outside", "(I)I"⟩
abbrev cX12_head : ByteArray := prog_14_method_52_code
def yX12_head : MethodName := ⟨RX12, "head", "(III)V"⟩
abbrev cX12_finish : ByteArray := prog_14_method_53_code
def yX12_finish : MethodName := ⟨RX12, "finish", "(I)V"⟩
abbrev cX12_errorCame : ByteArray := prog_14_method_54_code
def yX12_errorCame : MethodName := ⟨RX12, "errorCame", "()I"⟩
abbrev cX12_word : ByteArray := prog_14_method_55_code
def yX12_word : MethodName := ⟨RX12, "word", "(I)I"⟩
abbrev cX12_take : ByteArray := prog_14_method_56_code
def yX12_take : MethodName := ⟨RX12, "take", "()I"⟩
abbrev cX12_bend : ByteArray := prog_14_method_57_code
def yX12_bend : MethodName := ⟨RX12, "bend", "(II)I"⟩
abbrev cX12_sign : ByteArray := prog_14_method_58_code
def yX12_sign : MethodName := ⟨RX12, "sign", "(II)I"⟩
abbrev cX12_signHead : ByteArray := prog_14_method_59_code
def yX12_signHead : MethodName := ⟨RX12, "signHead", "()I"⟩
abbrev cX12_binding : ByteArray := prog_14_method_60_code
def yX12_binding : MethodName := ⟨RX12, "binding", "(II)I"⟩
abbrev cX12_inner : ByteArray := prog_14_method_61_code
def yX12_inner : MethodName := ⟨RX12, "inner", "(IZ)J"⟩
abbrev cX12_session : ByteArray := prog_14_method_62_code
def yX12_session : MethodName := ⟨RX12, "session", "(II)I"⟩
abbrev cX12_count : ByteArray := prog_14_method_63_code
def yX12_count : MethodName := ⟨RX12, "count", "(I)I"⟩
def RJx145de : String := "java/io/Serializable"
def TJx145de : u_T := fun k => match k with
  | _ => ("", "", "", false)
def tyJx145de : Nat → FieldType := fun k => match k with
  | _ => .int
abbrev wsJx145de0 : List Cond := u_ws RJx145de TJx145de 0
theorem nmJx145de : ∀ a, a < 0 → ∀ b, b < 0 → a ≠ b → (TJx145de a).2.1 ≠ (TJx145de b).2.1 := by decide +kernel
theorem tyJx145de_ok : ∀ k, k < 0 → parseFieldDescriptor (TJx145de k).2.2.1 = some (tyJx145de k) := by decide +kernel
def RJx8e188 : String := "java/lang/Cloneable"
def TJx8e188 : u_T := fun k => match k with
  | _ => ("", "", "", false)
def tyJx8e188 : Nat → FieldType := fun k => match k with
  | _ => .int
abbrev wsJx8e1880 : List Cond := u_ws RJx8e188 TJx8e188 0
theorem nmJx8e188 : ∀ a, a < 0 → ∀ b, b < 0 → a ≠ b → (TJx8e188 a).2.1 ≠ (TJx8e188 b).2.1 := by decide +kernel
theorem tyJx8e188_ok : ∀ k, k < 0 → parseFieldDescriptor (TJx8e188 k).2.2.1 = some (tyJx8e188 k) := by decide +kernel
def RJxab1ab : String := "java/lang/Iterable"
def TJxab1ab : u_T := fun k => match k with
  | _ => ("", "", "", false)
def tyJxab1ab : Nat → FieldType := fun k => match k with
  | _ => .int
abbrev wsJxab1ab0 : List Cond := u_ws RJxab1ab TJxab1ab 0
theorem nmJxab1ab : ∀ a, a < 0 → ∀ b, b < 0 → a ≠ b → (TJxab1ab a).2.1 ≠ (TJxab1ab b).2.1 := by decide +kernel
theorem tyJxab1ab_ok : ∀ k, k < 0 → parseFieldDescriptor (TJxab1ab k).2.2.1 = some (tyJxab1ab k) := by decide +kernel
def RJ9 : String := "java/lang/Math"
def TJ9 : u_T := fun k => match k with
  | _ => ("", "", "", false)
def tyJ9 : Nat → FieldType := fun k => match k with
  | _ => .int
abbrev wsJ90 : List Cond := u_ws RJ9 TJ9 0
theorem nmJ9 : ∀ a, a < 0 → ∀ b, b < 0 → a ≠ b → (TJ9 a).2.1 ≠ (TJ9 b).2.1 := by decide +kernel
theorem tyJ9_ok : ∀ k, k < 0 → parseFieldDescriptor (TJ9 k).2.2.1 = some (tyJ9 k) := by decide +kernel
abbrev cJ9_max_7cf53 : ByteArray := prog_18_method_65_code
def yJ9_max_7cf53 : MethodName := ⟨RJ9, "max", "(II)I"⟩
abbrev cJ9_min_7cf53 : ByteArray := prog_18_method_69_code
def yJ9_min_7cf53 : MethodName := ⟨RJ9, "min", "(II)I"⟩
abbrev cJ9_min_f86c9 : ByteArray := prog_18_method_70_code
def yJ9_min_f86c9 : MethodName := ⟨RJ9, "min", "(JJ)J"⟩
def RJ10 : String := "java/lang/System"
def TJ10 : u_T := fun k => match k with
  | _ => ("", "", "", false)
def tyJ10 : Nat → FieldType := fun k => match k with
  | _ => .int
abbrev wsJ100 : List Cond := u_ws RJ10 TJ10 0
theorem nmJ10 : ∀ a, a < 0 → ∀ b, b < 0 → a ≠ b → (TJ10 a).2.1 ≠ (TJ10 b).2.1 := by decide +kernel
theorem tyJ10_ok : ∀ k, k < 0 → parseFieldDescriptor (TJ10 k).2.2.1 = some (tyJ10 k) := by decide +kernel
def RJxa1e45 : String := "java/util/AbstractCollection"
def TJxa1e45 : u_T := fun k => match k with
  | _ => ("", "", "", false)
def tyJxa1e45 : Nat → FieldType := fun k => match k with
  | _ => .int
abbrev wsJxa1e450 : List Cond := u_ws RJxa1e45 TJxa1e45 0
theorem nmJxa1e45 : ∀ a, a < 0 → ∀ b, b < 0 → a ≠ b → (TJxa1e45 a).2.1 ≠ (TJxa1e45 b).2.1 := by decide +kernel
theorem tyJxa1e45_ok : ∀ k, k < 0 → parseFieldDescriptor (TJxa1e45 k).2.2.1 = some (tyJxa1e45 k) := by decide +kernel
abbrev cJxa1e45_init_da8c8 : ByteArray := prog_20_method_1_code
def yJxa1e45_init_da8c8 : MethodName := ⟨RJxa1e45, "<init>", "()V"⟩
def RJxc12de : String := "java/util/AbstractList"
def TJxc12de : u_T := fun k => match k with
  | _ => ("", "", "", false)
def tyJxc12de : Nat → FieldType := fun k => match k with
  | _ => .int
abbrev wsJxc12de0 : List Cond := u_ws RJxc12de TJxc12de 0
theorem nmJxc12de : ∀ a, a < 0 → ∀ b, b < 0 → a ≠ b → (TJxc12de a).2.1 ≠ (TJxc12de b).2.1 := by decide +kernel
theorem tyJxc12de_ok : ∀ k, k < 0 → parseFieldDescriptor (TJxc12de k).2.2.1 = some (tyJxc12de k) := by decide +kernel
abbrev cJxc12de_init_da8c8 : ByteArray := prog_21_method_1_code
def yJxc12de_init_da8c8 : MethodName := ⟨RJxc12de, "<init>", "()V"⟩
def RJx4a65c : String := "java/util/ArrayList"
def TJx4a65c : u_T := fun k => match k with
  | 0 => ("java/util/AbstractList", "modCount", "I", false)
  | 1 => ("java/util/ArrayList", "elementData", "[Ljava/lang/Object;", false)
  | _ => ("java/util/ArrayList", "size", "I", false)
def tyJx4a65c : Nat → FieldType := fun k => match k with
  | 0 => .int
  | 1 => .array (.object "java/lang/Object")
  | _ => .int
abbrev wsJx4a65c0 : List Cond := u_ws RJx4a65c TJx4a65c 3
theorem nmJx4a65c : ∀ a, a < 3 → ∀ b, b < 3 → a ≠ b → (TJx4a65c a).2.1 ≠ (TJx4a65c b).2.1 := by decide +kernel
theorem tyJx4a65c_ok : ∀ k, k < 3 → parseFieldDescriptor (TJx4a65c k).2.2.1 = some (tyJx4a65c k) := by decide +kernel
abbrev cJx4a65c_init_da8c8 : ByteArray := prog_22_method_2_code
def yJx4a65c_init_da8c8 : MethodName := ⟨RJx4a65c, "<init>", "()V"⟩
abbrev cJx4a65c_grow_92f84 : ByteArray := prog_22_method_6_code
def yJx4a65c_grow_92f84 : MethodName := ⟨RJx4a65c, "grow", "(I)[Ljava/lang/Object;"⟩
abbrev cJx4a65c_grow_d5877 : ByteArray := prog_22_method_7_code
def yJx4a65c_grow_d5877 : MethodName := ⟨RJx4a65c, "grow", "()[Ljava/lang/Object;"⟩
abbrev cJx4a65c_size_8abf5 : ByteArray := prog_22_method_8_code
def yJx4a65c_size_8abf5 : MethodName := ⟨RJx4a65c, "size", "()I"⟩
abbrev cJx4a65c_elementData_915e3 : ByteArray := prog_22_method_18_code
def yJx4a65c_elementData_915e3 : MethodName := ⟨RJx4a65c, "elementData", "(I)Ljava/lang/Object;"⟩
abbrev cJx4a65c_get_915e3 : ByteArray := prog_22_method_20_code
def yJx4a65c_get_915e3 : MethodName := ⟨RJx4a65c, "get", "(I)Ljava/lang/Object;"⟩
abbrev cJx4a65c_add_72be8 : ByteArray := prog_22_method_24_code
def yJx4a65c_add_72be8 : MethodName := ⟨RJx4a65c, "add", "(Ljava/lang/Object;[Ljava/lang/Object;I)V"⟩
abbrev cJx4a65c_add_9ea2d : ByteArray := prog_22_method_25_code
def yJx4a65c_add_9ea2d : MethodName := ⟨RJx4a65c, "add", "(Ljava/lang/Object;)Z"⟩
abbrev cJx4a65c_remove_915e3 : ByteArray := prog_22_method_29_code
def yJx4a65c_remove_915e3 : MethodName := ⟨RJx4a65c, "remove", "(I)Ljava/lang/Object;"⟩
abbrev cJx4a65c_fastRemove_b59b0 : ByteArray := prog_22_method_39_code
def yJx4a65c_fastRemove_b59b0 : MethodName := ⟨RJx4a65c, "fastRemove", "([Ljava/lang/Object;I)V"⟩
abbrev cJx4a65c_clear_da8c8 : ByteArray := prog_22_method_40_code
def yJx4a65c_clear_da8c8 : MethodName := ⟨RJx4a65c, "clear", "()V"⟩
def RJ7 : String := "java/util/Arrays"
def TJ7 : u_T := fun k => match k with
  | _ => ("", "", "", false)
def tyJ7 : Nat → FieldType := fun k => match k with
  | _ => .int
abbrev wsJ70 : List Cond := u_ws RJ7 TJ7 0
theorem nmJ7 : ∀ a, a < 0 → ∀ b, b < 0 → a ≠ b → (TJ7 a).2.1 ≠ (TJ7 b).2.1 := by decide +kernel
theorem tyJ7_ok : ∀ k, k < 0 → parseFieldDescriptor (TJ7 k).2.2.1 = some (tyJ7 k) := by decide +kernel
abbrev cJ7_copyOf_1904c : ByteArray := prog_23_method_119_code
def yJ7_copyOf_1904c : MethodName := ⟨RJ7, "copyOf", "([Ljava/lang/Object;I)[Ljava/lang/Object;"⟩
abbrev cJ7_copyOf_6403c : ByteArray := prog_23_method_120_code
def yJ7_copyOf_6403c : MethodName := ⟨RJ7, "copyOf", "([Ljava/lang/Object;ILjava/lang/Class;)[Ljava/lang/Object;"⟩
def RJx5ef63 : String := "java/util/Collection"
def TJx5ef63 : u_T := fun k => match k with
  | _ => ("", "", "", false)
def tyJx5ef63 : Nat → FieldType := fun k => match k with
  | _ => .int
abbrev wsJx5ef630 : List Cond := u_ws RJx5ef63 TJx5ef63 0
theorem nmJx5ef63 : ∀ a, a < 0 → ∀ b, b < 0 → a ≠ b → (TJx5ef63 a).2.1 ≠ (TJx5ef63 b).2.1 := by decide +kernel
theorem tyJx5ef63_ok : ∀ k, k < 0 → parseFieldDescriptor (TJx5ef63 k).2.2.1 = some (tyJx5ef63 k) := by decide +kernel
def RJxbd725 : String := "java/util/List"
def TJxbd725 : u_T := fun k => match k with
  | _ => ("", "", "", false)
def tyJxbd725 : Nat → FieldType := fun k => match k with
  | _ => .int
abbrev wsJxbd7250 : List Cond := u_ws RJxbd725 TJxbd725 0
theorem nmJxbd725 : ∀ a, a < 0 → ∀ b, b < 0 → a ≠ b → (TJxbd725 a).2.1 ≠ (TJxbd725 b).2.1 := by decide +kernel
theorem tyJxbd725_ok : ∀ k, k < 0 → parseFieldDescriptor (TJxbd725 k).2.2.1 = some (tyJxbd725 k) := by decide +kernel
def RJ15 : String := "java/util/Objects"
def TJ15 : u_T := fun k => match k with
  | _ => ("", "", "", false)
def tyJ15 : Nat → FieldType := fun k => match k with
  | _ => .int
abbrev wsJ150 : List Cond := u_ws RJ15 TJ15 0
theorem nmJ15 : ∀ a, a < 0 → ∀ b, b < 0 → a ≠ b → (TJ15 a).2.1 ≠ (TJ15 b).2.1 := by decide +kernel
theorem tyJ15_ok : ∀ k, k < 0 → parseFieldDescriptor (TJ15 k).2.2.1 = some (tyJ15 k) := by decide +kernel
abbrev cJ15_checkIndex_7cf53 : ByteArray := prog_26_method_17_code
def yJ15_checkIndex_7cf53 : MethodName := ⟨RJ15, "checkIndex", "(II)I"⟩
def RJxf0a74 : String := "java/util/RandomAccess"
def TJxf0a74 : u_T := fun k => match k with
  | _ => ("", "", "", false)
def tyJxf0a74 : Nat → FieldType := fun k => match k with
  | _ => .int
abbrev wsJxf0a740 : List Cond := u_ws RJxf0a74 TJxf0a74 0
theorem nmJxf0a74 : ∀ a, a < 0 → ∀ b, b < 0 → a ≠ b → (TJxf0a74 a).2.1 ≠ (TJxf0a74 b).2.1 := by decide +kernel
theorem tyJxf0a74_ok : ∀ k, k < 0 → parseFieldDescriptor (TJxf0a74 k).2.2.1 = some (tyJxf0a74 k) := by decide +kernel
def RJxa66e6 : String := "java/util/SequencedCollection"
def TJxa66e6 : u_T := fun k => match k with
  | _ => ("", "", "", false)
def tyJxa66e6 : Nat → FieldType := fun k => match k with
  | _ => .int
abbrev wsJxa66e60 : List Cond := u_ws RJxa66e6 TJxa66e6 0
theorem nmJxa66e6 : ∀ a, a < 0 → ∀ b, b < 0 → a ≠ b → (TJxa66e6 a).2.1 ≠ (TJxa66e6 b).2.1 := by decide +kernel
theorem tyJxa66e6_ok : ∀ k, k < 0 → parseFieldDescriptor (TJxa66e6 k).2.2.1 = some (tyJxa66e6 k) := by decide +kernel
def RJ8 : String := "jdk/internal/util/ArraysSupport"
def TJ8 : u_T := fun k => match k with
  | _ => ("", "", "", false)
def tyJ8 : Nat → FieldType := fun k => match k with
  | _ => .int
abbrev wsJ80 : List Cond := u_ws RJ8 TJ8 0
theorem nmJ8 : ∀ a, a < 0 → ∀ b, b < 0 → a ≠ b → (TJ8 a).2.1 ≠ (TJ8 b).2.1 := by decide +kernel
theorem tyJ8_ok : ∀ k, k < 0 → parseFieldDescriptor (TJ8 k).2.2.1 = some (tyJ8 k) := by decide +kernel
abbrev cJ8_newLength_cabcc : ByteArray := prog_29_method_27_code
def yJ8_newLength_cabcc : MethodName := ⟨RJ8, "newLength", "(III)I"⟩
abbrev cJ8_hugeLength_7cf53 : ByteArray := prog_29_method_28_code
def yJ8_hugeLength_7cf53 : MethodName := ⟨RJ8, "hugeLength", "(II)I"⟩
def RJ3 : String := "jdk/internal/util/Preconditions"
def TJ3 : u_T := fun k => match k with
  | _ => ("", "", "", false)
def tyJ3 : Nat → FieldType := fun k => match k with
  | _ => .int
abbrev wsJ30 : List Cond := u_ws RJ3 TJ3 0
theorem nmJ3 : ∀ a, a < 0 → ∀ b, b < 0 → a ≠ b → (TJ3 a).2.1 ≠ (TJ3 b).2.1 := by decide +kernel
theorem tyJ3_ok : ∀ k, k < 0 → parseFieldDescriptor (TJ3 k).2.2.1 = some (tyJ3 k) := by decide +kernel
abbrev cJ3_checkIndex_8e157 : ByteArray := prog_30_method_11_code
def yJ3_checkIndex_8e157 : MethodName := ⟨RJ3, "checkIndex", "(IILjava/util/function/BiFunction;)I"⟩
def RL : String := "TransitGateLaw"
abbrev cL_law : ByteArray := code
def yL_law : MethodName := ⟨RL, "law", "([I)Z"⟩
abbrev vwCl : List vw_C := [(RJx4a65c, TJx4a65c, 3), (RX0, TX0, 6), (RX1, TX1, 2), (RX2, TX2, 6), (RX5, TX5, 2), (RX7, TX7, 5), (RX8, TX8, 4), (RX10, TX10, 3), (RX11, TX11, 8), (RX12, TX12, 28)]
end
section
theorem tb_r {w : Cond} (h : w ∈ tables_1) : w ∈ lw_tbl := List.mem_append_right _ h
theorem tb_1 {w : Cond} (h : w ∈ tables_1_1) : w ∈ lw_tbl := tb_r (List.mem_append_left _ h)
theorem tb_2 {w : Cond} (h : w ∈ tables_1_2) : w ∈ lw_tbl := tb_r (List.mem_append_right _ (List.mem_append_left _ h))
theorem tb_3 {w : Cond} (h : w ∈ tables_1_3) : w ∈ lw_tbl := tb_r (List.mem_append_right _ (List.mem_append_right _ (List.mem_append_left _ h)))
theorem tb_4 {w : Cond} (h : w ∈ tables_1_4) : w ∈ lw_tbl := tb_r (List.mem_append_right _ (List.mem_append_right _ (List.mem_append_right _ (List.mem_append_left _ h))))
theorem tb_5 {w : Cond} (h : w ∈ tables_1_5) : w ∈ lw_tbl := tb_r (List.mem_append_right _ (List.mem_append_right _ (List.mem_append_right _ (List.mem_append_right _ h))))
theorem tb_s {w : Cond} (h : w ∈ k2_sels lw_privs) : w ∈ lw_tbl := List.mem_append_left _ h
def lw_g : List Cond := lw_tbl.filter goodWord
theorem tg_1 {w : Cond} (h : w ∈ tables_1_1) (g : goodWord w = true) : w ∈ lw_g := List.mem_filter.mpr ⟨tb_1 h, g⟩
theorem tg_2 {w : Cond} (h : w ∈ tables_1_2) (g : goodWord w = true) : w ∈ lw_g := List.mem_filter.mpr ⟨tb_2 h, g⟩
theorem tg_3 {w : Cond} (h : w ∈ tables_1_3) (g : goodWord w = true) : w ∈ lw_g := List.mem_filter.mpr ⟨tb_3 h, g⟩
theorem tg_4 {w : Cond} (h : w ∈ tables_1_4) (g : goodWord w = true) : w ∈ lw_g := List.mem_filter.mpr ⟨tb_4 h, g⟩
theorem tg_5 {w : Cond} (h : w ∈ tables_1_5) (g : goodWord w = true) : w ∈ lw_g := List.mem_filter.mpr ⟨tb_5 h, g⟩
theorem tg_s {w : Cond} (h : w ∈ k2_sels lw_privs) (g : goodWord w = true) : w ∈ lw_g := List.mem_filter.mpr ⟨tb_s h, g⟩

/-- every method's words here: its code, and all good words of the tables -/
theorem tb_in {c : Cond} {ws : List Cond} (h : ∀ w ∈ ws, w ∈ lw_g) : GoodIn (c :: lw_g) ws := fun w hw => ⟨List.mem_cons_of_mem _ (h w hw), good_of_word (List.mem_filter.mp (h w hw)).2⟩
theorem tb_inL {ws : List Cond} (h : ∀ w ∈ ws, w ∈ lw_g) : GoodIn lw_tbl ws := fun w hw => ⟨(List.mem_filter.mp (h w hw)).1, good_of_word (List.mem_filter.mp (h w hw)).2⟩
theorem tb_Vm {own C : String} {idx : Nat} {y : MethodName} {cd : Cond} (h1 : Cond.methodLink own idx y ∈ lw_g) (h2 : Cond.instanceMethod y ∈ lw_g) (h3 : Cond.selects C y y ∈ lw_g) (h4 : Cond.initialized C ∈ lw_g) (h5 : cd ∈ lw_g) : ∀ w ∈ wsV own idx C y (cd :: lw_g), w ∈ lw_g := by
  intro w hw
  rcases List.mem_append.mp hw with hw | hw
  · simp only [List.mem_cons, List.not_mem_nil, or_false] at hw
    rcases hw with rfl | rfl | rfl | rfl
    · exact h1
    · exact h2
    · exact h3
    · exact h4
  · rcases List.mem_cons.mp hw with rfl | hw
    · exact h5
    · exact hw
theorem tb_Sm {own : String} {idx : Nat} {y : MethodName} {cd : Cond} (h1 : Cond.methodLink own idx y ∈ lw_g) (h2 : Cond.static y ∈ lw_g) (h3 : Cond.initialized y.cls ∈ lw_g) (h5 : cd ∈ lw_g) : ∀ w ∈ va_wsS own idx y (cd :: lw_g), w ∈ lw_g := by
  intro w hw
  rcases List.mem_append.mp hw with hw | hw
  · simp only [List.mem_cons, List.not_mem_nil, or_false] at hw
    rcases hw with rfl | rfl | rfl
    · exact h1
    · exact h2
    · exact h3
  · rcases List.mem_cons.mp hw with rfl | hw
    · exact h5
    · exact hw
theorem tb_Cm {cd : Cond} (h5 : cd ∈ lw_g) : ∀ w ∈ (cd :: lw_g), w ∈ lw_g := by
  intro w hw
  rcases List.mem_cons.mp hw with rfl | hw
  · exact h5
  · exact hw
end
section
theorem kw1_0 : Jvm.Cond.initialized "TransitGateLaw" ∈ lw_g := tg_1 (List.mem_of_getElem? (i := 0) (by decide +kernel)) rfl
theorem kw1_1 : Jvm.Cond.initialized "TransitGate" ∈ lw_g := tg_1 (List.mem_of_getElem? (i := 1) (by decide +kernel)) rfl
theorem kw1_2 : Jvm.Cond.initialized "TransitGate$Bytes" ∈ lw_g := tg_1 (List.mem_of_getElem? (i := 2) (by decide +kernel)) rfl
theorem kw1_3 : Jvm.Cond.initialized "java/lang/Math" ∈ lw_g := tg_1 (List.mem_of_getElem? (i := 3) (by decide +kernel)) rfl
theorem kw1_4 : Jvm.Cond.initialized "TransitGate$Site" ∈ lw_g := tg_1 (List.mem_of_getElem? (i := 4) (by decide +kernel)) rfl
theorem kw1_5 : Jvm.Cond.initialized "TransitGate$Pool" ∈ lw_g := tg_1 (List.mem_of_getElem? (i := 5) (by decide +kernel)) rfl
theorem kw1_6 : Jvm.Cond.initialized "TransitGate$Table" ∈ lw_g := tg_1 (List.mem_of_getElem? (i := 6) (by decide +kernel)) rfl
theorem kw1_7 : Jvm.Cond.initialized "java/util/AbstractCollection" ∈ lw_g := tg_1 (List.mem_of_getElem? (i := 7) (by decide +kernel)) rfl
theorem kw1_8 : Jvm.Cond.initialized "java/util/AbstractList" ∈ lw_g := tg_1 (List.mem_of_getElem? (i := 8) (by decide +kernel)) rfl
theorem kw1_9 : Jvm.Cond.initialized "java/util/ArrayList" ∈ lw_g := tg_1 (List.mem_of_getElem? (i := 9) (by decide +kernel)) rfl
theorem kw1_10 : Jvm.Cond.initialized "TransitGateModel" ∈ lw_g := tg_1 (List.mem_of_getElem? (i := 10) (by decide +kernel)) rfl
theorem kw1_11 : Jvm.Cond.initialized "TransitGate$Rules" ∈ lw_g := tg_1 (List.mem_of_getElem? (i := 11) (by decide +kernel)) rfl
theorem kw1_12 : Jvm.Cond.initialized "TransitGate$Part" ∈ lw_g := tg_1 (List.mem_of_getElem? (i := 12) (by decide +kernel)) rfl
theorem kw1_13 : Jvm.Cond.initialized "TransitGate$Sums" ∈ lw_g := tg_1 (List.mem_of_getElem? (i := 13) (by decide +kernel)) rfl
theorem kw1_14 : Jvm.Cond.initialized "TransitGate$Flow" ∈ lw_g := tg_1 (List.mem_of_getElem? (i := 14) (by decide +kernel)) rfl
theorem kw1_15 : Jvm.Cond.initialized "java/util/Objects" ∈ lw_g := tg_1 (List.mem_of_getElem? (i := 15) (by decide +kernel)) rfl
theorem kw1_16 : Jvm.Cond.initialized "jdk/internal/util/Preconditions" ∈ lw_g := tg_1 (List.mem_of_getElem? (i := 16) (by decide +kernel)) rfl
theorem kw1_17 : Jvm.Cond.initialized "TransitGate$Session" ∈ lw_g := tg_1 (List.mem_of_getElem? (i := 17) (by decide +kernel)) rfl
theorem kw1_18 : Jvm.Cond.initialized "TransitGate$Binding" ∈ lw_g := tg_1 (List.mem_of_getElem? (i := 18) (by decide +kernel)) rfl
theorem kw1_19 : Jvm.Cond.initialized "jdk/internal/util/ArraysSupport" ∈ lw_g := tg_1 (List.mem_of_getElem? (i := 19) (by decide +kernel)) rfl
theorem kw1_20 : Jvm.Cond.initialized "java/util/Arrays" ∈ lw_g := tg_1 (List.mem_of_getElem? (i := 20) (by decide +kernel)) rfl
theorem kw1_21 : Jvm.Cond.initialized "java/lang/System" ∈ lw_g := tg_1 (List.mem_of_getElem? (i := 21) (by decide +kernel)) rfl
theorem kw1_22 : Jvm.Cond.initialized "TransitGate$Maker" ∈ lw_g := tg_1 (List.mem_of_getElem? (i := 22) (by decide +kernel)) rfl
theorem kw1_23 : Jvm.Cond.classLink "TransitGateLaw" (7 : Nat) "TransitGate" ∈ lw_g := tg_1 (List.mem_of_getElem? (i := 23) (by decide +kernel)) rfl
theorem kw1_24 : Jvm.Cond.instantiable "TransitGate" (8 : Nat) ∈ lw_g := tg_1 (List.mem_of_getElem? (i := 24) (by decide +kernel)) rfl
theorem kw1_25 : Jvm.Cond.methodLink "TransitGateLaw" (9 : Nat) ({ cls := "TransitGate", name := "<init>", desc := "()V" } : Jvm.MethodName) ∈ lw_g := tg_1 (List.mem_of_getElem? (i := 25) (by decide +kernel)) rfl
theorem kw1_26 : Jvm.Cond.instanceMethod ({ cls := "TransitGate", name := "<init>", desc := "()V" } : Jvm.MethodName) ∈ lw_g := tg_1 (List.mem_of_getElem? (i := 26) (by decide +kernel)) rfl
theorem kw1_27 : Jvm.Cond.code ({ cls := "TransitGate", name := "<init>", desc := "()V" } : Jvm.MethodName) prog_1_method_1_code (1 : Nat) (Option.none : Option Jvm.ClassFile.FieldType) ∈ lw_g := tg_1 (List.mem_of_getElem? (i := 27) rfl) rfl
theorem kw1_28 : Jvm.Cond.methodLink "TransitGate" (1 : Nat) ({ cls := "java/lang/Object", name := "<init>", desc := "()V" } : Jvm.MethodName) ∈ lw_g := tg_1 (List.mem_of_getElem? (i := 28) (by decide +kernel)) rfl
theorem kw1_29 : Jvm.Cond.instanceMethod ({ cls := "java/lang/Object", name := "<init>", desc := "()V" } : Jvm.MethodName) ∈ lw_g := tg_1 (List.mem_of_getElem? (i := 29) (by decide +kernel)) rfl
theorem kw1_30 : Jvm.Cond.code ({ cls := "java/lang/Object", name := "<init>", desc := "()V" } : Jvm.MethodName) object_method_1_code (1 : Nat) (Option.none : Option Jvm.ClassFile.FieldType) ∈ lw_g := tg_1 (List.mem_of_getElem? (i := 30) rfl) rfl
theorem kw1_31 : Jvm.Cond.classLink "TransitGate" (7 : Nat) "TransitGate$Bytes" ∈ lw_g := tg_1 (List.mem_of_getElem? (i := 31) (by decide +kernel)) rfl
theorem kw1_32 : Jvm.Cond.instantiable "TransitGate$Bytes" (2 : Nat) ∈ lw_g := tg_1 (List.mem_of_getElem? (i := 32) (by decide +kernel)) rfl
theorem kw1_33 : Jvm.Cond.methodLink "TransitGate" (11 : Nat) ({ cls := "TransitGate$Bytes", name := "<init>", desc := "(I)V" } : Jvm.MethodName) ∈ lw_g := tg_1 (List.mem_of_getElem? (i := 33) (by decide +kernel)) rfl
theorem kw1_34 : Jvm.Cond.instanceMethod ({ cls := "TransitGate$Bytes", name := "<init>", desc := "(I)V" } : Jvm.MethodName) ∈ lw_g := tg_1 (List.mem_of_getElem? (i := 34) (by decide +kernel)) rfl
theorem kw1_35 : Jvm.Cond.code ({ cls := "TransitGate$Bytes", name := "<init>", desc := "(I)V" } : Jvm.MethodName) prog_3_method_1_code (2 : Nat) (Option.none : Option Jvm.ClassFile.FieldType) ∈ lw_g := tg_1 (List.mem_of_getElem? (i := 35) rfl) rfl
theorem kw1_36 : Jvm.Cond.methodLink "TransitGate$Bytes" (1 : Nat) ({ cls := "java/lang/Object", name := "<init>", desc := "()V" } : Jvm.MethodName) ∈ lw_g := tg_1 (List.mem_of_getElem? (i := 36) (by decide +kernel)) rfl
theorem kw1_37 : Jvm.Cond.methodLink "TransitGate$Bytes" (7 : Nat) ({ cls := "java/lang/Math", name := "max", desc := "(II)I" } : Jvm.MethodName) ∈ lw_g := tg_1 (List.mem_of_getElem? (i := 37) (by decide +kernel)) rfl
theorem kw1_38 : Jvm.Cond.static ({ cls := "java/lang/Math", name := "max", desc := "(II)I" } : Jvm.MethodName) ∈ lw_g := tg_1 (List.mem_of_getElem? (i := 38) (by decide +kernel)) rfl
theorem kw1_39 : Jvm.Cond.code ({ cls := "java/lang/Math", name := "max", desc := "(II)I" } : Jvm.MethodName) prog_18_method_65_code (2 : Nat) (Option.some Jvm.ClassFile.FieldType.int) ∈ lw_g := tg_1 (List.mem_of_getElem? (i := 39) rfl) rfl
theorem kw1_40 : Jvm.Cond.fieldLink "TransitGate$Bytes" (13 : Nat) "TransitGate$Bytes" "cells" "[B" ∈ lw_g := tg_1 (List.mem_of_getElem? (i := 40) (by decide +kernel)) rfl
theorem kw1_41 : Jvm.Cond.fieldLink "TransitGate$Bytes" (19 : Nat) "TransitGate$Bytes" "length" "I" ∈ lw_g := tg_1 (List.mem_of_getElem? (i := 41) (by decide +kernel)) rfl
theorem kw1_47 : Jvm.Cond.arrayClass Jvm.ClassFile.FieldType.byte ∈ lw_g := tg_1 (List.mem_of_getElem? (i := 47) (by decide +kernel)) rfl
theorem kw1_48 : Jvm.Cond.classLink "TransitGate" (21 : Nat) "TransitGate$Site" ∈ lw_g := tg_1 (List.mem_of_getElem? (i := 48) (by decide +kernel)) rfl
theorem kw1_49 : Jvm.Cond.instantiable "TransitGate$Site" (4 : Nat) ∈ lw_g := tg_1 (List.mem_of_getElem? (i := 49) (by decide +kernel)) rfl
theorem kw1_51 : Jvm.Cond.instanceMethod ({ cls := "TransitGate$Site", name := "<init>", desc := "()V" } : Jvm.MethodName) ∈ lw_g := tg_1 (List.mem_of_getElem? (i := 51) (by decide +kernel)) rfl
theorem kw1_52 : Jvm.Cond.code ({ cls := "TransitGate$Site", name := "<init>", desc := "()V" } : Jvm.MethodName) prog_10_method_1_code (1 : Nat) (Option.none : Option Jvm.ClassFile.FieldType) ∈ lw_g := tg_1 (List.mem_of_getElem? (i := 52) rfl) rfl
theorem kw1_53 : Jvm.Cond.methodLink "TransitGate$Site" (1 : Nat) ({ cls := "java/lang/Object", name := "<init>", desc := "()V" } : Jvm.MethodName) ∈ lw_g := tg_1 (List.mem_of_getElem? (i := 53) (by decide +kernel)) rfl
theorem kw1_54 : Jvm.Cond.fieldLink "TransitGate$Site" (13 : Nat) "TransitGate$Site" "first" "J" ∈ lw_g := tg_1 (List.mem_of_getElem? (i := 54) (by decide +kernel)) rfl
theorem kw1_55 : Jvm.Cond.fieldLink "TransitGate$Site" (19 : Nat) "TransitGate$Site" "second" "J" ∈ lw_g := tg_1 (List.mem_of_getElem? (i := 55) (by decide +kernel)) rfl
theorem kw1_56 : Jvm.Cond.fieldLink "TransitGate$Site" (7 : Nat) "TransitGate$Site" "bits" "I" ∈ lw_g := tg_1 (List.mem_of_getElem? (i := 56) (by decide +kernel)) rfl
theorem kw1_57 : Jvm.Cond.fieldLink "TransitGate$Site" (26 : Nat) "TransitGate$Site" "behindByte8" "I" ∈ lw_g := tg_1 (List.mem_of_getElem? (i := 57) (by decide +kernel)) rfl
theorem kw1_67 : Jvm.Cond.classLink "TransitGate" (28 : Nat) "TransitGate$Pool" ∈ lw_g := tg_1 (List.mem_of_getElem? (i := 67) (by decide +kernel)) rfl
theorem kw1_68 : Jvm.Cond.instantiable "TransitGate$Pool" (2 : Nat) ∈ lw_g := tg_1 (List.mem_of_getElem? (i := 68) (by decide +kernel)) rfl
theorem kw1_69 : Jvm.Cond.methodLink "TransitGate" (30 : Nat) ({ cls := "TransitGate$Pool", name := "<init>", desc := "()V" } : Jvm.MethodName) ∈ lw_g := tg_1 (List.mem_of_getElem? (i := 69) (by decide +kernel)) rfl
theorem kw1_70 : Jvm.Cond.instanceMethod ({ cls := "TransitGate$Pool", name := "<init>", desc := "()V" } : Jvm.MethodName) ∈ lw_g := tg_1 (List.mem_of_getElem? (i := 70) (by decide +kernel)) rfl
theorem kw1_71 : Jvm.Cond.code ({ cls := "TransitGate$Pool", name := "<init>", desc := "()V" } : Jvm.MethodName) prog_7_method_1_code (1 : Nat) (Option.none : Option Jvm.ClassFile.FieldType) ∈ lw_g := tg_1 (List.mem_of_getElem? (i := 71) rfl) rfl
theorem kw1_72 : Jvm.Cond.methodLink "TransitGate$Pool" (1 : Nat) ({ cls := "java/lang/Object", name := "<init>", desc := "()V" } : Jvm.MethodName) ∈ lw_g := tg_1 (List.mem_of_getElem? (i := 72) (by decide +kernel)) rfl
theorem kw1_73 : Jvm.Cond.fieldLink "TransitGate$Pool" (9 : Nat) "TransitGate$Pool" "rows" "[I" ∈ lw_g := tg_1 (List.mem_of_getElem? (i := 73) (by decide +kernel)) rfl
theorem kw1_74 : Jvm.Cond.fieldLink "TransitGate$Pool" (13 : Nat) "TransitGate$Pool" "used" "I" ∈ lw_g := tg_1 (List.mem_of_getElem? (i := 74) (by decide +kernel)) rfl
theorem kw1_80 : Jvm.Cond.arrayClass Jvm.ClassFile.FieldType.int ∈ lw_g := tg_1 (List.mem_of_getElem? (i := 80) (by decide +kernel)) rfl
theorem kw1_81 : Jvm.Cond.classLink "TransitGate" (35 : Nat) "TransitGate$Table" ∈ lw_g := tg_1 (List.mem_of_getElem? (i := 81) (by decide +kernel)) rfl
theorem kw1_82 : Jvm.Cond.instantiable "TransitGate$Table" (3 : Nat) ∈ lw_g := tg_1 (List.mem_of_getElem? (i := 82) (by decide +kernel)) rfl
theorem kw1_83 : Jvm.Cond.methodLink "TransitGate" (37 : Nat) ({ cls := "TransitGate$Table", name := "<init>", desc := "()V" } : Jvm.MethodName) ∈ lw_g := tg_1 (List.mem_of_getElem? (i := 83) (by decide +kernel)) rfl
theorem kw1_84 : Jvm.Cond.instanceMethod ({ cls := "TransitGate$Table", name := "<init>", desc := "()V" } : Jvm.MethodName) ∈ lw_g := tg_1 (List.mem_of_getElem? (i := 84) (by decide +kernel)) rfl
theorem kw1_85 : Jvm.Cond.code ({ cls := "TransitGate$Table", name := "<init>", desc := "()V" } : Jvm.MethodName) prog_12_method_1_code (1 : Nat) (Option.none : Option Jvm.ClassFile.FieldType) ∈ lw_g := tg_1 (List.mem_of_getElem? (i := 85) rfl) rfl
theorem kw1_86 : Jvm.Cond.methodLink "TransitGate$Table" (3 : Nat) ({ cls := "java/lang/Object", name := "<init>", desc := "()V" } : Jvm.MethodName) ∈ lw_g := tg_1 (List.mem_of_getElem? (i := 86) (by decide +kernel)) rfl
theorem kw1_87 : Jvm.Cond.classLink "TransitGate$Table" (9 : Nat) "java/util/ArrayList" ∈ lw_g := tg_1 (List.mem_of_getElem? (i := 87) (by decide +kernel)) rfl
theorem kw1_88 : Jvm.Cond.instantiable "java/util/ArrayList" (3 : Nat) ∈ lw_g := tg_1 (List.mem_of_getElem? (i := 88) (by decide +kernel)) rfl
theorem kw1_89 : Jvm.Cond.methodLink "TransitGate$Table" (11 : Nat) ({ cls := "java/util/ArrayList", name := "<init>", desc := "()V" } : Jvm.MethodName) ∈ lw_g := tg_1 (List.mem_of_getElem? (i := 89) (by decide +kernel)) rfl
theorem kw1_90 : Jvm.Cond.instanceMethod ({ cls := "java/util/ArrayList", name := "<init>", desc := "()V" } : Jvm.MethodName) ∈ lw_g := tg_1 (List.mem_of_getElem? (i := 90) (by decide +kernel)) rfl
theorem kw1_91 : Jvm.Cond.code ({ cls := "java/util/ArrayList", name := "<init>", desc := "()V" } : Jvm.MethodName) prog_22_method_2_code (1 : Nat) (Option.none : Option Jvm.ClassFile.FieldType) ∈ lw_g := tg_1 (List.mem_of_getElem? (i := 91) rfl) rfl
theorem kw1_92 : Jvm.Cond.methodLink "java/util/ArrayList" (1 : Nat) ({ cls := "java/util/AbstractList", name := "<init>", desc := "()V" } : Jvm.MethodName) ∈ lw_g := tg_1 (List.mem_of_getElem? (i := 92) (by decide +kernel)) rfl
theorem kw1_93 : Jvm.Cond.instanceMethod ({ cls := "java/util/AbstractList", name := "<init>", desc := "()V" } : Jvm.MethodName) ∈ lw_g := tg_1 (List.mem_of_getElem? (i := 93) (by decide +kernel)) rfl
theorem kw1_94 : Jvm.Cond.code ({ cls := "java/util/AbstractList", name := "<init>", desc := "()V" } : Jvm.MethodName) prog_21_method_1_code (1 : Nat) (Option.none : Option Jvm.ClassFile.FieldType) ∈ lw_g := tg_1 (List.mem_of_getElem? (i := 94) rfl) rfl
theorem kw1_95 : Jvm.Cond.methodLink "java/util/AbstractList" (1 : Nat) ({ cls := "java/util/AbstractCollection", name := "<init>", desc := "()V" } : Jvm.MethodName) ∈ lw_g := tg_1 (List.mem_of_getElem? (i := 95) (by decide +kernel)) rfl
theorem kw1_96 : Jvm.Cond.instanceMethod ({ cls := "java/util/AbstractCollection", name := "<init>", desc := "()V" } : Jvm.MethodName) ∈ lw_g := tg_1 (List.mem_of_getElem? (i := 96) (by decide +kernel)) rfl
theorem kw1_97 : Jvm.Cond.code ({ cls := "java/util/AbstractCollection", name := "<init>", desc := "()V" } : Jvm.MethodName) prog_20_method_1_code (1 : Nat) (Option.none : Option Jvm.ClassFile.FieldType) ∈ lw_g := tg_1 (List.mem_of_getElem? (i := 97) rfl) rfl
theorem kw1_98 : Jvm.Cond.methodLink "java/util/AbstractCollection" (1 : Nat) ({ cls := "java/lang/Object", name := "<init>", desc := "()V" } : Jvm.MethodName) ∈ lw_g := tg_1 (List.mem_of_getElem? (i := 98) (by decide +kernel)) rfl
theorem kw1_99 : Jvm.Cond.fieldLink "java/util/ArrayList" (39 : Nat) "java/util/ArrayList" "DEFAULTCAPACITY_EMPTY_ELEMENTDATA" "[Ljava/lang/Object;" ∈ lw_g := tg_1 (List.mem_of_getElem? (i := 99) (by decide +kernel)) rfl
theorem kw1_101 : Jvm.Cond.fieldLink "java/util/ArrayList" (9 : Nat) "java/util/ArrayList" "elementData" "[Ljava/lang/Object;" ∈ lw_g := tg_1 (List.mem_of_getElem? (i := 101) (by decide +kernel)) rfl
theorem kw1_102 : Jvm.Cond.fieldLink "java/util/ArrayList" (48 : Nat) "java/util/ArrayList" "size" "I" ∈ lw_g := tg_1 (List.mem_of_getElem? (i := 102) (by decide +kernel)) rfl
theorem kw1_103 : Jvm.Cond.fieldLink "java/util/AbstractList" (7 : Nat) "java/util/AbstractList" "modCount" "I" ∈ lw_g := tg_1 (List.mem_of_getElem? (i := 103) (by decide +kernel)) rfl
theorem kw1_104 : Jvm.Cond.fieldLink "java/util/ArrayList" (63 : Nat) "java/util/ArrayList" "modCount" "I" ∈ lw_g := tg_1 (List.mem_of_getElem? (i := 104) (by decide +kernel)) rfl
theorem kw1_113 : Jvm.Cond.fieldLink "TransitGate$Table" (12 : Nat) "TransitGate$Table" "bindings" "Ljava/util/ArrayList;" ∈ lw_g := tg_1 (List.mem_of_getElem? (i := 113) (by decide +kernel)) rfl
theorem kw1_114 : Jvm.Cond.fieldLink "TransitGate$Table" (18 : Nat) "TransitGate$Table" "sessions" "Ljava/util/ArrayList;" ∈ lw_g := tg_1 (List.mem_of_getElem? (i := 114) (by decide +kernel)) rfl
theorem kw1_115 : Jvm.Cond.fieldLink "TransitGate$Table" (21 : Nat) "TransitGate$Table" "time" "J" ∈ lw_g := tg_1 (List.mem_of_getElem? (i := 115) (by decide +kernel)) rfl
theorem kw1_123 : Jvm.Cond.fieldLink "TransitGate" (14 : Nat) "TransitGate" "tape" "LTransitGate$Bytes;" ∈ lw_g := tg_1 (List.mem_of_getElem? (i := 123) (by decide +kernel)) rfl
theorem kw1_124 : Jvm.Cond.fieldLink "TransitGate" (18 : Nat) "TransitGate" "out" "LTransitGate$Bytes;" ∈ lw_g := tg_1 (List.mem_of_getElem? (i := 124) (by decide +kernel)) rfl
theorem kw1_125 : Jvm.Cond.fieldLink "TransitGate" (24 : Nat) "TransitGate" "site" "LTransitGate$Site;" ∈ lw_g := tg_1 (List.mem_of_getElem? (i := 125) (by decide +kernel)) rfl
theorem kw1_126 : Jvm.Cond.fieldLink "TransitGate" (31 : Nat) "TransitGate" "addresses" "LTransitGate$Pool;" ∈ lw_g := tg_1 (List.mem_of_getElem? (i := 126) (by decide +kernel)) rfl
theorem kw1_127 : Jvm.Cond.fieldLink "TransitGate" (38 : Nat) "TransitGate" "table" "LTransitGate$Table;" ∈ lw_g := tg_1 (List.mem_of_getElem? (i := 127) (by decide +kernel)) rfl
theorem kw1_128 : Jvm.Cond.fieldLink "TransitGate" (42 : Nat) "TransitGate" "dropped" "[I" ∈ lw_g := tg_1 (List.mem_of_getElem? (i := 128) (by decide +kernel)) rfl
theorem kw1_129 : Jvm.Cond.fieldLink "TransitGate" (46 : Nat) "TransitGate" "made" "I" ∈ lw_g := tg_1 (List.mem_of_getElem? (i := 129) (by decide +kernel)) rfl
theorem kw1_130 : Jvm.Cond.fieldLink "TransitGate" (50 : Nat) "TransitGate" "identification" "I" ∈ lw_g := tg_1 (List.mem_of_getElem? (i := 130) (by decide +kernel)) rfl
theorem kw1_148 : Jvm.Cond.methodLink "TransitGateLaw" (15 : Nat) ({ cls := "TransitGate", name := "prefix", desc := "(JJI)Z" } : Jvm.MethodName) ∈ lw_g := tg_1 (List.mem_of_getElem? (i := 148) (by decide +kernel)) rfl
theorem kw1_149 : Jvm.Cond.instanceMethod ({ cls := "TransitGate", name := "prefix", desc := "(JJI)Z" } : Jvm.MethodName) ∈ lw_g := tg_1 (List.mem_of_getElem? (i := 149) (by decide +kernel)) rfl
theorem kw1_150 : Jvm.Cond.selects "TransitGate" ({ cls := "TransitGate", name := "prefix", desc := "(JJI)Z" } : Jvm.MethodName) ({ cls := "TransitGate", name := "prefix", desc := "(JJI)Z" } : Jvm.MethodName) ∈ lw_g := tg_1 (List.mem_of_getElem? (i := 150) (by decide +kernel)) rfl
theorem kw1_151 : Jvm.Cond.code ({ cls := "TransitGate", name := "prefix", desc := "(JJI)Z" } : Jvm.MethodName) prog_1_method_2_code (6 : Nat) (Option.some Jvm.ClassFile.FieldType.boolean) ∈ lw_g := tg_1 (List.mem_of_getElem? (i := 151) rfl) rfl
theorem kw1_152 : Jvm.Cond.methodLink "TransitGate" (53 : Nat) ({ cls := "TransitGate$Site", name := "settle", desc := "(JJI)Z" } : Jvm.MethodName) ∈ lw_g := tg_1 (List.mem_of_getElem? (i := 152) (by decide +kernel)) rfl
theorem kw1_153 : Jvm.Cond.instanceMethod ({ cls := "TransitGate$Site", name := "settle", desc := "(JJI)Z" } : Jvm.MethodName) ∈ lw_g := tg_1 (List.mem_of_getElem? (i := 153) (by decide +kernel)) rfl
theorem kw1_154 : Jvm.Cond.selects "TransitGate$Site" ({ cls := "TransitGate$Site", name := "settle", desc := "(JJI)Z" } : Jvm.MethodName) ({ cls := "TransitGate$Site", name := "settle", desc := "(JJI)Z" } : Jvm.MethodName) ∈ lw_g := tg_1 (List.mem_of_getElem? (i := 154) (by decide +kernel)) rfl
theorem kw1_155 : Jvm.Cond.code ({ cls := "TransitGate$Site", name := "settle", desc := "(JJI)Z" } : Jvm.MethodName) prog_10_method_4_code (6 : Nat) (Option.some Jvm.ClassFile.FieldType.boolean) ∈ lw_g := tg_1 (List.mem_of_getElem? (i := 155) rfl) rfl
theorem kw1_156 : Jvm.Cond.constantLong "TransitGate$Site" (17 : Nat) (-4294967296 : Int64) ∈ lw_g := tg_1 (List.mem_of_getElem? (i := 156) (by decide +kernel)) rfl
theorem kw1_157 : Jvm.Cond.methodLink "TransitGate$Site" (22 : Nat) ({ cls := "TransitGate$Site", name := "headMask", desc := "(I)J" } : Jvm.MethodName) ∈ lw_g := tg_1 (List.mem_of_getElem? (i := 157) (by decide +kernel)) rfl
theorem kw1_158 : Jvm.Cond.static ({ cls := "TransitGate$Site", name := "headMask", desc := "(I)J" } : Jvm.MethodName) ∈ lw_g := tg_1 (List.mem_of_getElem? (i := 158) (by decide +kernel)) rfl
theorem kw1_159 : Jvm.Cond.code ({ cls := "TransitGate$Site", name := "headMask", desc := "(I)J" } : Jvm.MethodName) prog_10_method_9_code (1 : Nat) (Option.some Jvm.ClassFile.FieldType.long) ∈ lw_g := tg_1 (List.mem_of_getElem? (i := 159) rfl) rfl
theorem kw1_160 : Jvm.Cond.constantLong "TransitGate$Site" (34 : Nat) (-1 : Int64) ∈ lw_g := tg_1 (List.mem_of_getElem? (i := 160) (by decide +kernel)) rfl
theorem kw1_161 : Jvm.Cond.methodLink "TransitGate" (57 : Nat) ({ cls := "TransitGate$Table", name := "forget", desc := "()V" } : Jvm.MethodName) ∈ lw_g := tg_1 (List.mem_of_getElem? (i := 161) (by decide +kernel)) rfl
theorem kw1_162 : Jvm.Cond.instanceMethod ({ cls := "TransitGate$Table", name := "forget", desc := "()V" } : Jvm.MethodName) ∈ lw_g := tg_1 (List.mem_of_getElem? (i := 162) (by decide +kernel)) rfl
theorem kw1_163 : Jvm.Cond.selects "TransitGate$Table" ({ cls := "TransitGate$Table", name := "forget", desc := "()V" } : Jvm.MethodName) ({ cls := "TransitGate$Table", name := "forget", desc := "()V" } : Jvm.MethodName) ∈ lw_g := tg_1 (List.mem_of_getElem? (i := 163) (by decide +kernel)) rfl
theorem kw1_164 : Jvm.Cond.code ({ cls := "TransitGate$Table", name := "forget", desc := "()V" } : Jvm.MethodName) prog_12_method_7_code (1 : Nat) (Option.none : Option Jvm.ClassFile.FieldType) ∈ lw_g := tg_1 (List.mem_of_getElem? (i := 164) rfl) rfl
theorem kw1_165 : Jvm.Cond.methodLink "TransitGate$Table" (37 : Nat) ({ cls := "java/util/ArrayList", name := "clear", desc := "()V" } : Jvm.MethodName) ∈ lw_g := tg_1 (List.mem_of_getElem? (i := 165) (by decide +kernel)) rfl
theorem kw1_166 : Jvm.Cond.instanceMethod ({ cls := "java/util/ArrayList", name := "clear", desc := "()V" } : Jvm.MethodName) ∈ lw_g := tg_1 (List.mem_of_getElem? (i := 166) (by decide +kernel)) rfl
theorem kw1_167 : Jvm.Cond.selects "java/util/ArrayList" ({ cls := "java/util/ArrayList", name := "clear", desc := "()V" } : Jvm.MethodName) ({ cls := "java/util/ArrayList", name := "clear", desc := "()V" } : Jvm.MethodName) ∈ lw_g := tg_1 (List.mem_of_getElem? (i := 167) (by decide +kernel)) rfl
theorem kw1_168 : Jvm.Cond.code ({ cls := "java/util/ArrayList", name := "clear", desc := "()V" } : Jvm.MethodName) prog_22_method_40_code (4 : Nat) (Option.none : Option Jvm.ClassFile.FieldType) ∈ lw_g := tg_1 (List.mem_of_getElem? (i := 168) rfl) rfl
theorem kw1_169 : Jvm.Cond.methodLink "TransitGateLaw" (20 : Nat) ({ cls := "TransitGate", name := "pool", desc := "(I)I" } : Jvm.MethodName) ∈ lw_g := tg_1 (List.mem_of_getElem? (i := 169) (by decide +kernel)) rfl
theorem kw1_170 : Jvm.Cond.instanceMethod ({ cls := "TransitGate", name := "pool", desc := "(I)I" } : Jvm.MethodName) ∈ lw_g := tg_1 (List.mem_of_getElem? (i := 170) (by decide +kernel)) rfl
theorem kw1_171 : Jvm.Cond.selects "TransitGate" ({ cls := "TransitGate", name := "pool", desc := "(I)I" } : Jvm.MethodName) ({ cls := "TransitGate", name := "pool", desc := "(I)I" } : Jvm.MethodName) ∈ lw_g := tg_1 (List.mem_of_getElem? (i := 171) (by decide +kernel)) rfl
theorem kw1_172 : Jvm.Cond.code ({ cls := "TransitGate", name := "pool", desc := "(I)I" } : Jvm.MethodName) prog_1_method_3_code (2 : Nat) (Option.some Jvm.ClassFile.FieldType.int) ∈ lw_g := tg_1 (List.mem_of_getElem? (i := 172) rfl) rfl
theorem kw1_173 : Jvm.Cond.methodLink "TransitGate" (60 : Nat) ({ cls := "TransitGate$Pool", name := "join", desc := "(I)I" } : Jvm.MethodName) ∈ lw_g := tg_1 (List.mem_of_getElem? (i := 173) (by decide +kernel)) rfl
theorem kw1_174 : Jvm.Cond.instanceMethod ({ cls := "TransitGate$Pool", name := "join", desc := "(I)I" } : Jvm.MethodName) ∈ lw_g := tg_1 (List.mem_of_getElem? (i := 174) (by decide +kernel)) rfl
theorem kw1_175 : Jvm.Cond.selects "TransitGate$Pool" ({ cls := "TransitGate$Pool", name := "join", desc := "(I)I" } : Jvm.MethodName) ({ cls := "TransitGate$Pool", name := "join", desc := "(I)I" } : Jvm.MethodName) ∈ lw_g := tg_1 (List.mem_of_getElem? (i := 175) (by decide +kernel)) rfl
theorem kw1_176 : Jvm.Cond.code ({ cls := "TransitGate$Pool", name := "join", desc := "(I)I" } : Jvm.MethodName) prog_7_method_7_code (2 : Nat) (Option.some Jvm.ClassFile.FieldType.int) ∈ lw_g := tg_1 (List.mem_of_getElem? (i := 176) rfl) rfl
theorem kw1_177 : Jvm.Cond.methodLink "TransitGate$Pool" (21 : Nat) ({ cls := "TransitGate$Pool", name := "isOdd", desc := "(I)Z" } : Jvm.MethodName) ∈ lw_g := tg_1 (List.mem_of_getElem? (i := 177) (by decide +kernel)) rfl
theorem kw1_178 : Jvm.Cond.static ({ cls := "TransitGate$Pool", name := "isOdd", desc := "(I)Z" } : Jvm.MethodName) ∈ lw_g := tg_1 (List.mem_of_getElem? (i := 178) (by decide +kernel)) rfl
theorem kw1_179 : Jvm.Cond.code ({ cls := "TransitGate$Pool", name := "isOdd", desc := "(I)Z" } : Jvm.MethodName) prog_7_method_2_code (2 : Nat) (Option.some Jvm.ClassFile.FieldType.boolean) ∈ lw_g := tg_1 (List.mem_of_getElem? (i := 179) rfl) rfl
theorem kw1_180 : Jvm.Cond.methodLink "TransitGate$Pool" (25 : Nat) ({ cls := "TransitGate$Pool", name := "has", desc := "(I)Z" } : Jvm.MethodName) ∈ lw_g := tg_1 (List.mem_of_getElem? (i := 180) (by decide +kernel)) rfl
theorem kw1_181 : Jvm.Cond.instanceMethod ({ cls := "TransitGate$Pool", name := "has", desc := "(I)Z" } : Jvm.MethodName) ∈ lw_g := tg_1 (List.mem_of_getElem? (i := 181) (by decide +kernel)) rfl
theorem kw1_182 : Jvm.Cond.selects "TransitGate$Pool" ({ cls := "TransitGate$Pool", name := "has", desc := "(I)Z" } : Jvm.MethodName) ({ cls := "TransitGate$Pool", name := "has", desc := "(I)Z" } : Jvm.MethodName) ∈ lw_g := tg_1 (List.mem_of_getElem? (i := 182) (by decide +kernel)) rfl
theorem kw1_183 : Jvm.Cond.code ({ cls := "TransitGate$Pool", name := "has", desc := "(I)Z" } : Jvm.MethodName) prog_7_method_6_code (2 : Nat) (Option.some Jvm.ClassFile.FieldType.boolean) ∈ lw_g := tg_1 (List.mem_of_getElem? (i := 183) rfl) rfl
theorem kw1_184 : Jvm.Cond.methodLink "TransitGate$Pool" (17 : Nat) ({ cls := "TransitGate$Pool", name := "numberOf", desc := "(I)I" } : Jvm.MethodName) ∈ lw_g := tg_1 (List.mem_of_getElem? (i := 184) (by decide +kernel)) rfl
theorem kw1_185 : Jvm.Cond.instanceMethod ({ cls := "TransitGate$Pool", name := "numberOf", desc := "(I)I" } : Jvm.MethodName) ∈ lw_g := tg_1 (List.mem_of_getElem? (i := 185) (by decide +kernel)) rfl
theorem kw1_186 : Jvm.Cond.selects "TransitGate$Pool" ({ cls := "TransitGate$Pool", name := "numberOf", desc := "(I)I" } : Jvm.MethodName) ({ cls := "TransitGate$Pool", name := "numberOf", desc := "(I)I" } : Jvm.MethodName) ∈ lw_g := tg_1 (List.mem_of_getElem? (i := 186) (by decide +kernel)) rfl
theorem kw1_187 : Jvm.Cond.code ({ cls := "TransitGate$Pool", name := "numberOf", desc := "(I)I" } : Jvm.MethodName) prog_7_method_5_code (3 : Nat) (Option.some Jvm.ClassFile.FieldType.int) ∈ lw_g := tg_1 (List.mem_of_getElem? (i := 187) rfl) rfl
theorem kw1_188 : Jvm.Cond.methodLink "TransitGateLaw" (25 : Nat) ({ cls := "TransitGate", name := "high", desc := "(I)J" } : Jvm.MethodName) ∈ lw_g := tg_1 (List.mem_of_getElem? (i := 188) (by decide +kernel)) rfl
theorem kw1_189 : Jvm.Cond.instanceMethod ({ cls := "TransitGate", name := "high", desc := "(I)J" } : Jvm.MethodName) ∈ lw_g := tg_1 (List.mem_of_getElem? (i := 189) (by decide +kernel)) rfl
theorem kw1_190 : Jvm.Cond.selects "TransitGate" ({ cls := "TransitGate", name := "high", desc := "(I)J" } : Jvm.MethodName) ({ cls := "TransitGate", name := "high", desc := "(I)J" } : Jvm.MethodName) ∈ lw_g := tg_1 (List.mem_of_getElem? (i := 190) (by decide +kernel)) rfl
theorem kw1_191 : Jvm.Cond.code ({ cls := "TransitGate", name := "high", desc := "(I)J" } : Jvm.MethodName) prog_1_method_4_code (2 : Nat) (Option.some Jvm.ClassFile.FieldType.long) ∈ lw_g := tg_1 (List.mem_of_getElem? (i := 191) rfl) rfl
theorem kw1_192 : Jvm.Cond.methodLink "TransitGate" (64 : Nat) ({ cls := "TransitGate$Site", name := "embedHigh", desc := "(I)J" } : Jvm.MethodName) ∈ lw_g := tg_1 (List.mem_of_getElem? (i := 192) (by decide +kernel)) rfl
theorem kw1_193 : Jvm.Cond.instanceMethod ({ cls := "TransitGate$Site", name := "embedHigh", desc := "(I)J" } : Jvm.MethodName) ∈ lw_g := tg_1 (List.mem_of_getElem? (i := 193) (by decide +kernel)) rfl
theorem kw1_194 : Jvm.Cond.selects "TransitGate$Site" ({ cls := "TransitGate$Site", name := "embedHigh", desc := "(I)J" } : Jvm.MethodName) ({ cls := "TransitGate$Site", name := "embedHigh", desc := "(I)J" } : Jvm.MethodName) ∈ lw_g := tg_1 (List.mem_of_getElem? (i := 194) (by decide +kernel)) rfl
theorem kw1_195 : Jvm.Cond.code ({ cls := "TransitGate$Site", name := "embedHigh", desc := "(I)J" } : Jvm.MethodName) prog_10_method_5_code (2 : Nat) (Option.some Jvm.ClassFile.FieldType.long) ∈ lw_g := tg_1 (List.mem_of_getElem? (i := 195) rfl) rfl
theorem kw1_196 : Jvm.Cond.constantLong "TransitGate$Site" (29 : Nat) (4294967295 : Int64) ∈ lw_g := tg_1 (List.mem_of_getElem? (i := 196) (by decide +kernel)) rfl
theorem kw1_197 : Jvm.Cond.methodLink "TransitGateLaw" (30 : Nat) ({ cls := "TransitGate", name := "low", desc := "(I)J" } : Jvm.MethodName) ∈ lw_g := tg_1 (List.mem_of_getElem? (i := 197) (by decide +kernel)) rfl
theorem kw1_198 : Jvm.Cond.instanceMethod ({ cls := "TransitGate", name := "low", desc := "(I)J" } : Jvm.MethodName) ∈ lw_g := tg_1 (List.mem_of_getElem? (i := 198) (by decide +kernel)) rfl
theorem kw1_199 : Jvm.Cond.selects "TransitGate" ({ cls := "TransitGate", name := "low", desc := "(I)J" } : Jvm.MethodName) ({ cls := "TransitGate", name := "low", desc := "(I)J" } : Jvm.MethodName) ∈ lw_g := tg_1 (List.mem_of_getElem? (i := 199) (by decide +kernel)) rfl
theorem kw1_200 : Jvm.Cond.code ({ cls := "TransitGate", name := "low", desc := "(I)J" } : Jvm.MethodName) prog_1_method_5_code (2 : Nat) (Option.some Jvm.ClassFile.FieldType.long) ∈ lw_g := tg_1 (List.mem_of_getElem? (i := 200) rfl) rfl
theorem kw1_201 : Jvm.Cond.methodLink "TransitGate" (68 : Nat) ({ cls := "TransitGate$Site", name := "embedLow", desc := "(I)J" } : Jvm.MethodName) ∈ lw_g := tg_1 (List.mem_of_getElem? (i := 201) (by decide +kernel)) rfl
theorem kw1_202 : Jvm.Cond.instanceMethod ({ cls := "TransitGate$Site", name := "embedLow", desc := "(I)J" } : Jvm.MethodName) ∈ lw_g := tg_1 (List.mem_of_getElem? (i := 202) (by decide +kernel)) rfl
theorem kw1_203 : Jvm.Cond.selects "TransitGate$Site" ({ cls := "TransitGate$Site", name := "embedLow", desc := "(I)J" } : Jvm.MethodName) ({ cls := "TransitGate$Site", name := "embedLow", desc := "(I)J" } : Jvm.MethodName) ∈ lw_g := tg_1 (List.mem_of_getElem? (i := 203) (by decide +kernel)) rfl
theorem kw1_204 : Jvm.Cond.code ({ cls := "TransitGate$Site", name := "embedLow", desc := "(I)J" } : Jvm.MethodName) prog_10_method_6_code (4 : Nat) (Option.some Jvm.ClassFile.FieldType.long) ∈ lw_g := tg_1 (List.mem_of_getElem? (i := 204) rfl) rfl
theorem kw1_205 : Jvm.Cond.methodLink "TransitGate$Site" (31 : Nat) ({ cls := "TransitGate$Site", name := "tailMask", desc := "(I)J" } : Jvm.MethodName) ∈ lw_g := tg_1 (List.mem_of_getElem? (i := 205) (by decide +kernel)) rfl
theorem kw1_206 : Jvm.Cond.static ({ cls := "TransitGate$Site", name := "tailMask", desc := "(I)J" } : Jvm.MethodName) ∈ lw_g := tg_1 (List.mem_of_getElem? (i := 206) (by decide +kernel)) rfl
theorem kw1_207 : Jvm.Cond.code ({ cls := "TransitGate$Site", name := "tailMask", desc := "(I)J" } : Jvm.MethodName) prog_10_method_10_code (1 : Nat) (Option.some Jvm.ClassFile.FieldType.long) ∈ lw_g := tg_1 (List.mem_of_getElem? (i := 207) rfl) rfl
theorem kw1_208 : Jvm.Cond.methodLink "TransitGateLaw" (34 : Nat) ({ cls := "TransitGate", name := "drawn", desc := "(JJ)J" } : Jvm.MethodName) ∈ lw_g := tg_1 (List.mem_of_getElem? (i := 208) (by decide +kernel)) rfl
theorem kw1_209 : Jvm.Cond.instanceMethod ({ cls := "TransitGate", name := "drawn", desc := "(JJ)J" } : Jvm.MethodName) ∈ lw_g := tg_1 (List.mem_of_getElem? (i := 209) (by decide +kernel)) rfl
theorem kw1_210 : Jvm.Cond.selects "TransitGate" ({ cls := "TransitGate", name := "drawn", desc := "(JJ)J" } : Jvm.MethodName) ({ cls := "TransitGate", name := "drawn", desc := "(JJ)J" } : Jvm.MethodName) ∈ lw_g := tg_1 (List.mem_of_getElem? (i := 210) (by decide +kernel)) rfl
theorem kw1_211 : Jvm.Cond.code ({ cls := "TransitGate", name := "drawn", desc := "(JJ)J" } : Jvm.MethodName) prog_1_method_6_code (5 : Nat) (Option.some Jvm.ClassFile.FieldType.long) ∈ lw_g := tg_1 (List.mem_of_getElem? (i := 211) rfl) rfl
theorem kw1_212 : Jvm.Cond.methodLink "TransitGate" (71 : Nat) ({ cls := "TransitGate$Site", name := "draw", desc := "(JJ)J" } : Jvm.MethodName) ∈ lw_g := tg_1 (List.mem_of_getElem? (i := 212) (by decide +kernel)) rfl
theorem kw1_213 : Jvm.Cond.instanceMethod ({ cls := "TransitGate$Site", name := "draw", desc := "(JJ)J" } : Jvm.MethodName) ∈ lw_g := tg_1 (List.mem_of_getElem? (i := 213) (by decide +kernel)) rfl
theorem kw1_214 : Jvm.Cond.selects "TransitGate$Site" ({ cls := "TransitGate$Site", name := "draw", desc := "(JJ)J" } : Jvm.MethodName) ({ cls := "TransitGate$Site", name := "draw", desc := "(JJ)J" } : Jvm.MethodName) ∈ lw_g := tg_1 (List.mem_of_getElem? (i := 214) (by decide +kernel)) rfl
theorem kw1_215 : Jvm.Cond.code ({ cls := "TransitGate$Site", name := "draw", desc := "(JJ)J" } : Jvm.MethodName) prog_10_method_7_code (9 : Nat) (Option.some Jvm.ClassFile.FieldType.long) ∈ lw_g := tg_1 (List.mem_of_getElem? (i := 215) rfl) rfl
theorem kw1_216 : Jvm.Cond.methodLink "TransitGateLaw" (39 : Nat) ({ cls := "TransitGate", name := "feed", desc := "(IIIII)Z" } : Jvm.MethodName) ∈ lw_g := tg_1 (List.mem_of_getElem? (i := 216) (by decide +kernel)) rfl
theorem kw1_217 : Jvm.Cond.instanceMethod ({ cls := "TransitGate", name := "feed", desc := "(IIIII)Z" } : Jvm.MethodName) ∈ lw_g := tg_1 (List.mem_of_getElem? (i := 217) (by decide +kernel)) rfl
theorem kw1_218 : Jvm.Cond.selects "TransitGate" ({ cls := "TransitGate", name := "feed", desc := "(IIIII)Z" } : Jvm.MethodName) ({ cls := "TransitGate", name := "feed", desc := "(IIIII)Z" } : Jvm.MethodName) ∈ lw_g := tg_1 (List.mem_of_getElem? (i := 218) (by decide +kernel)) rfl
theorem kw1_219 : Jvm.Cond.code ({ cls := "TransitGate", name := "feed", desc := "(IIIII)Z" } : Jvm.MethodName) prog_1_method_7_code (7 : Nat) (Option.some Jvm.ClassFile.FieldType.boolean) ∈ lw_g := tg_1 (List.mem_of_getElem? (i := 219) rfl) rfl
theorem kw1_220 : Jvm.Cond.methodLink "TransitGate" (75 : Nat) ({ cls := "TransitGate$Bytes", name := "length", desc := "()I" } : Jvm.MethodName) ∈ lw_g := tg_1 (List.mem_of_getElem? (i := 220) (by decide +kernel)) rfl
theorem kw1_221 : Jvm.Cond.instanceMethod ({ cls := "TransitGate$Bytes", name := "length", desc := "()I" } : Jvm.MethodName) ∈ lw_g := tg_1 (List.mem_of_getElem? (i := 221) (by decide +kernel)) rfl
theorem kw1_222 : Jvm.Cond.selects "TransitGate$Bytes" ({ cls := "TransitGate$Bytes", name := "length", desc := "()I" } : Jvm.MethodName) ({ cls := "TransitGate$Bytes", name := "length", desc := "()I" } : Jvm.MethodName) ∈ lw_g := tg_1 (List.mem_of_getElem? (i := 222) (by decide +kernel)) rfl
theorem kw1_223 : Jvm.Cond.code ({ cls := "TransitGate$Bytes", name := "length", desc := "()I" } : Jvm.MethodName) prog_3_method_2_code (1 : Nat) (Option.some Jvm.ClassFile.FieldType.int) ∈ lw_g := tg_1 (List.mem_of_getElem? (i := 223) rfl) rfl
theorem kw1_224 : Jvm.Cond.methodLink "TransitGate" (79 : Nat) ({ cls := "TransitGate$Bytes", name := "resize", desc := "(I)V" } : Jvm.MethodName) ∈ lw_g := tg_1 (List.mem_of_getElem? (i := 224) (by decide +kernel)) rfl
theorem kw1_225 : Jvm.Cond.instanceMethod ({ cls := "TransitGate$Bytes", name := "resize", desc := "(I)V" } : Jvm.MethodName) ∈ lw_g := tg_1 (List.mem_of_getElem? (i := 225) (by decide +kernel)) rfl
theorem kw1_226 : Jvm.Cond.selects "TransitGate$Bytes" ({ cls := "TransitGate$Bytes", name := "resize", desc := "(I)V" } : Jvm.MethodName) ({ cls := "TransitGate$Bytes", name := "resize", desc := "(I)V" } : Jvm.MethodName) ∈ lw_g := tg_1 (List.mem_of_getElem? (i := 226) (by decide +kernel)) rfl
theorem kw1_227 : Jvm.Cond.code ({ cls := "TransitGate$Bytes", name := "resize", desc := "(I)V" } : Jvm.MethodName) prog_3_method_3_code (2 : Nat) (Option.none : Option Jvm.ClassFile.FieldType) ∈ lw_g := tg_1 (List.mem_of_getElem? (i := 227) rfl) rfl
theorem kw1_228 : Jvm.Cond.methodLink "TransitGate$Bytes" (23 : Nat) ({ cls := "java/lang/Math", name := "min", desc := "(II)I" } : Jvm.MethodName) ∈ lw_g := tg_1 (List.mem_of_getElem? (i := 228) (by decide +kernel)) rfl
theorem kw1_229 : Jvm.Cond.static ({ cls := "java/lang/Math", name := "min", desc := "(II)I" } : Jvm.MethodName) ∈ lw_g := tg_1 (List.mem_of_getElem? (i := 229) (by decide +kernel)) rfl
theorem kw1_230 : Jvm.Cond.code ({ cls := "java/lang/Math", name := "min", desc := "(II)I" } : Jvm.MethodName) prog_18_method_69_code (2 : Nat) (Option.some Jvm.ClassFile.FieldType.int) ∈ lw_g := tg_1 (List.mem_of_getElem? (i := 230) rfl) rfl
theorem kw1_231 : Jvm.Cond.methodLink "TransitGate" (82 : Nat) ({ cls := "TransitGate$Bytes", name := "putQuad", desc := "(II)V" } : Jvm.MethodName) ∈ lw_g := tg_1 (List.mem_of_getElem? (i := 231) (by decide +kernel)) rfl
theorem kw1_232 : Jvm.Cond.instanceMethod ({ cls := "TransitGate$Bytes", name := "putQuad", desc := "(II)V" } : Jvm.MethodName) ∈ lw_g := tg_1 (List.mem_of_getElem? (i := 232) (by decide +kernel)) rfl
theorem kw1_233 : Jvm.Cond.selects "TransitGate$Bytes" ({ cls := "TransitGate$Bytes", name := "putQuad", desc := "(II)V" } : Jvm.MethodName) ({ cls := "TransitGate$Bytes", name := "putQuad", desc := "(II)V" } : Jvm.MethodName) ∈ lw_g := tg_1 (List.mem_of_getElem? (i := 233) (by decide +kernel)) rfl
theorem kw1_234 : Jvm.Cond.code ({ cls := "TransitGate$Bytes", name := "putQuad", desc := "(II)V" } : Jvm.MethodName) prog_3_method_10_code (3 : Nat) (Option.none : Option Jvm.ClassFile.FieldType) ∈ lw_g := tg_1 (List.mem_of_getElem? (i := 234) rfl) rfl
theorem kw1_235 : Jvm.Cond.methodLink "TransitGate$Bytes" (30 : Nat) ({ cls := "TransitGate$Bytes", name := "putNumber", desc := "(IIJ)V" } : Jvm.MethodName) ∈ lw_g := tg_1 (List.mem_of_getElem? (i := 235) (by decide +kernel)) rfl
theorem kw1_237 : Jvm.Cond.instanceMethod ({ cls := "TransitGate$Bytes", name := "putNumber", desc := "(IIJ)V" } : Jvm.MethodName) ∈ lw_g := tg_1 (List.mem_of_getElem? (i := 237) (by decide +kernel)) rfl
theorem kw1_238 : Jvm.Cond.code ({ cls := "TransitGate$Bytes", name := "putNumber", desc := "(IIJ)V" } : Jvm.MethodName) prog_3_method_13_code (7 : Nat) (Option.none : Option Jvm.ClassFile.FieldType) ∈ lw_g := tg_1 (List.mem_of_getElem? (i := 238) rfl) rfl
theorem kw1_239 : Jvm.Cond.methodLink "TransitGateLaw" (44 : Nat) ({ cls := "TransitGate", name := "inside", desc := "(I)I" } : Jvm.MethodName) ∈ lw_g := tg_1 (List.mem_of_getElem? (i := 239) (by decide +kernel)) rfl
end
section
theorem kw2_0 : Jvm.Cond.instanceMethod ({ cls := "TransitGate", name := "inside", desc := "(I)I" } : Jvm.MethodName) ∈ lw_g := tg_2 (List.mem_of_getElem? (i := 0) (by decide +kernel)) rfl
theorem kw2_1 : Jvm.Cond.selects "TransitGate" ({ cls := "TransitGate", name := "inside", desc := "(I)I" } : Jvm.MethodName) ({ cls := "TransitGate", name := "inside", desc := "(I)I" } : Jvm.MethodName) ∈ lw_g := tg_2 (List.mem_of_getElem? (i := 1) (by decide +kernel)) rfl
theorem kw2_2 : Jvm.Cond.code ({ cls := "TransitGate", name := "inside", desc := "(I)I" } : Jvm.MethodName) prog_1_method_8_code (2 : Nat) (Option.some Jvm.ClassFile.FieldType.int) ∈ lw_g := tg_2 (List.mem_of_getElem? (i := 2) rfl) rfl
theorem kw2_3 : Jvm.Cond.methodLink "TransitGate" (86 : Nat) ({ cls := "TransitGate", name := "passFromInside", desc := "()I" } : Jvm.MethodName) ∈ lw_g := tg_2 (List.mem_of_getElem? (i := 3) (by decide +kernel)) rfl
theorem kw2_5 : Jvm.Cond.instanceMethod ({ cls := "TransitGate", name := "passFromInside", desc := "()I" } : Jvm.MethodName) ∈ lw_g := tg_2 (List.mem_of_getElem? (i := 5) (by decide +kernel)) rfl
theorem kw2_6 : Jvm.Cond.code ({ cls := "TransitGate", name := "passFromInside", desc := "()I" } : Jvm.MethodName) prog_1_method_21_code (6 : Nat) (Option.some Jvm.ClassFile.FieldType.int) ∈ lw_g := tg_2 (List.mem_of_getElem? (i := 6) rfl) rfl
theorem kw2_7 : Jvm.Cond.methodLink "TransitGate" (208 : Nat) ({ cls := "TransitGate$Rules", name := "faultFromInside", desc := "(LTransitGate$Bytes;LTransitGate$Site;LTransitGate$Pool;)I" } : Jvm.MethodName) ∈ lw_g := tg_2 (List.mem_of_getElem? (i := 7) (by decide +kernel)) rfl
theorem kw2_8 : Jvm.Cond.static ({ cls := "TransitGate$Rules", name := "faultFromInside", desc := "(LTransitGate$Bytes;LTransitGate$Site;LTransitGate$Pool;)I" } : Jvm.MethodName) ∈ lw_g := tg_2 (List.mem_of_getElem? (i := 8) (by decide +kernel)) rfl
theorem kw2_9 : Jvm.Cond.code ({ cls := "TransitGate$Rules", name := "faultFromInside", desc := "(LTransitGate$Bytes;LTransitGate$Site;LTransitGate$Pool;)I" } : Jvm.MethodName) prog_8_method_2_code (3 : Nat) (Option.some Jvm.ClassFile.FieldType.int) ∈ lw_g := tg_2 (List.mem_of_getElem? (i := 9) rfl) rfl
theorem kw2_10 : Jvm.Cond.methodLink "TransitGate$Rules" (9 : Nat) ({ cls := "TransitGate$Rules", name := "isFramedSix", desc := "(LTransitGate$Bytes;)Z" } : Jvm.MethodName) ∈ lw_g := tg_2 (List.mem_of_getElem? (i := 10) (by decide +kernel)) rfl
theorem kw2_11 : Jvm.Cond.static ({ cls := "TransitGate$Rules", name := "isFramedSix", desc := "(LTransitGate$Bytes;)Z" } : Jvm.MethodName) ∈ lw_g := tg_2 (List.mem_of_getElem? (i := 11) (by decide +kernel)) rfl
theorem kw2_12 : Jvm.Cond.code ({ cls := "TransitGate$Rules", name := "isFramedSix", desc := "(LTransitGate$Bytes;)Z" } : Jvm.MethodName) prog_8_method_4_code (2 : Nat) (Option.some Jvm.ClassFile.FieldType.boolean) ∈ lw_g := tg_2 (List.mem_of_getElem? (i := 12) rfl) rfl
theorem kw2_13 : Jvm.Cond.methodLink "TransitGate$Rules" (46 : Nat) ({ cls := "TransitGate$Bytes", name := "length", desc := "()I" } : Jvm.MethodName) ∈ lw_g := tg_2 (List.mem_of_getElem? (i := 13) (by decide +kernel)) rfl
theorem kw2_14 : Jvm.Cond.methodLink "TransitGate$Rules" (24 : Nat) ({ cls := "TransitGate$Bytes", name := "octet", desc := "(I)I" } : Jvm.MethodName) ∈ lw_g := tg_2 (List.mem_of_getElem? (i := 14) (by decide +kernel)) rfl
theorem kw2_15 : Jvm.Cond.instanceMethod ({ cls := "TransitGate$Bytes", name := "octet", desc := "(I)I" } : Jvm.MethodName) ∈ lw_g := tg_2 (List.mem_of_getElem? (i := 15) (by decide +kernel)) rfl
theorem kw2_16 : Jvm.Cond.selects "TransitGate$Bytes" ({ cls := "TransitGate$Bytes", name := "octet", desc := "(I)I" } : Jvm.MethodName) ({ cls := "TransitGate$Bytes", name := "octet", desc := "(I)I" } : Jvm.MethodName) ∈ lw_g := tg_2 (List.mem_of_getElem? (i := 16) (by decide +kernel)) rfl
theorem kw2_17 : Jvm.Cond.code ({ cls := "TransitGate$Bytes", name := "octet", desc := "(I)I" } : Jvm.MethodName) prog_3_method_4_code (2 : Nat) (Option.some Jvm.ClassFile.FieldType.int) ∈ lw_g := tg_2 (List.mem_of_getElem? (i := 17) rfl) rfl
theorem kw2_18 : Jvm.Cond.methodLink "TransitGate$Rules" (50 : Nat) ({ cls := "TransitGate$Bytes", name := "pair", desc := "(I)I" } : Jvm.MethodName) ∈ lw_g := tg_2 (List.mem_of_getElem? (i := 18) (by decide +kernel)) rfl
theorem kw2_19 : Jvm.Cond.instanceMethod ({ cls := "TransitGate$Bytes", name := "pair", desc := "(I)I" } : Jvm.MethodName) ∈ lw_g := tg_2 (List.mem_of_getElem? (i := 19) (by decide +kernel)) rfl
theorem kw2_20 : Jvm.Cond.selects "TransitGate$Bytes" ({ cls := "TransitGate$Bytes", name := "pair", desc := "(I)I" } : Jvm.MethodName) ({ cls := "TransitGate$Bytes", name := "pair", desc := "(I)I" } : Jvm.MethodName) ∈ lw_g := tg_2 (List.mem_of_getElem? (i := 20) (by decide +kernel)) rfl
theorem kw2_21 : Jvm.Cond.code ({ cls := "TransitGate$Bytes", name := "pair", desc := "(I)I" } : Jvm.MethodName) prog_3_method_5_code (2 : Nat) (Option.some Jvm.ClassFile.FieldType.int) ∈ lw_g := tg_2 (List.mem_of_getElem? (i := 21) rfl) rfl
theorem kw2_22 : Jvm.Cond.methodLink "TransitGate$Bytes" (26 : Nat) ({ cls := "TransitGate$Bytes", name := "number", desc := "(II)J" } : Jvm.MethodName) ∈ lw_g := tg_2 (List.mem_of_getElem? (i := 22) (by decide +kernel)) rfl
theorem kw2_24 : Jvm.Cond.instanceMethod ({ cls := "TransitGate$Bytes", name := "number", desc := "(II)J" } : Jvm.MethodName) ∈ lw_g := tg_2 (List.mem_of_getElem? (i := 24) (by decide +kernel)) rfl
theorem kw2_25 : Jvm.Cond.code ({ cls := "TransitGate$Bytes", name := "number", desc := "(II)J" } : Jvm.MethodName) prog_3_method_12_code (7 : Nat) (Option.some Jvm.ClassFile.FieldType.long) ∈ lw_g := tg_2 (List.mem_of_getElem? (i := 25) rfl) rfl
theorem kw2_26 : Jvm.Cond.methodLink "TransitGate$Rules" (15 : Nat) ({ cls := "TransitGate$Rules", name := "isKnownSix", desc := "(LTransitGate$Bytes;)Z" } : Jvm.MethodName) ∈ lw_g := tg_2 (List.mem_of_getElem? (i := 26) (by decide +kernel)) rfl
theorem kw2_27 : Jvm.Cond.static ({ cls := "TransitGate$Rules", name := "isKnownSix", desc := "(LTransitGate$Bytes;)Z" } : Jvm.MethodName) ∈ lw_g := tg_2 (List.mem_of_getElem? (i := 27) (by decide +kernel)) rfl
theorem kw2_28 : Jvm.Cond.code ({ cls := "TransitGate$Rules", name := "isKnownSix", desc := "(LTransitGate$Bytes;)Z" } : Jvm.MethodName) prog_8_method_5_code (1 : Nat) (Option.some Jvm.ClassFile.FieldType.boolean) ∈ lw_g := tg_2 (List.mem_of_getElem? (i := 28) rfl) rfl
theorem kw2_29 : Jvm.Cond.methodLink "TransitGate$Rules" (53 : Nat) ({ cls := "TransitGate$Part", name := "isSoundTcp", desc := "(LTransitGate$Bytes;I)Z" } : Jvm.MethodName) ∈ lw_g := tg_2 (List.mem_of_getElem? (i := 29) (by decide +kernel)) rfl
theorem kw2_30 : Jvm.Cond.static ({ cls := "TransitGate$Part", name := "isSoundTcp", desc := "(LTransitGate$Bytes;I)Z" } : Jvm.MethodName) ∈ lw_g := tg_2 (List.mem_of_getElem? (i := 30) (by decide +kernel)) rfl
theorem kw2_31 : Jvm.Cond.code ({ cls := "TransitGate$Part", name := "isSoundTcp", desc := "(LTransitGate$Bytes;I)Z" } : Jvm.MethodName) prog_6_method_10_code (4 : Nat) (Option.some Jvm.ClassFile.FieldType.boolean) ∈ lw_g := tg_2 (List.mem_of_getElem? (i := 31) rfl) rfl
theorem kw2_32 : Jvm.Cond.methodLink "TransitGate$Part" (30 : Nat) ({ cls := "TransitGate$Bytes", name := "length", desc := "()I" } : Jvm.MethodName) ∈ lw_g := tg_2 (List.mem_of_getElem? (i := 32) (by decide +kernel)) rfl
theorem kw2_33 : Jvm.Cond.methodLink "TransitGate$Part" (9 : Nat) ({ cls := "TransitGate$Bytes", name := "octet", desc := "(I)I" } : Jvm.MethodName) ∈ lw_g := tg_2 (List.mem_of_getElem? (i := 33) (by decide +kernel)) rfl
theorem kw2_34 : Jvm.Cond.methodLink "TransitGate$Rules" (58 : Nat) ({ cls := "TransitGate$Part", name := "isSoundUdp", desc := "(LTransitGate$Bytes;I)Z" } : Jvm.MethodName) ∈ lw_g := tg_2 (List.mem_of_getElem? (i := 34) (by decide +kernel)) rfl
theorem kw2_35 : Jvm.Cond.static ({ cls := "TransitGate$Part", name := "isSoundUdp", desc := "(LTransitGate$Bytes;I)Z" } : Jvm.MethodName) ∈ lw_g := tg_2 (List.mem_of_getElem? (i := 35) (by decide +kernel)) rfl
theorem kw2_36 : Jvm.Cond.code ({ cls := "TransitGate$Part", name := "isSoundUdp", desc := "(LTransitGate$Bytes;I)Z" } : Jvm.MethodName) prog_6_method_11_code (3 : Nat) (Option.some Jvm.ClassFile.FieldType.boolean) ∈ lw_g := tg_2 (List.mem_of_getElem? (i := 36) rfl) rfl
theorem kw2_37 : Jvm.Cond.methodLink "TransitGate$Part" (24 : Nat) ({ cls := "TransitGate$Bytes", name := "pair", desc := "(I)I" } : Jvm.MethodName) ∈ lw_g := tg_2 (List.mem_of_getElem? (i := 37) (by decide +kernel)) rfl
theorem kw2_38 : Jvm.Cond.methodLink "TransitGate$Rules" (61 : Nat) ({ cls := "TransitGate$Rules", name := "isEchoSix", desc := "(LTransitGate$Bytes;)Z" } : Jvm.MethodName) ∈ lw_g := tg_2 (List.mem_of_getElem? (i := 38) (by decide +kernel)) rfl
theorem kw2_39 : Jvm.Cond.static ({ cls := "TransitGate$Rules", name := "isEchoSix", desc := "(LTransitGate$Bytes;)Z" } : Jvm.MethodName) ∈ lw_g := tg_2 (List.mem_of_getElem? (i := 39) (by decide +kernel)) rfl
theorem kw2_40 : Jvm.Cond.code ({ cls := "TransitGate$Rules", name := "isEchoSix", desc := "(LTransitGate$Bytes;)Z" } : Jvm.MethodName) prog_8_method_6_code (2 : Nat) (Option.some Jvm.ClassFile.FieldType.boolean) ∈ lw_g := tg_2 (List.mem_of_getElem? (i := 40) rfl) rfl
theorem kw2_41 : Jvm.Cond.methodLink "TransitGate$Rules" (64 : Nat) ({ cls := "TransitGate$Part", name := "isLongEnoughIcmp", desc := "(LTransitGate$Bytes;I)Z" } : Jvm.MethodName) ∈ lw_g := tg_2 (List.mem_of_getElem? (i := 41) (by decide +kernel)) rfl
theorem kw2_42 : Jvm.Cond.static ({ cls := "TransitGate$Part", name := "isLongEnoughIcmp", desc := "(LTransitGate$Bytes;I)Z" } : Jvm.MethodName) ∈ lw_g := tg_2 (List.mem_of_getElem? (i := 42) (by decide +kernel)) rfl
theorem kw2_43 : Jvm.Cond.code ({ cls := "TransitGate$Part", name := "isLongEnoughIcmp", desc := "(LTransitGate$Bytes;I)Z" } : Jvm.MethodName) prog_6_method_12_code (2 : Nat) (Option.some Jvm.ClassFile.FieldType.boolean) ∈ lw_g := tg_2 (List.mem_of_getElem? (i := 43) rfl) rfl
theorem kw2_44 : Jvm.Cond.methodLink "TransitGate$Rules" (18 : Nat) ({ cls := "TransitGate$Sums", name := "partIsRight", desc := "(LTransitGate$Bytes;I)Z" } : Jvm.MethodName) ∈ lw_g := tg_2 (List.mem_of_getElem? (i := 44) (by decide +kernel)) rfl
theorem kw2_45 : Jvm.Cond.static ({ cls := "TransitGate$Sums", name := "partIsRight", desc := "(LTransitGate$Bytes;I)Z" } : Jvm.MethodName) ∈ lw_g := tg_2 (List.mem_of_getElem? (i := 45) (by decide +kernel)) rfl
theorem kw2_46 : Jvm.Cond.code ({ cls := "TransitGate$Sums", name := "partIsRight", desc := "(LTransitGate$Bytes;I)Z" } : Jvm.MethodName) prog_11_method_5_code (3 : Nat) (Option.some Jvm.ClassFile.FieldType.boolean) ∈ lw_g := tg_2 (List.mem_of_getElem? (i := 46) rfl) rfl
theorem kw2_47 : Jvm.Cond.methodLink "TransitGate$Sums" (19 : Nat) ({ cls := "TransitGate$Part", name := "protocolOf", desc := "(LTransitGate$Bytes;I)I" } : Jvm.MethodName) ∈ lw_g := tg_2 (List.mem_of_getElem? (i := 47) (by decide +kernel)) rfl
theorem kw2_48 : Jvm.Cond.static ({ cls := "TransitGate$Part", name := "protocolOf", desc := "(LTransitGate$Bytes;I)I" } : Jvm.MethodName) ∈ lw_g := tg_2 (List.mem_of_getElem? (i := 48) (by decide +kernel)) rfl
theorem kw2_49 : Jvm.Cond.code ({ cls := "TransitGate$Part", name := "protocolOf", desc := "(LTransitGate$Bytes;I)I" } : Jvm.MethodName) prog_6_method_3_code (2 : Nat) (Option.some Jvm.ClassFile.FieldType.int) ∈ lw_g := tg_2 (List.mem_of_getElem? (i := 49) rfl) rfl
theorem kw2_50 : Jvm.Cond.methodLink "TransitGate$Sums" (35 : Nat) ({ cls := "TransitGate$Part", name := "sumAt", desc := "(I)I" } : Jvm.MethodName) ∈ lw_g := tg_2 (List.mem_of_getElem? (i := 50) (by decide +kernel)) rfl
theorem kw2_51 : Jvm.Cond.static ({ cls := "TransitGate$Part", name := "sumAt", desc := "(I)I" } : Jvm.MethodName) ∈ lw_g := tg_2 (List.mem_of_getElem? (i := 51) (by decide +kernel)) rfl
theorem kw2_52 : Jvm.Cond.code ({ cls := "TransitGate$Part", name := "sumAt", desc := "(I)I" } : Jvm.MethodName) prog_6_method_4_code (1 : Nat) (Option.some Jvm.ClassFile.FieldType.int) ∈ lw_g := tg_2 (List.mem_of_getElem? (i := 52) rfl) rfl
theorem kw2_53 : Jvm.Cond.methodLink "TransitGate$Sums" (26 : Nat) ({ cls := "TransitGate$Bytes", name := "pair", desc := "(I)I" } : Jvm.MethodName) ∈ lw_g := tg_2 (List.mem_of_getElem? (i := 53) (by decide +kernel)) rfl
theorem kw2_54 : Jvm.Cond.methodLink "TransitGate$Sums" (38 : Nat) ({ cls := "TransitGate$Bytes", name := "length", desc := "()I" } : Jvm.MethodName) ∈ lw_g := tg_2 (List.mem_of_getElem? (i := 54) (by decide +kernel)) rfl
theorem kw2_55 : Jvm.Cond.methodLink "TransitGate$Sums" (42 : Nat) ({ cls := "TransitGate$Sums", name := "ofPart", desc := "(LTransitGate$Bytes;III)I" } : Jvm.MethodName) ∈ lw_g := tg_2 (List.mem_of_getElem? (i := 55) (by decide +kernel)) rfl
theorem kw2_56 : Jvm.Cond.static ({ cls := "TransitGate$Sums", name := "ofPart", desc := "(LTransitGate$Bytes;III)I" } : Jvm.MethodName) ∈ lw_g := tg_2 (List.mem_of_getElem? (i := 56) (by decide +kernel)) rfl
theorem kw2_57 : Jvm.Cond.code ({ cls := "TransitGate$Sums", name := "ofPart", desc := "(LTransitGate$Bytes;III)I" } : Jvm.MethodName) prog_11_method_3_code (7 : Nat) (Option.some Jvm.ClassFile.FieldType.int) ∈ lw_g := tg_2 (List.mem_of_getElem? (i := 57) rfl) rfl
theorem kw2_58 : Jvm.Cond.methodLink "TransitGate$Sums" (9 : Nat) ({ cls := "TransitGate$Sums", name := "words", desc := "(LTransitGate$Bytes;III)I" } : Jvm.MethodName) ∈ lw_g := tg_2 (List.mem_of_getElem? (i := 58) (by decide +kernel)) rfl
theorem kw2_59 : Jvm.Cond.static ({ cls := "TransitGate$Sums", name := "words", desc := "(LTransitGate$Bytes;III)I" } : Jvm.MethodName) ∈ lw_g := tg_2 (List.mem_of_getElem? (i := 59) (by decide +kernel)) rfl
theorem kw2_60 : Jvm.Cond.code ({ cls := "TransitGate$Sums", name := "words", desc := "(LTransitGate$Bytes;III)I" } : Jvm.MethodName) prog_11_method_7_code (6 : Nat) (Option.some Jvm.ClassFile.FieldType.int) ∈ lw_g := tg_2 (List.mem_of_getElem? (i := 60) rfl) rfl
theorem kw2_61 : Jvm.Cond.methodLink "TransitGate$Sums" (49 : Nat) ({ cls := "TransitGate$Bytes", name := "octet", desc := "(I)I" } : Jvm.MethodName) ∈ lw_g := tg_2 (List.mem_of_getElem? (i := 61) (by decide +kernel)) rfl
theorem kw2_62 : Jvm.Cond.methodLink "TransitGate$Sums" (15 : Nat) ({ cls := "TransitGate$Sums", name := "closed", desc := "(I)I" } : Jvm.MethodName) ∈ lw_g := tg_2 (List.mem_of_getElem? (i := 62) (by decide +kernel)) rfl
theorem kw2_63 : Jvm.Cond.static ({ cls := "TransitGate$Sums", name := "closed", desc := "(I)I" } : Jvm.MethodName) ∈ lw_g := tg_2 (List.mem_of_getElem? (i := 63) (by decide +kernel)) rfl
theorem kw2_64 : Jvm.Cond.code ({ cls := "TransitGate$Sums", name := "closed", desc := "(I)I" } : Jvm.MethodName) prog_11_method_8_code (3 : Nat) (Option.some Jvm.ClassFile.FieldType.int) ∈ lw_g := tg_2 (List.mem_of_getElem? (i := 64) rfl) rfl
theorem kw2_65 : Jvm.Cond.constant "TransitGate$Sums" (25 : Nat) (65535 : Int32) ∈ lw_g := tg_2 (List.mem_of_getElem? (i := 65) (by decide +kernel)) rfl
theorem kw2_66 : Jvm.Cond.methodLink "TransitGate$Rules" (30 : Nat) ({ cls := "TransitGate$Rules", name := "isPlacedSix", desc := "(LTransitGate$Bytes;LTransitGate$Site;LTransitGate$Pool;)Z" } : Jvm.MethodName) ∈ lw_g := tg_2 (List.mem_of_getElem? (i := 66) (by decide +kernel)) rfl
theorem kw2_67 : Jvm.Cond.static ({ cls := "TransitGate$Rules", name := "isPlacedSix", desc := "(LTransitGate$Bytes;LTransitGate$Site;LTransitGate$Pool;)Z" } : Jvm.MethodName) ∈ lw_g := tg_2 (List.mem_of_getElem? (i := 67) (by decide +kernel)) rfl
theorem kw2_68 : Jvm.Cond.code ({ cls := "TransitGate$Rules", name := "isPlacedSix", desc := "(LTransitGate$Bytes;LTransitGate$Site;LTransitGate$Pool;)Z" } : Jvm.MethodName) prog_8_method_7_code (5 : Nat) (Option.some Jvm.ClassFile.FieldType.boolean) ∈ lw_g := tg_2 (List.mem_of_getElem? (i := 68) rfl) rfl
theorem kw2_69 : Jvm.Cond.methodLink "TransitGate$Rules" (67 : Nat) ({ cls := "TransitGate$Site", name := "isSet", desc := "()Z" } : Jvm.MethodName) ∈ lw_g := tg_2 (List.mem_of_getElem? (i := 69) (by decide +kernel)) rfl
theorem kw2_70 : Jvm.Cond.instanceMethod ({ cls := "TransitGate$Site", name := "isSet", desc := "()Z" } : Jvm.MethodName) ∈ lw_g := tg_2 (List.mem_of_getElem? (i := 70) (by decide +kernel)) rfl
theorem kw2_71 : Jvm.Cond.selects "TransitGate$Site" ({ cls := "TransitGate$Site", name := "isSet", desc := "()Z" } : Jvm.MethodName) ({ cls := "TransitGate$Site", name := "isSet", desc := "()Z" } : Jvm.MethodName) ∈ lw_g := tg_2 (List.mem_of_getElem? (i := 71) (by decide +kernel)) rfl
theorem kw2_72 : Jvm.Cond.code ({ cls := "TransitGate$Site", name := "isSet", desc := "()Z" } : Jvm.MethodName) prog_10_method_3_code (1 : Nat) (Option.some Jvm.ClassFile.FieldType.boolean) ∈ lw_g := tg_2 (List.mem_of_getElem? (i := 72) rfl) rfl
theorem kw2_73 : Jvm.Cond.methodLink "TransitGate$Rules" (73 : Nat) ({ cls := "TransitGate$Pool", name := "size", desc := "()I" } : Jvm.MethodName) ∈ lw_g := tg_2 (List.mem_of_getElem? (i := 73) (by decide +kernel)) rfl
theorem kw2_74 : Jvm.Cond.instanceMethod ({ cls := "TransitGate$Pool", name := "size", desc := "()I" } : Jvm.MethodName) ∈ lw_g := tg_2 (List.mem_of_getElem? (i := 74) (by decide +kernel)) rfl
theorem kw2_75 : Jvm.Cond.selects "TransitGate$Pool" ({ cls := "TransitGate$Pool", name := "size", desc := "()I" } : Jvm.MethodName) ({ cls := "TransitGate$Pool", name := "size", desc := "()I" } : Jvm.MethodName) ∈ lw_g := tg_2 (List.mem_of_getElem? (i := 75) (by decide +kernel)) rfl
theorem kw2_76 : Jvm.Cond.code ({ cls := "TransitGate$Pool", name := "size", desc := "()I" } : Jvm.MethodName) prog_7_method_3_code (1 : Nat) (Option.some Jvm.ClassFile.FieldType.int) ∈ lw_g := tg_2 (List.mem_of_getElem? (i := 76) rfl) rfl
theorem kw2_77 : Jvm.Cond.methodLink "TransitGate$Rules" (78 : Nat) ({ cls := "TransitGate$Bytes", name := "eight", desc := "(I)J" } : Jvm.MethodName) ∈ lw_g := tg_2 (List.mem_of_getElem? (i := 77) (by decide +kernel)) rfl
theorem kw2_78 : Jvm.Cond.instanceMethod ({ cls := "TransitGate$Bytes", name := "eight", desc := "(I)J" } : Jvm.MethodName) ∈ lw_g := tg_2 (List.mem_of_getElem? (i := 78) (by decide +kernel)) rfl
theorem kw2_79 : Jvm.Cond.selects "TransitGate$Bytes" ({ cls := "TransitGate$Bytes", name := "eight", desc := "(I)J" } : Jvm.MethodName) ({ cls := "TransitGate$Bytes", name := "eight", desc := "(I)J" } : Jvm.MethodName) ∈ lw_g := tg_2 (List.mem_of_getElem? (i := 79) (by decide +kernel)) rfl
theorem kw2_80 : Jvm.Cond.code ({ cls := "TransitGate$Bytes", name := "eight", desc := "(I)J" } : Jvm.MethodName) prog_3_method_7_code (2 : Nat) (Option.some Jvm.ClassFile.FieldType.long) ∈ lw_g := tg_2 (List.mem_of_getElem? (i := 80) rfl) rfl
theorem kw2_81 : Jvm.Cond.methodLink "TransitGate$Rules" (82 : Nat) ({ cls := "TransitGate$Site", name := "draw", desc := "(JJ)J" } : Jvm.MethodName) ∈ lw_g := tg_2 (List.mem_of_getElem? (i := 81) (by decide +kernel)) rfl
theorem kw2_82 : Jvm.Cond.methodLink "TransitGate$Rules" (86 : Nat) ({ cls := "TransitGate$Pool", name := "isOdd", desc := "(I)Z" } : Jvm.MethodName) ∈ lw_g := tg_2 (List.mem_of_getElem? (i := 82) (by decide +kernel)) rfl
theorem kw2_83 : Jvm.Cond.methodLink "TransitGate$Rules" (90 : Nat) ({ cls := "TransitGate$Site", name := "covers", desc := "(JJ)Z" } : Jvm.MethodName) ∈ lw_g := tg_2 (List.mem_of_getElem? (i := 83) (by decide +kernel)) rfl
theorem kw2_84 : Jvm.Cond.instanceMethod ({ cls := "TransitGate$Site", name := "covers", desc := "(JJ)Z" } : Jvm.MethodName) ∈ lw_g := tg_2 (List.mem_of_getElem? (i := 84) (by decide +kernel)) rfl
theorem kw2_85 : Jvm.Cond.selects "TransitGate$Site" ({ cls := "TransitGate$Site", name := "covers", desc := "(JJ)Z" } : Jvm.MethodName) ({ cls := "TransitGate$Site", name := "covers", desc := "(JJ)Z" } : Jvm.MethodName) ∈ lw_g := tg_2 (List.mem_of_getElem? (i := 85) (by decide +kernel)) rfl
theorem kw2_86 : Jvm.Cond.code ({ cls := "TransitGate$Site", name := "covers", desc := "(JJ)Z" } : Jvm.MethodName) prog_10_method_8_code (5 : Nat) (Option.some Jvm.ClassFile.FieldType.boolean) ∈ lw_g := tg_2 (List.mem_of_getElem? (i := 86) rfl) rfl
theorem kw2_87 : Jvm.Cond.methodLink "TransitGate$Site" (36 : Nat) ({ cls := "TransitGate$Site", name := "draw", desc := "(JJ)J" } : Jvm.MethodName) ∈ lw_g := tg_2 (List.mem_of_getElem? (i := 87) (by decide +kernel)) rfl
theorem kw2_88 : Jvm.Cond.methodLink "TransitGate" (214 : Nat) ({ cls := "TransitGate$Bytes", name := "eight", desc := "(I)J" } : Jvm.MethodName) ∈ lw_g := tg_2 (List.mem_of_getElem? (i := 88) (by decide +kernel)) rfl
theorem kw2_89 : Jvm.Cond.methodLink "TransitGate" (217 : Nat) ({ cls := "TransitGate$Flow", name := "fromInside", desc := "(LTransitGate$Bytes;I)LTransitGate$Flow;" } : Jvm.MethodName) ∈ lw_g := tg_2 (List.mem_of_getElem? (i := 89) (by decide +kernel)) rfl
theorem kw2_90 : Jvm.Cond.static ({ cls := "TransitGate$Flow", name := "fromInside", desc := "(LTransitGate$Bytes;I)LTransitGate$Flow;" } : Jvm.MethodName) ∈ lw_g := tg_2 (List.mem_of_getElem? (i := 90) (by decide +kernel)) rfl
theorem kw2_91 : Jvm.Cond.code ({ cls := "TransitGate$Flow", name := "fromInside", desc := "(LTransitGate$Bytes;I)LTransitGate$Flow;" } : Jvm.MethodName) prog_4_method_2_code (7 : Nat) (Option.some (Jvm.ClassFile.FieldType.object "TransitGate$Flow")) ∈ lw_g := tg_2 (List.mem_of_getElem? (i := 91) rfl) rfl
theorem kw2_92 : Jvm.Cond.methodLink "TransitGate$Flow" (31 : Nat) ({ cls := "TransitGate$Bytes", name := "octet", desc := "(I)I" } : Jvm.MethodName) ∈ lw_g := tg_2 (List.mem_of_getElem? (i := 92) (by decide +kernel)) rfl
theorem kw2_93 : Jvm.Cond.methodLink "TransitGate$Flow" (37 : Nat) ({ cls := "TransitGate$Part", name := "sourcePort", desc := "(LTransitGate$Bytes;II)I" } : Jvm.MethodName) ∈ lw_g := tg_2 (List.mem_of_getElem? (i := 93) (by decide +kernel)) rfl
theorem kw2_94 : Jvm.Cond.static ({ cls := "TransitGate$Part", name := "sourcePort", desc := "(LTransitGate$Bytes;II)I" } : Jvm.MethodName) ∈ lw_g := tg_2 (List.mem_of_getElem? (i := 94) (by decide +kernel)) rfl
theorem kw2_95 : Jvm.Cond.code ({ cls := "TransitGate$Part", name := "sourcePort", desc := "(LTransitGate$Bytes;II)I" } : Jvm.MethodName) prog_6_method_8_code (3 : Nat) (Option.some Jvm.ClassFile.FieldType.int) ∈ lw_g := tg_2 (List.mem_of_getElem? (i := 95) rfl) rfl
theorem kw2_96 : Jvm.Cond.methodLink "TransitGate$Part" (21 : Nat) ({ cls := "TransitGate$Part", name := "sourcePortAt", desc := "(I)I" } : Jvm.MethodName) ∈ lw_g := tg_2 (List.mem_of_getElem? (i := 96) (by decide +kernel)) rfl
theorem kw2_97 : Jvm.Cond.static ({ cls := "TransitGate$Part", name := "sourcePortAt", desc := "(I)I" } : Jvm.MethodName) ∈ lw_g := tg_2 (List.mem_of_getElem? (i := 97) (by decide +kernel)) rfl
theorem kw2_98 : Jvm.Cond.code ({ cls := "TransitGate$Part", name := "sourcePortAt", desc := "(I)I" } : Jvm.MethodName) prog_6_method_6_code (1 : Nat) (Option.some Jvm.ClassFile.FieldType.int) ∈ lw_g := tg_2 (List.mem_of_getElem? (i := 98) rfl) rfl
theorem kw2_99 : Jvm.Cond.methodLink "TransitGate$Part" (15 : Nat) ({ cls := "TransitGate$Part", name := "hasPorts", desc := "(I)Z" } : Jvm.MethodName) ∈ lw_g := tg_2 (List.mem_of_getElem? (i := 99) (by decide +kernel)) rfl
theorem kw2_100 : Jvm.Cond.static ({ cls := "TransitGate$Part", name := "hasPorts", desc := "(I)Z" } : Jvm.MethodName) ∈ lw_g := tg_2 (List.mem_of_getElem? (i := 100) (by decide +kernel)) rfl
theorem kw2_101 : Jvm.Cond.code ({ cls := "TransitGate$Part", name := "hasPorts", desc := "(I)Z" } : Jvm.MethodName) prog_6_method_5_code (1 : Nat) (Option.some Jvm.ClassFile.FieldType.boolean) ∈ lw_g := tg_2 (List.mem_of_getElem? (i := 101) rfl) rfl
theorem kw2_102 : Jvm.Cond.methodLink "TransitGate$Flow" (43 : Nat) ({ cls := "TransitGate$Part", name := "destinationPort", desc := "(LTransitGate$Bytes;II)I" } : Jvm.MethodName) ∈ lw_g := tg_2 (List.mem_of_getElem? (i := 102) (by decide +kernel)) rfl
theorem kw2_103 : Jvm.Cond.static ({ cls := "TransitGate$Part", name := "destinationPort", desc := "(LTransitGate$Bytes;II)I" } : Jvm.MethodName) ∈ lw_g := tg_2 (List.mem_of_getElem? (i := 103) (by decide +kernel)) rfl
theorem kw2_104 : Jvm.Cond.code ({ cls := "TransitGate$Part", name := "destinationPort", desc := "(LTransitGate$Bytes;II)I" } : Jvm.MethodName) prog_6_method_9_code (3 : Nat) (Option.some Jvm.ClassFile.FieldType.int) ∈ lw_g := tg_2 (List.mem_of_getElem? (i := 104) rfl) rfl
theorem kw2_105 : Jvm.Cond.methodLink "TransitGate$Part" (27 : Nat) ({ cls := "TransitGate$Part", name := "destinationPortAt", desc := "(I)I" } : Jvm.MethodName) ∈ lw_g := tg_2 (List.mem_of_getElem? (i := 105) (by decide +kernel)) rfl
theorem kw2_106 : Jvm.Cond.static ({ cls := "TransitGate$Part", name := "destinationPortAt", desc := "(I)I" } : Jvm.MethodName) ∈ lw_g := tg_2 (List.mem_of_getElem? (i := 106) (by decide +kernel)) rfl
theorem kw2_107 : Jvm.Cond.code ({ cls := "TransitGate$Part", name := "destinationPortAt", desc := "(I)I" } : Jvm.MethodName) prog_6_method_7_code (1 : Nat) (Option.some Jvm.ClassFile.FieldType.int) ∈ lw_g := tg_2 (List.mem_of_getElem? (i := 107) rfl) rfl
theorem kw2_108 : Jvm.Cond.methodLink "TransitGate$Flow" (46 : Nat) ({ cls := "TransitGate$Part", name := "eventOf", desc := "(LTransitGate$Bytes;II)I" } : Jvm.MethodName) ∈ lw_g := tg_2 (List.mem_of_getElem? (i := 108) (by decide +kernel)) rfl
theorem kw2_109 : Jvm.Cond.static ({ cls := "TransitGate$Part", name := "eventOf", desc := "(LTransitGate$Bytes;II)I" } : Jvm.MethodName) ∈ lw_g := tg_2 (List.mem_of_getElem? (i := 109) (by decide +kernel)) rfl
theorem kw2_110 : Jvm.Cond.code ({ cls := "TransitGate$Part", name := "eventOf", desc := "(LTransitGate$Bytes;II)I" } : Jvm.MethodName) prog_6_method_14_code (4 : Nat) (Option.some Jvm.ClassFile.FieldType.int) ∈ lw_g := tg_2 (List.mem_of_getElem? (i := 110) rfl) rfl
theorem kw2_111 : Jvm.Cond.classLink "TransitGate$Flow" (10 : Nat) "TransitGate$Flow" ∈ lw_g := tg_2 (List.mem_of_getElem? (i := 111) (by decide +kernel)) rfl
theorem kw2_112 : Jvm.Cond.instantiable "TransitGate$Flow" (6 : Nat) ∈ lw_g := tg_2 (List.mem_of_getElem? (i := 112) (by decide +kernel)) rfl
theorem kw2_113 : Jvm.Cond.methodLink "TransitGate$Flow" (49 : Nat) ({ cls := "TransitGate$Flow", name := "<init>", desc := "(ZIIIII)V" } : Jvm.MethodName) ∈ lw_g := tg_2 (List.mem_of_getElem? (i := 113) (by decide +kernel)) rfl
theorem kw2_114 : Jvm.Cond.instanceMethod ({ cls := "TransitGate$Flow", name := "<init>", desc := "(ZIIIII)V" } : Jvm.MethodName) ∈ lw_g := tg_2 (List.mem_of_getElem? (i := 114) (by decide +kernel)) rfl
theorem kw2_115 : Jvm.Cond.code ({ cls := "TransitGate$Flow", name := "<init>", desc := "(ZIIIII)V" } : Jvm.MethodName) prog_4_method_1_code (7 : Nat) (Option.none : Option Jvm.ClassFile.FieldType) ∈ lw_g := tg_2 (List.mem_of_getElem? (i := 115) rfl) rfl
theorem kw2_116 : Jvm.Cond.methodLink "TransitGate$Flow" (3 : Nat) ({ cls := "java/lang/Object", name := "<init>", desc := "()V" } : Jvm.MethodName) ∈ lw_g := tg_2 (List.mem_of_getElem? (i := 116) (by decide +kernel)) rfl
theorem kw2_117 : Jvm.Cond.fieldLink "TransitGate$Flow" (9 : Nat) "TransitGate$Flow" "isFromInside" "Z" ∈ lw_g := tg_2 (List.mem_of_getElem? (i := 117) (by decide +kernel)) rfl
theorem kw2_118 : Jvm.Cond.fieldLink "TransitGate$Session" (47 : Nat) "TransitGate$Flow" "isFromInside" "Z" ∈ lw_g := tg_2 (List.mem_of_getElem? (i := 118) (by decide +kernel)) rfl
theorem kw2_119 : Jvm.Cond.fieldLink "TransitGate$Binding" (7 : Nat) "TransitGate$Flow" "protocol" "I" ∈ lw_g := tg_2 (List.mem_of_getElem? (i := 119) (by decide +kernel)) rfl
theorem kw2_120 : Jvm.Cond.fieldLink "TransitGate$Flow" (15 : Nat) "TransitGate$Flow" "protocol" "I" ∈ lw_g := tg_2 (List.mem_of_getElem? (i := 120) (by decide +kernel)) rfl
theorem kw2_121 : Jvm.Cond.fieldLink "TransitGate$Session" (33 : Nat) "TransitGate$Flow" "protocol" "I" ∈ lw_g := tg_2 (List.mem_of_getElem? (i := 121) (by decide +kernel)) rfl
theorem kw2_122 : Jvm.Cond.fieldLink "TransitGate$Table" (80 : Nat) "TransitGate$Flow" "protocol" "I" ∈ lw_g := tg_2 (List.mem_of_getElem? (i := 122) (by decide +kernel)) rfl
theorem kw2_123 : Jvm.Cond.fieldLink "TransitGate$Flow" (19 : Nat) "TransitGate$Flow" "port" "I" ∈ lw_g := tg_2 (List.mem_of_getElem? (i := 123) (by decide +kernel)) rfl
theorem kw2_124 : Jvm.Cond.fieldLink "TransitGate$Binding" (23 : Nat) "TransitGate$Flow" "port" "I" ∈ lw_g := tg_2 (List.mem_of_getElem? (i := 124) (by decide +kernel)) rfl
theorem kw2_125 : Jvm.Cond.fieldLink "TransitGate$Table" (86 : Nat) "TransitGate$Flow" "port" "I" ∈ lw_g := tg_2 (List.mem_of_getElem? (i := 125) (by decide +kernel)) rfl
theorem kw2_126 : Jvm.Cond.fieldLink "TransitGate$Session" (15 : Nat) "TransitGate$Flow" "farAddress" "I" ∈ lw_g := tg_2 (List.mem_of_getElem? (i := 126) (by decide +kernel)) rfl
theorem kw2_127 : Jvm.Cond.fieldLink "TransitGate$Flow" (22 : Nat) "TransitGate$Flow" "farAddress" "I" ∈ lw_g := tg_2 (List.mem_of_getElem? (i := 127) (by decide +kernel)) rfl
theorem kw2_128 : Jvm.Cond.fieldLink "TransitGate$Table" (110 : Nat) "TransitGate$Flow" "farAddress" "I" ∈ lw_g := tg_2 (List.mem_of_getElem? (i := 128) (by decide +kernel)) rfl
theorem kw2_129 : Jvm.Cond.fieldLink "TransitGate" (230 : Nat) "TransitGate$Flow" "farAddress" "I" ∈ lw_g := tg_2 (List.mem_of_getElem? (i := 129) (by decide +kernel)) rfl
theorem kw2_130 : Jvm.Cond.fieldLink "TransitGate$Session" (22 : Nat) "TransitGate$Flow" "farPort" "I" ∈ lw_g := tg_2 (List.mem_of_getElem? (i := 130) (by decide +kernel)) rfl
theorem kw2_131 : Jvm.Cond.fieldLink "TransitGate$Flow" (25 : Nat) "TransitGate$Flow" "farPort" "I" ∈ lw_g := tg_2 (List.mem_of_getElem? (i := 131) (by decide +kernel)) rfl
theorem kw2_132 : Jvm.Cond.fieldLink "TransitGate$Table" (114 : Nat) "TransitGate$Flow" "farPort" "I" ∈ lw_g := tg_2 (List.mem_of_getElem? (i := 132) (by decide +kernel)) rfl
theorem kw2_133 : Jvm.Cond.fieldLink "TransitGate$Flow" (28 : Nat) "TransitGate$Flow" "event" "I" ∈ lw_g := tg_2 (List.mem_of_getElem? (i := 133) (by decide +kernel)) rfl
theorem kw2_134 : Jvm.Cond.fieldLink "TransitGate$Session" (44 : Nat) "TransitGate$Flow" "event" "I" ∈ lw_g := tg_2 (List.mem_of_getElem? (i := 134) (by decide +kernel)) rfl
theorem kw2_148 : Jvm.Cond.methodLink "TransitGate" (193 : Nat) ({ cls := "TransitGate$Pool", name := "size", desc := "()I" } : Jvm.MethodName) ∈ lw_g := tg_2 (List.mem_of_getElem? (i := 148) (by decide +kernel)) rfl
theorem kw2_149 : Jvm.Cond.methodLink "TransitGate" (223 : Nat) ({ cls := "TransitGate$Table", name := "admitFromInside", desc := "(LTransitGate$Flow;JJI)LTransitGate$Binding;" } : Jvm.MethodName) ∈ lw_g := tg_2 (List.mem_of_getElem? (i := 149) (by decide +kernel)) rfl
theorem kw2_150 : Jvm.Cond.instanceMethod ({ cls := "TransitGate$Table", name := "admitFromInside", desc := "(LTransitGate$Flow;JJI)LTransitGate$Binding;" } : Jvm.MethodName) ∈ lw_g := tg_2 (List.mem_of_getElem? (i := 150) (by decide +kernel)) rfl
theorem kw2_151 : Jvm.Cond.selects "TransitGate$Table" ({ cls := "TransitGate$Table", name := "admitFromInside", desc := "(LTransitGate$Flow;JJI)LTransitGate$Binding;" } : Jvm.MethodName) ({ cls := "TransitGate$Table", name := "admitFromInside", desc := "(LTransitGate$Flow;JJI)LTransitGate$Binding;" } : Jvm.MethodName) ∈ lw_g := tg_2 (List.mem_of_getElem? (i := 151) (by decide +kernel)) rfl
theorem kw2_152 : Jvm.Cond.code ({ cls := "TransitGate$Table", name := "admitFromInside", desc := "(LTransitGate$Flow;JJI)LTransitGate$Binding;" } : Jvm.MethodName) prog_12_method_12_code (9 : Nat) (Option.some (Jvm.ClassFile.FieldType.object "TransitGate$Binding")) ∈ lw_g := tg_2 (List.mem_of_getElem? (i := 152) rfl) rfl
theorem kw2_153 : Jvm.Cond.methodLink "TransitGate$Table" (57 : Nat) ({ cls := "TransitGate$Table", name := "byInner", desc := "(LTransitGate$Flow;JJ)LTransitGate$Binding;" } : Jvm.MethodName) ∈ lw_g := tg_2 (List.mem_of_getElem? (i := 153) (by decide +kernel)) rfl
theorem kw2_155 : Jvm.Cond.instanceMethod ({ cls := "TransitGate$Table", name := "byInner", desc := "(LTransitGate$Flow;JJ)LTransitGate$Binding;" } : Jvm.MethodName) ∈ lw_g := tg_2 (List.mem_of_getElem? (i := 155) (by decide +kernel)) rfl
theorem kw2_156 : Jvm.Cond.code ({ cls := "TransitGate$Table", name := "byInner", desc := "(LTransitGate$Flow;JJ)LTransitGate$Binding;" } : Jvm.MethodName) prog_12_method_15_code (9 : Nat) (Option.some (Jvm.ClassFile.FieldType.object "TransitGate$Binding")) ∈ lw_g := tg_2 (List.mem_of_getElem? (i := 156) rfl) rfl
theorem kw2_157 : Jvm.Cond.methodLink "TransitGate$Table" (25 : Nat) ({ cls := "java/util/ArrayList", name := "size", desc := "()I" } : Jvm.MethodName) ∈ lw_g := tg_2 (List.mem_of_getElem? (i := 157) (by decide +kernel)) rfl
theorem kw2_158 : Jvm.Cond.instanceMethod ({ cls := "java/util/ArrayList", name := "size", desc := "()I" } : Jvm.MethodName) ∈ lw_g := tg_2 (List.mem_of_getElem? (i := 158) (by decide +kernel)) rfl
theorem kw2_159 : Jvm.Cond.selects "java/util/ArrayList" ({ cls := "java/util/ArrayList", name := "size", desc := "()I" } : Jvm.MethodName) ({ cls := "java/util/ArrayList", name := "size", desc := "()I" } : Jvm.MethodName) ∈ lw_g := tg_2 (List.mem_of_getElem? (i := 159) (by decide +kernel)) rfl
theorem kw2_160 : Jvm.Cond.code ({ cls := "java/util/ArrayList", name := "size", desc := "()I" } : Jvm.MethodName) prog_22_method_8_code (1 : Nat) (Option.some Jvm.ClassFile.FieldType.int) ∈ lw_g := tg_2 (List.mem_of_getElem? (i := 160) rfl) rfl
theorem kw2_161 : Jvm.Cond.methodLink "TransitGate$Table" (29 : Nat) ({ cls := "java/util/ArrayList", name := "get", desc := "(I)Ljava/lang/Object;" } : Jvm.MethodName) ∈ lw_g := tg_2 (List.mem_of_getElem? (i := 161) (by decide +kernel)) rfl
theorem kw2_162 : Jvm.Cond.instanceMethod ({ cls := "java/util/ArrayList", name := "get", desc := "(I)Ljava/lang/Object;" } : Jvm.MethodName) ∈ lw_g := tg_2 (List.mem_of_getElem? (i := 162) (by decide +kernel)) rfl
theorem kw2_163 : Jvm.Cond.selects "java/util/ArrayList" ({ cls := "java/util/ArrayList", name := "get", desc := "(I)Ljava/lang/Object;" } : Jvm.MethodName) ({ cls := "java/util/ArrayList", name := "get", desc := "(I)Ljava/lang/Object;" } : Jvm.MethodName) ∈ lw_g := tg_2 (List.mem_of_getElem? (i := 163) (by decide +kernel)) rfl
theorem kw2_164 : Jvm.Cond.code ({ cls := "java/util/ArrayList", name := "get", desc := "(I)Ljava/lang/Object;" } : Jvm.MethodName) prog_22_method_20_code (2 : Nat) (Option.some (Jvm.ClassFile.FieldType.object "java/lang/Object")) ∈ lw_g := tg_2 (List.mem_of_getElem? (i := 164) rfl) rfl
theorem kw2_165 : Jvm.Cond.methodLink "java/util/ArrayList" (118 : Nat) ({ cls := "java/util/Objects", name := "checkIndex", desc := "(II)I" } : Jvm.MethodName) ∈ lw_g := tg_2 (List.mem_of_getElem? (i := 165) (by decide +kernel)) rfl
theorem kw2_166 : Jvm.Cond.static ({ cls := "java/util/Objects", name := "checkIndex", desc := "(II)I" } : Jvm.MethodName) ∈ lw_g := tg_2 (List.mem_of_getElem? (i := 166) (by decide +kernel)) rfl
theorem kw2_167 : Jvm.Cond.code ({ cls := "java/util/Objects", name := "checkIndex", desc := "(II)I" } : Jvm.MethodName) prog_26_method_17_code (2 : Nat) (Option.some Jvm.ClassFile.FieldType.int) ∈ lw_g := tg_2 (List.mem_of_getElem? (i := 167) rfl) rfl
theorem kw2_168 : Jvm.Cond.methodLink "java/util/Objects" (105 : Nat) ({ cls := "jdk/internal/util/Preconditions", name := "checkIndex", desc := "(IILjava/util/function/BiFunction;)I" } : Jvm.MethodName) ∈ lw_g := tg_2 (List.mem_of_getElem? (i := 168) (by decide +kernel)) rfl
theorem kw2_169 : Jvm.Cond.static ({ cls := "jdk/internal/util/Preconditions", name := "checkIndex", desc := "(IILjava/util/function/BiFunction;)I" } : Jvm.MethodName) ∈ lw_g := tg_2 (List.mem_of_getElem? (i := 169) (by decide +kernel)) rfl
theorem kw2_170 : Jvm.Cond.code ({ cls := "jdk/internal/util/Preconditions", name := "checkIndex", desc := "(IILjava/util/function/BiFunction;)I" } : Jvm.MethodName) prog_30_method_11_code (3 : Nat) (Option.some Jvm.ClassFile.FieldType.int) ∈ lw_g := tg_2 (List.mem_of_getElem? (i := 170) rfl) rfl
theorem kw2_171 : Jvm.Cond.methodLink "java/util/ArrayList" (123 : Nat) ({ cls := "java/util/ArrayList", name := "elementData", desc := "(I)Ljava/lang/Object;" } : Jvm.MethodName) ∈ lw_g := tg_2 (List.mem_of_getElem? (i := 171) (by decide +kernel)) rfl
theorem kw2_172 : Jvm.Cond.instanceMethod ({ cls := "java/util/ArrayList", name := "elementData", desc := "(I)Ljava/lang/Object;" } : Jvm.MethodName) ∈ lw_g := tg_2 (List.mem_of_getElem? (i := 172) (by decide +kernel)) rfl
theorem kw2_173 : Jvm.Cond.selects "java/util/ArrayList" ({ cls := "java/util/ArrayList", name := "elementData", desc := "(I)Ljava/lang/Object;" } : Jvm.MethodName) ({ cls := "java/util/ArrayList", name := "elementData", desc := "(I)Ljava/lang/Object;" } : Jvm.MethodName) ∈ lw_g := tg_2 (List.mem_of_getElem? (i := 173) (by decide +kernel)) rfl
theorem kw2_174 : Jvm.Cond.code ({ cls := "java/util/ArrayList", name := "elementData", desc := "(I)Ljava/lang/Object;" } : Jvm.MethodName) prog_22_method_18_code (2 : Nat) (Option.some (Jvm.ClassFile.FieldType.object "java/lang/Object")) ∈ lw_g := tg_2 (List.mem_of_getElem? (i := 174) rfl) rfl
theorem kw2_175 : Jvm.Cond.classLink "TransitGate$Table" (33 : Nat) "TransitGate$Binding" ∈ lw_g := tg_2 (List.mem_of_getElem? (i := 175) (by decide +kernel)) rfl
theorem kw2_176 : Jvm.Cond.methodLink "TransitGate$Table" (103 : Nat) ({ cls := "TransitGate$Binding", name := "isOf", desc := "(JJ)Z" } : Jvm.MethodName) ∈ lw_g := tg_2 (List.mem_of_getElem? (i := 176) (by decide +kernel)) rfl
theorem kw2_177 : Jvm.Cond.instanceMethod ({ cls := "TransitGate$Binding", name := "isOf", desc := "(JJ)Z" } : Jvm.MethodName) ∈ lw_g := tg_2 (List.mem_of_getElem? (i := 177) (by decide +kernel)) rfl
theorem kw2_178 : Jvm.Cond.selects "TransitGate$Binding" ({ cls := "TransitGate$Binding", name := "isOf", desc := "(JJ)Z" } : Jvm.MethodName) ({ cls := "TransitGate$Binding", name := "isOf", desc := "(JJ)Z" } : Jvm.MethodName) ∈ lw_g := tg_2 (List.mem_of_getElem? (i := 178) (by decide +kernel)) rfl
theorem kw2_179 : Jvm.Cond.code ({ cls := "TransitGate$Binding", name := "isOf", desc := "(JJ)Z" } : Jvm.MethodName) prog_2_method_2_code (5 : Nat) (Option.some Jvm.ClassFile.FieldType.boolean) ∈ lw_g := tg_2 (List.mem_of_getElem? (i := 179) rfl) rfl
theorem kw2_180 : Jvm.Cond.methodLink "TransitGate$Table" (61 : Nat) ({ cls := "TransitGate$Table", name := "meetsSession", desc := "(LTransitGate$Binding;LTransitGate$Flow;)Z" } : Jvm.MethodName) ∈ lw_g := tg_2 (List.mem_of_getElem? (i := 180) (by decide +kernel)) rfl
theorem kw2_182 : Jvm.Cond.instanceMethod ({ cls := "TransitGate$Table", name := "meetsSession", desc := "(LTransitGate$Binding;LTransitGate$Flow;)Z" } : Jvm.MethodName) ∈ lw_g := tg_2 (List.mem_of_getElem? (i := 182) (by decide +kernel)) rfl
theorem kw2_183 : Jvm.Cond.code ({ cls := "TransitGate$Table", name := "meetsSession", desc := "(LTransitGate$Binding;LTransitGate$Flow;)Z" } : Jvm.MethodName) prog_12_method_16_code (6 : Nat) (Option.some Jvm.ClassFile.FieldType.boolean) ∈ lw_g := tg_2 (List.mem_of_getElem? (i := 183) rfl) rfl
theorem kw2_184 : Jvm.Cond.classLink "TransitGate$Table" (35 : Nat) "TransitGate$Session" ∈ lw_g := tg_2 (List.mem_of_getElem? (i := 184) (by decide +kernel)) rfl
theorem kw2_185 : Jvm.Cond.methodLink "TransitGate$Table" (115 : Nat) ({ cls := "TransitGate$Session", name := "meet", desc := "(LTransitGate$Flow;J)V" } : Jvm.MethodName) ∈ lw_g := tg_2 (List.mem_of_getElem? (i := 185) (by decide +kernel)) rfl
theorem kw2_186 : Jvm.Cond.instanceMethod ({ cls := "TransitGate$Session", name := "meet", desc := "(LTransitGate$Flow;J)V" } : Jvm.MethodName) ∈ lw_g := tg_2 (List.mem_of_getElem? (i := 186) (by decide +kernel)) rfl
theorem kw2_187 : Jvm.Cond.selects "TransitGate$Session" ({ cls := "TransitGate$Session", name := "meet", desc := "(LTransitGate$Flow;J)V" } : Jvm.MethodName) ({ cls := "TransitGate$Session", name := "meet", desc := "(LTransitGate$Flow;J)V" } : Jvm.MethodName) ∈ lw_g := tg_2 (List.mem_of_getElem? (i := 187) (by decide +kernel)) rfl
theorem kw2_188 : Jvm.Cond.code ({ cls := "TransitGate$Session", name := "meet", desc := "(LTransitGate$Flow;J)V" } : Jvm.MethodName) prog_9_method_2_code (5 : Nat) (Option.none : Option Jvm.ClassFile.FieldType) ∈ lw_g := tg_2 (List.mem_of_getElem? (i := 188) rfl) rfl
theorem kw2_189 : Jvm.Cond.methodLink "TransitGate$Session" (51 : Nat) ({ cls := "TransitGate$Session", name := "stateAfter", desc := "(IZ)I" } : Jvm.MethodName) ∈ lw_g := tg_2 (List.mem_of_getElem? (i := 189) (by decide +kernel)) rfl
theorem kw2_191 : Jvm.Cond.instanceMethod ({ cls := "TransitGate$Session", name := "stateAfter", desc := "(IZ)I" } : Jvm.MethodName) ∈ lw_g := tg_2 (List.mem_of_getElem? (i := 191) (by decide +kernel)) rfl
theorem kw2_192 : Jvm.Cond.instantiable "TransitGate$Session" (5 : Nat) ∈ lw_g := tg_2 (List.mem_of_getElem? (i := 192) (by decide +kernel)) rfl
theorem kw2_193 : Jvm.Cond.code ({ cls := "TransitGate$Session", name := "stateAfter", desc := "(IZ)I" } : Jvm.MethodName) prog_9_method_4_code (3 : Nat) (Option.some Jvm.ClassFile.FieldType.int) ∈ lw_g := tg_2 (List.mem_of_getElem? (i := 193) rfl) rfl
theorem kw2_194 : Jvm.Cond.methodLink "TransitGate$Session" (36 : Nat) ({ cls := "TransitGate$Session", name := "lifetime", desc := "(II)I" } : Jvm.MethodName) ∈ lw_g := tg_2 (List.mem_of_getElem? (i := 194) (by decide +kernel)) rfl
theorem kw2_195 : Jvm.Cond.static ({ cls := "TransitGate$Session", name := "lifetime", desc := "(II)I" } : Jvm.MethodName) ∈ lw_g := tg_2 (List.mem_of_getElem? (i := 195) (by decide +kernel)) rfl
theorem kw2_196 : Jvm.Cond.code ({ cls := "TransitGate$Session", name := "lifetime", desc := "(II)I" } : Jvm.MethodName) prog_9_method_5_code (2 : Nat) (Option.some Jvm.ClassFile.FieldType.int) ∈ lw_g := tg_2 (List.mem_of_getElem? (i := 196) rfl) rfl
theorem kw2_197 : Jvm.Cond.methodLink "TransitGate$Table" (65 : Nat) ({ cls := "TransitGate$Table", name := "mayAddSession", desc := "(LTransitGate$Flow;)Z" } : Jvm.MethodName) ∈ lw_g := tg_2 (List.mem_of_getElem? (i := 197) (by decide +kernel)) rfl
theorem kw2_199 : Jvm.Cond.instanceMethod ({ cls := "TransitGate$Table", name := "mayAddSession", desc := "(LTransitGate$Flow;)Z" } : Jvm.MethodName) ∈ lw_g := tg_2 (List.mem_of_getElem? (i := 199) (by decide +kernel)) rfl
theorem kw2_200 : Jvm.Cond.code ({ cls := "TransitGate$Table", name := "mayAddSession", desc := "(LTransitGate$Flow;)Z" } : Jvm.MethodName) prog_12_method_17_code (2 : Nat) (Option.some Jvm.ClassFile.FieldType.boolean) ∈ lw_g := tg_2 (List.mem_of_getElem? (i := 200) rfl) rfl
theorem kw2_201 : Jvm.Cond.methodLink "TransitGate$Table" (119 : Nat) ({ cls := "TransitGate$Flow", name := "mayOpen", desc := "()Z" } : Jvm.MethodName) ∈ lw_g := tg_2 (List.mem_of_getElem? (i := 201) (by decide +kernel)) rfl
theorem kw2_202 : Jvm.Cond.instanceMethod ({ cls := "TransitGate$Flow", name := "mayOpen", desc := "()Z" } : Jvm.MethodName) ∈ lw_g := tg_2 (List.mem_of_getElem? (i := 202) (by decide +kernel)) rfl
theorem kw2_203 : Jvm.Cond.selects "TransitGate$Flow" ({ cls := "TransitGate$Flow", name := "mayOpen", desc := "()Z" } : Jvm.MethodName) ({ cls := "TransitGate$Flow", name := "mayOpen", desc := "()Z" } : Jvm.MethodName) ∈ lw_g := tg_2 (List.mem_of_getElem? (i := 203) (by decide +kernel)) rfl
theorem kw2_204 : Jvm.Cond.code ({ cls := "TransitGate$Flow", name := "mayOpen", desc := "()Z" } : Jvm.MethodName) prog_4_method_4_code (1 : Nat) (Option.some Jvm.ClassFile.FieldType.boolean) ∈ lw_g := tg_2 (List.mem_of_getElem? (i := 204) rfl) rfl
theorem kw2_205 : Jvm.Cond.methodLink "TransitGate$Table" (69 : Nat) ({ cls := "TransitGate$Table", name := "bind", desc := "(LTransitGate$Flow;JJI)LTransitGate$Binding;" } : Jvm.MethodName) ∈ lw_g := tg_2 (List.mem_of_getElem? (i := 205) (by decide +kernel)) rfl
theorem kw2_207 : Jvm.Cond.instanceMethod ({ cls := "TransitGate$Table", name := "bind", desc := "(LTransitGate$Flow;JJI)LTransitGate$Binding;" } : Jvm.MethodName) ∈ lw_g := tg_2 (List.mem_of_getElem? (i := 207) (by decide +kernel)) rfl
theorem kw2_208 : Jvm.Cond.code ({ cls := "TransitGate$Table", name := "bind", desc := "(LTransitGate$Flow;JJI)LTransitGate$Binding;" } : Jvm.MethodName) prog_12_method_18_code (10 : Nat) (Option.some (Jvm.ClassFile.FieldType.object "TransitGate$Binding")) ∈ lw_g := tg_2 (List.mem_of_getElem? (i := 208) rfl) rfl
theorem kw2_209 : Jvm.Cond.methodLink "TransitGate$Table" (123 : Nat) ({ cls := "TransitGate$Table", name := "numberFor", desc := "(JJI)I" } : Jvm.MethodName) ∈ lw_g := tg_2 (List.mem_of_getElem? (i := 209) (by decide +kernel)) rfl
theorem kw2_211 : Jvm.Cond.instanceMethod ({ cls := "TransitGate$Table", name := "numberFor", desc := "(JJI)I" } : Jvm.MethodName) ∈ lw_g := tg_2 (List.mem_of_getElem? (i := 211) (by decide +kernel)) rfl
theorem kw2_212 : Jvm.Cond.code ({ cls := "TransitGate$Table", name := "numberFor", desc := "(JJI)I" } : Jvm.MethodName) prog_12_method_19_code (8 : Nat) (Option.some Jvm.ClassFile.FieldType.int) ∈ lw_g := tg_2 (List.mem_of_getElem? (i := 212) rfl) rfl
theorem kw2_213 : Jvm.Cond.methodLink "TransitGate$Table" (134 : Nat) ({ cls := "TransitGate$Table", name := "bindingsAt", desc := "(I)I" } : Jvm.MethodName) ∈ lw_g := tg_2 (List.mem_of_getElem? (i := 213) (by decide +kernel)) rfl
theorem kw2_215 : Jvm.Cond.instanceMethod ({ cls := "TransitGate$Table", name := "bindingsAt", desc := "(I)I" } : Jvm.MethodName) ∈ lw_g := tg_2 (List.mem_of_getElem? (i := 215) (by decide +kernel)) rfl
theorem kw2_216 : Jvm.Cond.code ({ cls := "TransitGate$Table", name := "bindingsAt", desc := "(I)I" } : Jvm.MethodName) prog_12_method_20_code (4 : Nat) (Option.some Jvm.ClassFile.FieldType.int) ∈ lw_g := tg_2 (List.mem_of_getElem? (i := 216) rfl) rfl
theorem kw2_217 : Jvm.Cond.methodLink "TransitGate$Table" (127 : Nat) ({ cls := "TransitGate$Table", name := "freePort", desc := "(LTransitGate$Flow;I)I" } : Jvm.MethodName) ∈ lw_g := tg_2 (List.mem_of_getElem? (i := 217) (by decide +kernel)) rfl
theorem kw2_219 : Jvm.Cond.instanceMethod ({ cls := "TransitGate$Table", name := "freePort", desc := "(LTransitGate$Flow;I)I" } : Jvm.MethodName) ∈ lw_g := tg_2 (List.mem_of_getElem? (i := 219) (by decide +kernel)) rfl
theorem kw2_220 : Jvm.Cond.code ({ cls := "TransitGate$Table", name := "freePort", desc := "(LTransitGate$Flow;I)I" } : Jvm.MethodName) prog_12_method_21_code (6 : Nat) (Option.some Jvm.ClassFile.FieldType.int) ∈ lw_g := tg_2 (List.mem_of_getElem? (i := 220) rfl) rfl
theorem kw2_221 : Jvm.Cond.methodLink "TransitGate$Table" (138 : Nat) ({ cls := "TransitGate$Table", name := "firstPort", desc := "(LTransitGate$Flow;)I" } : Jvm.MethodName) ∈ lw_g := tg_2 (List.mem_of_getElem? (i := 221) (by decide +kernel)) rfl
theorem kw2_222 : Jvm.Cond.static ({ cls := "TransitGate$Table", name := "firstPort", desc := "(LTransitGate$Flow;)I" } : Jvm.MethodName) ∈ lw_g := tg_2 (List.mem_of_getElem? (i := 222) (by decide +kernel)) rfl
theorem kw2_223 : Jvm.Cond.code ({ cls := "TransitGate$Table", name := "firstPort", desc := "(LTransitGate$Flow;)I" } : Jvm.MethodName) prog_12_method_22_code (2 : Nat) (Option.some Jvm.ClassFile.FieldType.int) ∈ lw_g := tg_2 (List.mem_of_getElem? (i := 223) rfl) rfl
theorem kw2_224 : Jvm.Cond.methodLink "TransitGate$Table" (89 : Nat) ({ cls := "TransitGate$Table", name := "byOuter", desc := "(III)LTransitGate$Binding;" } : Jvm.MethodName) ∈ lw_g := tg_2 (List.mem_of_getElem? (i := 224) (by decide +kernel)) rfl
theorem kw2_225 : Jvm.Cond.instanceMethod ({ cls := "TransitGate$Table", name := "byOuter", desc := "(III)LTransitGate$Binding;" } : Jvm.MethodName) ∈ lw_g := tg_2 (List.mem_of_getElem? (i := 225) (by decide +kernel)) rfl
theorem kw2_226 : Jvm.Cond.selects "TransitGate$Table" ({ cls := "TransitGate$Table", name := "byOuter", desc := "(III)LTransitGate$Binding;" } : Jvm.MethodName) ({ cls := "TransitGate$Table", name := "byOuter", desc := "(III)LTransitGate$Binding;" } : Jvm.MethodName) ∈ lw_g := tg_2 (List.mem_of_getElem? (i := 226) (by decide +kernel)) rfl
theorem kw2_227 : Jvm.Cond.code ({ cls := "TransitGate$Table", name := "byOuter", desc := "(III)LTransitGate$Binding;" } : Jvm.MethodName) prog_12_method_14_code (7 : Nat) (Option.some (Jvm.ClassFile.FieldType.object "TransitGate$Binding")) ∈ lw_g := tg_2 (List.mem_of_getElem? (i := 227) rfl) rfl
theorem kw2_228 : Jvm.Cond.instantiable "TransitGate$Binding" (6 : Nat) ∈ lw_g := tg_2 (List.mem_of_getElem? (i := 228) (by decide +kernel)) rfl
theorem kw2_229 : Jvm.Cond.methodLink "TransitGate$Table" (131 : Nat) ({ cls := "TransitGate$Binding", name := "<init>", desc := "(LTransitGate$Flow;JJII)V" } : Jvm.MethodName) ∈ lw_g := tg_2 (List.mem_of_getElem? (i := 229) (by decide +kernel)) rfl
theorem kw2_230 : Jvm.Cond.instanceMethod ({ cls := "TransitGate$Binding", name := "<init>", desc := "(LTransitGate$Flow;JJII)V" } : Jvm.MethodName) ∈ lw_g := tg_2 (List.mem_of_getElem? (i := 230) (by decide +kernel)) rfl
theorem kw2_231 : Jvm.Cond.code ({ cls := "TransitGate$Binding", name := "<init>", desc := "(LTransitGate$Flow;JJII)V" } : Jvm.MethodName) prog_2_method_1_code (8 : Nat) (Option.none : Option Jvm.ClassFile.FieldType) ∈ lw_g := tg_2 (List.mem_of_getElem? (i := 231) rfl) rfl
theorem kw2_232 : Jvm.Cond.methodLink "TransitGate$Binding" (1 : Nat) ({ cls := "java/lang/Object", name := "<init>", desc := "()V" } : Jvm.MethodName) ∈ lw_g := tg_2 (List.mem_of_getElem? (i := 232) (by decide +kernel)) rfl
theorem kw2_233 : Jvm.Cond.fieldLink "TransitGate$Binding" (13 : Nat) "TransitGate$Binding" "protocol" "I" ∈ lw_g := tg_2 (List.mem_of_getElem? (i := 233) (by decide +kernel)) rfl
theorem kw2_234 : Jvm.Cond.fieldLink "TransitGate$Maker" (9 : Nat) "TransitGate$Binding" "protocol" "I" ∈ lw_g := tg_2 (List.mem_of_getElem? (i := 234) (by decide +kernel)) rfl
theorem kw2_235 : Jvm.Cond.fieldLink "TransitGate$Table" (99 : Nat) "TransitGate$Binding" "protocol" "I" ∈ lw_g := tg_2 (List.mem_of_getElem? (i := 235) (by decide +kernel)) rfl
theorem kw2_236 : Jvm.Cond.fieldLink "TransitGate" (133 : Nat) "TransitGate$Binding" "protocol" "I" ∈ lw_g := tg_2 (List.mem_of_getElem? (i := 236) (by decide +kernel)) rfl
theorem kw2_237 : Jvm.Cond.fieldLink "TransitGate$Binding" (16 : Nat) "TransitGate$Binding" "innerHigh" "J" ∈ lw_g := tg_2 (List.mem_of_getElem? (i := 237) (by decide +kernel)) rfl
theorem kw2_238 : Jvm.Cond.fieldLink "TransitGate$Maker" (116 : Nat) "TransitGate$Binding" "innerHigh" "J" ∈ lw_g := tg_2 (List.mem_of_getElem? (i := 238) (by decide +kernel)) rfl
theorem kw2_239 : Jvm.Cond.fieldLink "TransitGate" (155 : Nat) "TransitGate$Binding" "innerHigh" "J" ∈ lw_g := tg_2 (List.mem_of_getElem? (i := 239) (by decide +kernel)) rfl
end
section
theorem kw3_0 : Jvm.Cond.fieldLink "TransitGate$Binding" (20 : Nat) "TransitGate$Binding" "innerLow" "J" ∈ lw_g := tg_3 (List.mem_of_getElem? (i := 0) (by decide +kernel)) rfl
theorem kw3_1 : Jvm.Cond.fieldLink "TransitGate$Maker" (120 : Nat) "TransitGate$Binding" "innerLow" "J" ∈ lw_g := tg_3 (List.mem_of_getElem? (i := 1) (by decide +kernel)) rfl
theorem kw3_2 : Jvm.Cond.fieldLink "TransitGate" (151 : Nat) "TransitGate$Binding" "innerLow" "J" ∈ lw_g := tg_3 (List.mem_of_getElem? (i := 2) (by decide +kernel)) rfl
theorem kw3_3 : Jvm.Cond.fieldLink "TransitGate$Binding" (26 : Nat) "TransitGate$Binding" "innerPort" "I" ∈ lw_g := tg_3 (List.mem_of_getElem? (i := 3) (by decide +kernel)) rfl
theorem kw3_4 : Jvm.Cond.fieldLink "TransitGate$Maker" (84 : Nat) "TransitGate$Binding" "innerPort" "I" ∈ lw_g := tg_3 (List.mem_of_getElem? (i := 4) (by decide +kernel)) rfl
theorem kw3_5 : Jvm.Cond.fieldLink "TransitGate$Table" (100 : Nat) "TransitGate$Binding" "innerPort" "I" ∈ lw_g := tg_3 (List.mem_of_getElem? (i := 5) (by decide +kernel)) rfl
theorem kw3_6 : Jvm.Cond.fieldLink "TransitGate" (138 : Nat) "TransitGate$Binding" "innerPort" "I" ∈ lw_g := tg_3 (List.mem_of_getElem? (i := 6) (by decide +kernel)) rfl
theorem kw3_7 : Jvm.Cond.fieldLink "TransitGate$Binding" (29 : Nat) "TransitGate$Binding" "poolNumber" "I" ∈ lw_g := tg_3 (List.mem_of_getElem? (i := 7) (by decide +kernel)) rfl
theorem kw3_8 : Jvm.Cond.fieldLink "TransitGate$Table" (93 : Nat) "TransitGate$Binding" "poolNumber" "I" ∈ lw_g := tg_3 (List.mem_of_getElem? (i := 8) (by decide +kernel)) rfl
theorem kw3_9 : Jvm.Cond.fieldLink "TransitGate" (141 : Nat) "TransitGate$Binding" "poolNumber" "I" ∈ lw_g := tg_3 (List.mem_of_getElem? (i := 9) (by decide +kernel)) rfl
theorem kw3_10 : Jvm.Cond.fieldLink "TransitGate$Binding" (32 : Nat) "TransitGate$Binding" "outerPort" "I" ∈ lw_g := tg_3 (List.mem_of_getElem? (i := 10) (by decide +kernel)) rfl
theorem kw3_11 : Jvm.Cond.fieldLink "TransitGate$Maker" (57 : Nat) "TransitGate$Binding" "outerPort" "I" ∈ lw_g := tg_3 (List.mem_of_getElem? (i := 11) (by decide +kernel)) rfl
theorem kw3_12 : Jvm.Cond.fieldLink "TransitGate$Table" (96 : Nat) "TransitGate$Binding" "outerPort" "I" ∈ lw_g := tg_3 (List.mem_of_getElem? (i := 12) (by decide +kernel)) rfl
theorem kw3_13 : Jvm.Cond.fieldLink "TransitGate" (144 : Nat) "TransitGate$Binding" "outerPort" "I" ∈ lw_g := tg_3 (List.mem_of_getElem? (i := 13) (by decide +kernel)) rfl
theorem kw3_27 : Jvm.Cond.methodLink "TransitGate$Table" (76 : Nat) ({ cls := "java/util/ArrayList", name := "add", desc := "(Ljava/lang/Object;)Z" } : Jvm.MethodName) ∈ lw_g := tg_3 (List.mem_of_getElem? (i := 27) (by decide +kernel)) rfl
theorem kw3_28 : Jvm.Cond.instanceMethod ({ cls := "java/util/ArrayList", name := "add", desc := "(Ljava/lang/Object;)Z" } : Jvm.MethodName) ∈ lw_g := tg_3 (List.mem_of_getElem? (i := 28) (by decide +kernel)) rfl
theorem kw3_29 : Jvm.Cond.selects "java/util/ArrayList" ({ cls := "java/util/ArrayList", name := "add", desc := "(Ljava/lang/Object;)Z" } : Jvm.MethodName) ({ cls := "java/util/ArrayList", name := "add", desc := "(Ljava/lang/Object;)Z" } : Jvm.MethodName) ∈ lw_g := tg_3 (List.mem_of_getElem? (i := 29) (by decide +kernel)) rfl
theorem kw3_30 : Jvm.Cond.code ({ cls := "java/util/ArrayList", name := "add", desc := "(Ljava/lang/Object;)Z" } : Jvm.MethodName) prog_22_method_25_code (2 : Nat) (Option.some Jvm.ClassFile.FieldType.boolean) ∈ lw_g := tg_3 (List.mem_of_getElem? (i := 30) rfl) rfl
theorem kw3_31 : Jvm.Cond.methodLink "java/util/ArrayList" (131 : Nat) ({ cls := "java/util/ArrayList", name := "add", desc := "(Ljava/lang/Object;[Ljava/lang/Object;I)V" } : Jvm.MethodName) ∈ lw_g := tg_3 (List.mem_of_getElem? (i := 31) (by decide +kernel)) rfl
theorem kw3_33 : Jvm.Cond.instanceMethod ({ cls := "java/util/ArrayList", name := "add", desc := "(Ljava/lang/Object;[Ljava/lang/Object;I)V" } : Jvm.MethodName) ∈ lw_g := tg_3 (List.mem_of_getElem? (i := 33) (by decide +kernel)) rfl
theorem kw3_34 : Jvm.Cond.code ({ cls := "java/util/ArrayList", name := "add", desc := "(Ljava/lang/Object;[Ljava/lang/Object;I)V" } : Jvm.MethodName) prog_22_method_24_code (4 : Nat) (Option.none : Option Jvm.ClassFile.FieldType) ∈ lw_g := tg_3 (List.mem_of_getElem? (i := 34) rfl) rfl
theorem kw3_35 : Jvm.Cond.methodLink "java/util/ArrayList" (129 : Nat) ({ cls := "java/util/ArrayList", name := "grow", desc := "()[Ljava/lang/Object;" } : Jvm.MethodName) ∈ lw_g := tg_3 (List.mem_of_getElem? (i := 35) (by decide +kernel)) rfl
theorem kw3_37 : Jvm.Cond.instanceMethod ({ cls := "java/util/ArrayList", name := "grow", desc := "()[Ljava/lang/Object;" } : Jvm.MethodName) ∈ lw_g := tg_3 (List.mem_of_getElem? (i := 37) (by decide +kernel)) rfl
theorem kw3_38 : Jvm.Cond.code ({ cls := "java/util/ArrayList", name := "grow", desc := "()[Ljava/lang/Object;" } : Jvm.MethodName) prog_22_method_7_code (1 : Nat) (Option.some (Jvm.ClassFile.FieldType.array (Jvm.ClassFile.FieldType.object "java/lang/Object"))) ∈ lw_g := tg_3 (List.mem_of_getElem? (i := 38) rfl) rfl
theorem kw3_39 : Jvm.Cond.methodLink "java/util/ArrayList" (69 : Nat) ({ cls := "java/util/ArrayList", name := "grow", desc := "(I)[Ljava/lang/Object;" } : Jvm.MethodName) ∈ lw_g := tg_3 (List.mem_of_getElem? (i := 39) (by decide +kernel)) rfl
theorem kw3_41 : Jvm.Cond.instanceMethod ({ cls := "java/util/ArrayList", name := "grow", desc := "(I)[Ljava/lang/Object;" } : Jvm.MethodName) ∈ lw_g := tg_3 (List.mem_of_getElem? (i := 41) (by decide +kernel)) rfl
theorem kw3_42 : Jvm.Cond.code ({ cls := "java/util/ArrayList", name := "grow", desc := "(I)[Ljava/lang/Object;" } : Jvm.MethodName) prog_22_method_6_code (4 : Nat) (Option.some (Jvm.ClassFile.FieldType.array (Jvm.ClassFile.FieldType.object "java/lang/Object"))) ∈ lw_g := tg_3 (List.mem_of_getElem? (i := 42) rfl) rfl
theorem kw3_43 : Jvm.Cond.methodLink "java/util/ArrayList" (73 : Nat) ({ cls := "jdk/internal/util/ArraysSupport", name := "newLength", desc := "(III)I" } : Jvm.MethodName) ∈ lw_g := tg_3 (List.mem_of_getElem? (i := 43) (by decide +kernel)) rfl
theorem kw3_44 : Jvm.Cond.static ({ cls := "jdk/internal/util/ArraysSupport", name := "newLength", desc := "(III)I" } : Jvm.MethodName) ∈ lw_g := tg_3 (List.mem_of_getElem? (i := 44) (by decide +kernel)) rfl
theorem kw3_45 : Jvm.Cond.code ({ cls := "jdk/internal/util/ArraysSupport", name := "newLength", desc := "(III)I" } : Jvm.MethodName) prog_29_method_27_code (4 : Nat) (Option.some Jvm.ClassFile.FieldType.int) ∈ lw_g := tg_3 (List.mem_of_getElem? (i := 45) rfl) rfl
theorem kw3_46 : Jvm.Cond.methodLink "jdk/internal/util/ArraysSupport" (194 : Nat) ({ cls := "java/lang/Math", name := "max", desc := "(II)I" } : Jvm.MethodName) ∈ lw_g := tg_3 (List.mem_of_getElem? (i := 46) (by decide +kernel)) rfl
theorem kw3_47 : Jvm.Cond.constant "jdk/internal/util/ArraysSupport" (200 : Nat) (2147483639 : Int32) ∈ lw_g := tg_3 (List.mem_of_getElem? (i := 47) (by decide +kernel)) rfl
theorem kw3_48 : Jvm.Cond.methodLink "jdk/internal/util/ArraysSupport" (201 : Nat) ({ cls := "jdk/internal/util/ArraysSupport", name := "hugeLength", desc := "(II)I" } : Jvm.MethodName) ∈ lw_g := tg_3 (List.mem_of_getElem? (i := 48) (by decide +kernel)) rfl
theorem kw3_49 : Jvm.Cond.static ({ cls := "jdk/internal/util/ArraysSupport", name := "hugeLength", desc := "(II)I" } : Jvm.MethodName) ∈ lw_g := tg_3 (List.mem_of_getElem? (i := 49) (by decide +kernel)) rfl
theorem kw3_50 : Jvm.Cond.code ({ cls := "jdk/internal/util/ArraysSupport", name := "hugeLength", desc := "(II)I" } : Jvm.MethodName) prog_29_method_28_code (3 : Nat) (Option.some Jvm.ClassFile.FieldType.int) ∈ lw_g := tg_3 (List.mem_of_getElem? (i := 50) rfl) rfl
theorem kw3_51 : Jvm.Cond.methodLink "java/util/ArrayList" (66 : Nat) ({ cls := "java/util/Arrays", name := "copyOf", desc := "([Ljava/lang/Object;I)[Ljava/lang/Object;" } : Jvm.MethodName) ∈ lw_g := tg_3 (List.mem_of_getElem? (i := 51) (by decide +kernel)) rfl
theorem kw3_52 : Jvm.Cond.static ({ cls := "java/util/Arrays", name := "copyOf", desc := "([Ljava/lang/Object;I)[Ljava/lang/Object;" } : Jvm.MethodName) ∈ lw_g := tg_3 (List.mem_of_getElem? (i := 52) (by decide +kernel)) rfl
theorem kw3_53 : Jvm.Cond.code ({ cls := "java/util/Arrays", name := "copyOf", desc := "([Ljava/lang/Object;I)[Ljava/lang/Object;" } : Jvm.MethodName) prog_23_method_119_code (2 : Nat) (Option.some (Jvm.ClassFile.FieldType.array (Jvm.ClassFile.FieldType.object "java/lang/Object"))) ∈ lw_g := tg_3 (List.mem_of_getElem? (i := 53) rfl) rfl
theorem kw3_54 : Jvm.Cond.methodLink "java/util/Arrays" (86 : Nat) ({ cls := "java/lang/Object", name := "getClass", desc := "()Ljava/lang/Class;" } : Jvm.MethodName) ∈ lw_g := tg_3 (List.mem_of_getElem? (i := 54) (by decide +kernel)) rfl
theorem kw3_55 : Jvm.Cond.instanceMethod ({ cls := "java/lang/Object", name := "getClass", desc := "()Ljava/lang/Class;" } : Jvm.MethodName) ∈ lw_g := tg_3 (List.mem_of_getElem? (i := 55) (by decide +kernel)) rfl
theorem kw3_57 : Jvm.Cond.selects "TransitGate" ({ cls := "java/lang/Object", name := "getClass", desc := "()Ljava/lang/Class;" } : Jvm.MethodName) ({ cls := "java/lang/Object", name := "getClass", desc := "()Ljava/lang/Class;" } : Jvm.MethodName) ∈ lw_g := tg_3 (List.mem_of_getElem? (i := 57) (by decide +kernel)) rfl
theorem kw3_58 : Jvm.Cond.selects "TransitGate$Binding" ({ cls := "java/lang/Object", name := "getClass", desc := "()Ljava/lang/Class;" } : Jvm.MethodName) ({ cls := "java/lang/Object", name := "getClass", desc := "()Ljava/lang/Class;" } : Jvm.MethodName) ∈ lw_g := tg_3 (List.mem_of_getElem? (i := 58) (by decide +kernel)) rfl
theorem kw3_59 : Jvm.Cond.selects "TransitGate$Bytes" ({ cls := "java/lang/Object", name := "getClass", desc := "()Ljava/lang/Class;" } : Jvm.MethodName) ({ cls := "java/lang/Object", name := "getClass", desc := "()Ljava/lang/Class;" } : Jvm.MethodName) ∈ lw_g := tg_3 (List.mem_of_getElem? (i := 59) (by decide +kernel)) rfl
theorem kw3_60 : Jvm.Cond.selects "TransitGate$Flow" ({ cls := "java/lang/Object", name := "getClass", desc := "()Ljava/lang/Class;" } : Jvm.MethodName) ({ cls := "java/lang/Object", name := "getClass", desc := "()Ljava/lang/Class;" } : Jvm.MethodName) ∈ lw_g := tg_3 (List.mem_of_getElem? (i := 60) (by decide +kernel)) rfl
theorem kw3_61 : Jvm.Cond.selects "TransitGate$Pool" ({ cls := "java/lang/Object", name := "getClass", desc := "()Ljava/lang/Class;" } : Jvm.MethodName) ({ cls := "java/lang/Object", name := "getClass", desc := "()Ljava/lang/Class;" } : Jvm.MethodName) ∈ lw_g := tg_3 (List.mem_of_getElem? (i := 61) (by decide +kernel)) rfl
theorem kw3_62 : Jvm.Cond.selects "TransitGate$Session" ({ cls := "java/lang/Object", name := "getClass", desc := "()Ljava/lang/Class;" } : Jvm.MethodName) ({ cls := "java/lang/Object", name := "getClass", desc := "()Ljava/lang/Class;" } : Jvm.MethodName) ∈ lw_g := tg_3 (List.mem_of_getElem? (i := 62) (by decide +kernel)) rfl
theorem kw3_63 : Jvm.Cond.selects "TransitGate$Site" ({ cls := "java/lang/Object", name := "getClass", desc := "()Ljava/lang/Class;" } : Jvm.MethodName) ({ cls := "java/lang/Object", name := "getClass", desc := "()Ljava/lang/Class;" } : Jvm.MethodName) ∈ lw_g := tg_3 (List.mem_of_getElem? (i := 63) (by decide +kernel)) rfl
theorem kw3_64 : Jvm.Cond.selects "TransitGate$Table" ({ cls := "java/lang/Object", name := "getClass", desc := "()Ljava/lang/Class;" } : Jvm.MethodName) ({ cls := "java/lang/Object", name := "getClass", desc := "()Ljava/lang/Class;" } : Jvm.MethodName) ∈ lw_g := tg_3 (List.mem_of_getElem? (i := 64) (by decide +kernel)) rfl
theorem kw3_65 : Jvm.Cond.selects "TransitGateModel" ({ cls := "java/lang/Object", name := "getClass", desc := "()Ljava/lang/Class;" } : Jvm.MethodName) ({ cls := "java/lang/Object", name := "getClass", desc := "()Ljava/lang/Class;" } : Jvm.MethodName) ∈ lw_g := tg_3 (List.mem_of_getElem? (i := 65) (by decide +kernel)) rfl
theorem kw3_66 : Jvm.Cond.selects "java/util/ArrayList" ({ cls := "java/lang/Object", name := "getClass", desc := "()Ljava/lang/Class;" } : Jvm.MethodName) ({ cls := "java/lang/Object", name := "getClass", desc := "()Ljava/lang/Class;" } : Jvm.MethodName) ∈ lw_g := tg_3 (List.mem_of_getElem? (i := 66) (by decide +kernel)) rfl
theorem kw3_67 : Jvm.Cond.native ({ cls := "java/lang/Object", name := "getClass", desc := "()Ljava/lang/Class;" } : Jvm.MethodName) ∈ lw_g := tg_3 (List.mem_of_getElem? (i := 67) (by decide +kernel)) rfl
theorem kw3_68 : Jvm.Cond.methodLink "java/util/Arrays" (300 : Nat) ({ cls := "java/util/Arrays", name := "copyOf", desc := "([Ljava/lang/Object;ILjava/lang/Class;)[Ljava/lang/Object;" } : Jvm.MethodName) ∈ lw_g := tg_3 (List.mem_of_getElem? (i := 68) (by decide +kernel)) rfl
theorem kw3_69 : Jvm.Cond.static ({ cls := "java/util/Arrays", name := "copyOf", desc := "([Ljava/lang/Object;ILjava/lang/Class;)[Ljava/lang/Object;" } : Jvm.MethodName) ∈ lw_g := tg_3 (List.mem_of_getElem? (i := 69) (by decide +kernel)) rfl
theorem kw3_70 : Jvm.Cond.code ({ cls := "java/util/Arrays", name := "copyOf", desc := "([Ljava/lang/Object;ILjava/lang/Class;)[Ljava/lang/Object;" } : Jvm.MethodName) prog_23_method_120_code (4 : Nat) (Option.some (Jvm.ClassFile.FieldType.array (Jvm.ClassFile.FieldType.object "java/lang/Object"))) ∈ lw_g := tg_3 (List.mem_of_getElem? (i := 70) rfl) rfl
theorem kw3_71 : Jvm.Cond.classLink "java/util/Arrays" (110 : Nat) "[Ljava/lang/Object;" ∈ lw_g := tg_3 (List.mem_of_getElem? (i := 71) (by decide +kernel)) rfl
theorem kw3_73 : Jvm.Cond.classLink "java/util/Arrays" (2 : Nat) "java/lang/Object" ∈ lw_g := tg_3 (List.mem_of_getElem? (i := 73) (by decide +kernel)) rfl
theorem kw3_74 : Jvm.Cond.methodLink "java/util/Arrays" (304 : Nat) ({ cls := "java/lang/Math", name := "min", desc := "(II)I" } : Jvm.MethodName) ∈ lw_g := tg_3 (List.mem_of_getElem? (i := 74) (by decide +kernel)) rfl
theorem kw3_75 : Jvm.Cond.methodLink "java/util/Arrays" (150 : Nat) ({ cls := "java/lang/System", name := "arraycopy", desc := "(Ljava/lang/Object;ILjava/lang/Object;II)V" } : Jvm.MethodName) ∈ lw_g := tg_3 (List.mem_of_getElem? (i := 75) (by decide +kernel)) rfl
theorem kw3_76 : Jvm.Cond.static ({ cls := "java/lang/System", name := "arraycopy", desc := "(Ljava/lang/Object;ILjava/lang/Object;II)V" } : Jvm.MethodName) ∈ lw_g := tg_3 (List.mem_of_getElem? (i := 76) (by decide +kernel)) rfl
theorem kw3_77 : Jvm.Cond.native ({ cls := "java/lang/System", name := "arraycopy", desc := "(Ljava/lang/Object;ILjava/lang/Object;II)V" } : Jvm.MethodName) ∈ lw_g := tg_3 (List.mem_of_getElem? (i := 77) (by decide +kernel)) rfl
theorem kw3_78 : Jvm.Cond.methodLink "java/util/ArrayList" (79 : Nat) ({ cls := "java/lang/Math", name := "max", desc := "(II)I" } : Jvm.MethodName) ∈ lw_g := tg_3 (List.mem_of_getElem? (i := 78) (by decide +kernel)) rfl
theorem kw3_79 : Jvm.Cond.classLink "java/util/ArrayList" (7 : Nat) "java/lang/Object" ∈ lw_g := tg_3 (List.mem_of_getElem? (i := 79) (by decide +kernel)) rfl
theorem kw3_80 : Jvm.Cond.methodLink "TransitGate$Table" (73 : Nat) ({ cls := "TransitGate$Session", name := "<init>", desc := "(LTransitGate$Binding;LTransitGate$Flow;J)V" } : Jvm.MethodName) ∈ lw_g := tg_3 (List.mem_of_getElem? (i := 80) (by decide +kernel)) rfl
theorem kw3_81 : Jvm.Cond.instanceMethod ({ cls := "TransitGate$Session", name := "<init>", desc := "(LTransitGate$Binding;LTransitGate$Flow;J)V" } : Jvm.MethodName) ∈ lw_g := tg_3 (List.mem_of_getElem? (i := 81) (by decide +kernel)) rfl
theorem kw3_82 : Jvm.Cond.code ({ cls := "TransitGate$Session", name := "<init>", desc := "(LTransitGate$Binding;LTransitGate$Flow;J)V" } : Jvm.MethodName) prog_9_method_1_code (5 : Nat) (Option.none : Option Jvm.ClassFile.FieldType) ∈ lw_g := tg_3 (List.mem_of_getElem? (i := 82) rfl) rfl
theorem kw3_83 : Jvm.Cond.methodLink "TransitGate$Session" (3 : Nat) ({ cls := "java/lang/Object", name := "<init>", desc := "()V" } : Jvm.MethodName) ∈ lw_g := tg_3 (List.mem_of_getElem? (i := 83) (by decide +kernel)) rfl
theorem kw3_84 : Jvm.Cond.methodLink "TransitGate$Session" (26 : Nat) ({ cls := "TransitGate$Session", name := "firstState", desc := "(LTransitGate$Flow;)I" } : Jvm.MethodName) ∈ lw_g := tg_3 (List.mem_of_getElem? (i := 84) (by decide +kernel)) rfl
theorem kw3_85 : Jvm.Cond.static ({ cls := "TransitGate$Session", name := "firstState", desc := "(LTransitGate$Flow;)I" } : Jvm.MethodName) ∈ lw_g := tg_3 (List.mem_of_getElem? (i := 85) (by decide +kernel)) rfl
theorem kw3_86 : Jvm.Cond.code ({ cls := "TransitGate$Session", name := "firstState", desc := "(LTransitGate$Flow;)I" } : Jvm.MethodName) prog_9_method_3_code (1 : Nat) (Option.some Jvm.ClassFile.FieldType.int) ∈ lw_g := tg_3 (List.mem_of_getElem? (i := 86) rfl) rfl
theorem kw3_87 : Jvm.Cond.fieldLink "TransitGate$Session" (9 : Nat) "TransitGate$Session" "owner" "LTransitGate$Binding;" ∈ lw_g := tg_3 (List.mem_of_getElem? (i := 87) (by decide +kernel)) rfl
theorem kw3_88 : Jvm.Cond.fieldLink "TransitGate$Table" (40 : Nat) "TransitGate$Session" "owner" "LTransitGate$Binding;" ∈ lw_g := tg_3 (List.mem_of_getElem? (i := 88) (by decide +kernel)) rfl
theorem kw3_89 : Jvm.Cond.fieldLink "TransitGate" (162 : Nat) "TransitGate$Session" "owner" "LTransitGate$Binding;" ∈ lw_g := tg_3 (List.mem_of_getElem? (i := 89) (by decide +kernel)) rfl
theorem kw3_90 : Jvm.Cond.fieldLink "TransitGate$Session" (21 : Nat) "TransitGate$Session" "farAddress" "I" ∈ lw_g := tg_3 (List.mem_of_getElem? (i := 90) (by decide +kernel)) rfl
theorem kw3_91 : Jvm.Cond.fieldLink "TransitGate$Table" (107 : Nat) "TransitGate$Session" "farAddress" "I" ∈ lw_g := tg_3 (List.mem_of_getElem? (i := 91) (by decide +kernel)) rfl
theorem kw3_92 : Jvm.Cond.fieldLink "TransitGate" (171 : Nat) "TransitGate$Session" "farAddress" "I" ∈ lw_g := tg_3 (List.mem_of_getElem? (i := 92) (by decide +kernel)) rfl
theorem kw3_93 : Jvm.Cond.fieldLink "TransitGate$Session" (25 : Nat) "TransitGate$Session" "farPort" "I" ∈ lw_g := tg_3 (List.mem_of_getElem? (i := 93) (by decide +kernel)) rfl
theorem kw3_94 : Jvm.Cond.fieldLink "TransitGate$Table" (111 : Nat) "TransitGate$Session" "farPort" "I" ∈ lw_g := tg_3 (List.mem_of_getElem? (i := 94) (by decide +kernel)) rfl
theorem kw3_95 : Jvm.Cond.fieldLink "TransitGate" (174 : Nat) "TransitGate$Session" "farPort" "I" ∈ lw_g := tg_3 (List.mem_of_getElem? (i := 95) (by decide +kernel)) rfl
theorem kw3_96 : Jvm.Cond.fieldLink "TransitGate$Session" (30 : Nat) "TransitGate$Session" "state" "I" ∈ lw_g := tg_3 (List.mem_of_getElem? (i := 96) (by decide +kernel)) rfl
theorem kw3_97 : Jvm.Cond.fieldLink "TransitGate" (177 : Nat) "TransitGate$Session" "state" "I" ∈ lw_g := tg_3 (List.mem_of_getElem? (i := 97) (by decide +kernel)) rfl
theorem kw3_98 : Jvm.Cond.fieldLink "TransitGate$Session" (40 : Nat) "TransitGate$Session" "end" "J" ∈ lw_g := tg_3 (List.mem_of_getElem? (i := 98) (by decide +kernel)) rfl
theorem kw3_99 : Jvm.Cond.fieldLink "TransitGate$Table" (44 : Nat) "TransitGate$Session" "end" "J" ∈ lw_g := tg_3 (List.mem_of_getElem? (i := 99) (by decide +kernel)) rfl
theorem kw3_100 : Jvm.Cond.fieldLink "TransitGate" (180 : Nat) "TransitGate$Session" "end" "J" ∈ lw_g := tg_3 (List.mem_of_getElem? (i := 100) (by decide +kernel)) rfl
theorem kw3_112 : Jvm.Cond.methodLink "TransitGate" (227 : Nat) ({ cls := "TransitGate$Pool", name := "at", desc := "(I)I" } : Jvm.MethodName) ∈ lw_g := tg_3 (List.mem_of_getElem? (i := 112) (by decide +kernel)) rfl
theorem kw3_113 : Jvm.Cond.instanceMethod ({ cls := "TransitGate$Pool", name := "at", desc := "(I)I" } : Jvm.MethodName) ∈ lw_g := tg_3 (List.mem_of_getElem? (i := 113) (by decide +kernel)) rfl
theorem kw3_114 : Jvm.Cond.selects "TransitGate$Pool" ({ cls := "TransitGate$Pool", name := "at", desc := "(I)I" } : Jvm.MethodName) ({ cls := "TransitGate$Pool", name := "at", desc := "(I)I" } : Jvm.MethodName) ∈ lw_g := tg_3 (List.mem_of_getElem? (i := 114) (by decide +kernel)) rfl
theorem kw3_115 : Jvm.Cond.code ({ cls := "TransitGate$Pool", name := "at", desc := "(I)I" } : Jvm.MethodName) prog_7_method_4_code (2 : Nat) (Option.some Jvm.ClassFile.FieldType.int) ∈ lw_g := tg_3 (List.mem_of_getElem? (i := 115) rfl) rfl
theorem kw3_116 : Jvm.Cond.methodLink "TransitGate" (231 : Nat) ({ cls := "TransitGate$Maker", name := "toFour", desc := "(LTransitGate$Bytes;LTransitGate$Bytes;LTransitGate$Binding;III)V" } : Jvm.MethodName) ∈ lw_g := tg_3 (List.mem_of_getElem? (i := 116) (by decide +kernel)) rfl
theorem kw3_117 : Jvm.Cond.static ({ cls := "TransitGate$Maker", name := "toFour", desc := "(LTransitGate$Bytes;LTransitGate$Bytes;LTransitGate$Binding;III)V" } : Jvm.MethodName) ∈ lw_g := tg_3 (List.mem_of_getElem? (i := 117) (by decide +kernel)) rfl
theorem kw3_118 : Jvm.Cond.code ({ cls := "TransitGate$Maker", name := "toFour", desc := "(LTransitGate$Bytes;LTransitGate$Bytes;LTransitGate$Binding;III)V" } : Jvm.MethodName) prog_5_method_2_code (8 : Nat) (Option.none : Option Jvm.ClassFile.FieldType) ∈ lw_g := tg_3 (List.mem_of_getElem? (i := 118) rfl) rfl
theorem kw3_119 : Jvm.Cond.methodLink "TransitGate$Maker" (15 : Nat) ({ cls := "TransitGate$Bytes", name := "length", desc := "()I" } : Jvm.MethodName) ∈ lw_g := tg_3 (List.mem_of_getElem? (i := 119) (by decide +kernel)) rfl
theorem kw3_120 : Jvm.Cond.methodLink "TransitGate$Maker" (21 : Nat) ({ cls := "TransitGate$Bytes", name := "resize", desc := "(I)V" } : Jvm.MethodName) ∈ lw_g := tg_3 (List.mem_of_getElem? (i := 120) (by decide +kernel)) rfl
theorem kw3_121 : Jvm.Cond.methodLink "TransitGate$Maker" (25 : Nat) ({ cls := "TransitGate$Bytes", name := "put", desc := "(II)V" } : Jvm.MethodName) ∈ lw_g := tg_3 (List.mem_of_getElem? (i := 121) (by decide +kernel)) rfl
theorem kw3_122 : Jvm.Cond.instanceMethod ({ cls := "TransitGate$Bytes", name := "put", desc := "(II)V" } : Jvm.MethodName) ∈ lw_g := tg_3 (List.mem_of_getElem? (i := 122) (by decide +kernel)) rfl
theorem kw3_123 : Jvm.Cond.selects "TransitGate$Bytes" ({ cls := "TransitGate$Bytes", name := "put", desc := "(II)V" } : Jvm.MethodName) ({ cls := "TransitGate$Bytes", name := "put", desc := "(II)V" } : Jvm.MethodName) ∈ lw_g := tg_3 (List.mem_of_getElem? (i := 123) (by decide +kernel)) rfl
theorem kw3_124 : Jvm.Cond.code ({ cls := "TransitGate$Bytes", name := "put", desc := "(II)V" } : Jvm.MethodName) prog_3_method_8_code (3 : Nat) (Option.none : Option Jvm.ClassFile.FieldType) ∈ lw_g := tg_3 (List.mem_of_getElem? (i := 124) rfl) rfl
theorem kw3_125 : Jvm.Cond.methodLink "TransitGate$Maker" (29 : Nat) ({ cls := "TransitGate$Bytes", name := "pair", desc := "(I)I" } : Jvm.MethodName) ∈ lw_g := tg_3 (List.mem_of_getElem? (i := 125) (by decide +kernel)) rfl
theorem kw3_126 : Jvm.Cond.methodLink "TransitGate$Maker" (33 : Nat) ({ cls := "TransitGate$Bytes", name := "putPair", desc := "(II)V" } : Jvm.MethodName) ∈ lw_g := tg_3 (List.mem_of_getElem? (i := 126) (by decide +kernel)) rfl
theorem kw3_127 : Jvm.Cond.instanceMethod ({ cls := "TransitGate$Bytes", name := "putPair", desc := "(II)V" } : Jvm.MethodName) ∈ lw_g := tg_3 (List.mem_of_getElem? (i := 127) (by decide +kernel)) rfl
theorem kw3_128 : Jvm.Cond.selects "TransitGate$Bytes" ({ cls := "TransitGate$Bytes", name := "putPair", desc := "(II)V" } : Jvm.MethodName) ({ cls := "TransitGate$Bytes", name := "putPair", desc := "(II)V" } : Jvm.MethodName) ∈ lw_g := tg_3 (List.mem_of_getElem? (i := 128) (by decide +kernel)) rfl
theorem kw3_129 : Jvm.Cond.code ({ cls := "TransitGate$Bytes", name := "putPair", desc := "(II)V" } : Jvm.MethodName) prog_3_method_9_code (3 : Nat) (Option.none : Option Jvm.ClassFile.FieldType) ∈ lw_g := tg_3 (List.mem_of_getElem? (i := 129) rfl) rfl
theorem kw3_130 : Jvm.Cond.methodLink "TransitGate$Maker" (36 : Nat) ({ cls := "TransitGate$Bytes", name := "octet", desc := "(I)I" } : Jvm.MethodName) ∈ lw_g := tg_3 (List.mem_of_getElem? (i := 130) (by decide +kernel)) rfl
theorem kw3_131 : Jvm.Cond.methodLink "TransitGate$Maker" (39 : Nat) ({ cls := "TransitGate$Bytes", name := "putQuad", desc := "(II)V" } : Jvm.MethodName) ∈ lw_g := tg_3 (List.mem_of_getElem? (i := 131) (by decide +kernel)) rfl
theorem kw3_132 : Jvm.Cond.methodLink "TransitGate$Maker" (42 : Nat) ({ cls := "TransitGate$Sums", name := "ofHead", desc := "(LTransitGate$Bytes;)I" } : Jvm.MethodName) ∈ lw_g := tg_3 (List.mem_of_getElem? (i := 132) (by decide +kernel)) rfl
theorem kw3_133 : Jvm.Cond.static ({ cls := "TransitGate$Sums", name := "ofHead", desc := "(LTransitGate$Bytes;)I" } : Jvm.MethodName) ∈ lw_g := tg_3 (List.mem_of_getElem? (i := 133) (by decide +kernel)) rfl
theorem kw3_134 : Jvm.Cond.code ({ cls := "TransitGate$Sums", name := "ofHead", desc := "(LTransitGate$Bytes;)I" } : Jvm.MethodName) prog_11_method_2_code (1 : Nat) (Option.some Jvm.ClassFile.FieldType.int) ∈ lw_g := tg_3 (List.mem_of_getElem? (i := 134) rfl) rfl
theorem kw3_135 : Jvm.Cond.methodLink "TransitGate$Maker" (48 : Nat) ({ cls := "TransitGate$Bytes", name := "copy", desc := "(LTransitGate$Bytes;III)V" } : Jvm.MethodName) ∈ lw_g := tg_3 (List.mem_of_getElem? (i := 135) (by decide +kernel)) rfl
theorem kw3_136 : Jvm.Cond.instanceMethod ({ cls := "TransitGate$Bytes", name := "copy", desc := "(LTransitGate$Bytes;III)V" } : Jvm.MethodName) ∈ lw_g := tg_3 (List.mem_of_getElem? (i := 136) (by decide +kernel)) rfl
theorem kw3_137 : Jvm.Cond.selects "TransitGate$Bytes" ({ cls := "TransitGate$Bytes", name := "copy", desc := "(LTransitGate$Bytes;III)V" } : Jvm.MethodName) ({ cls := "TransitGate$Bytes", name := "copy", desc := "(LTransitGate$Bytes;III)V" } : Jvm.MethodName) ∈ lw_g := tg_3 (List.mem_of_getElem? (i := 137) (by decide +kernel)) rfl
theorem kw3_138 : Jvm.Cond.code ({ cls := "TransitGate$Bytes", name := "copy", desc := "(LTransitGate$Bytes;III)V" } : Jvm.MethodName) prog_3_method_14_code (6 : Nat) (Option.none : Option Jvm.ClassFile.FieldType) ∈ lw_g := tg_3 (List.mem_of_getElem? (i := 138) rfl) rfl
theorem kw3_139 : Jvm.Cond.methodLink "TransitGate$Bytes" (34 : Nat) ({ cls := "java/lang/System", name := "arraycopy", desc := "(Ljava/lang/Object;ILjava/lang/Object;II)V" } : Jvm.MethodName) ∈ lw_g := tg_3 (List.mem_of_getElem? (i := 139) (by decide +kernel)) rfl
theorem kw3_140 : Jvm.Cond.methodLink "TransitGate$Maker" (52 : Nat) ({ cls := "TransitGate$Part", name := "sourcePortAt", desc := "(I)I" } : Jvm.MethodName) ∈ lw_g := tg_3 (List.mem_of_getElem? (i := 140) (by decide +kernel)) rfl
theorem kw3_141 : Jvm.Cond.methodLink "TransitGate$Maker" (60 : Nat) ({ cls := "TransitGate$Sums", name := "putPart", desc := "(LTransitGate$Bytes;I)V" } : Jvm.MethodName) ∈ lw_g := tg_3 (List.mem_of_getElem? (i := 141) (by decide +kernel)) rfl
theorem kw3_142 : Jvm.Cond.static ({ cls := "TransitGate$Sums", name := "putPart", desc := "(LTransitGate$Bytes;I)V" } : Jvm.MethodName) ∈ lw_g := tg_3 (List.mem_of_getElem? (i := 142) (by decide +kernel)) rfl
theorem kw3_143 : Jvm.Cond.code ({ cls := "TransitGate$Sums", name := "putPart", desc := "(LTransitGate$Bytes;I)V" } : Jvm.MethodName) prog_11_method_6_code (3 : Nat) (Option.none : Option Jvm.ClassFile.FieldType) ∈ lw_g := tg_3 (List.mem_of_getElem? (i := 143) rfl) rfl
theorem kw3_144 : Jvm.Cond.methodLink "TransitGate$Sums" (45 : Nat) ({ cls := "TransitGate$Bytes", name := "putPair", desc := "(II)V" } : Jvm.MethodName) ∈ lw_g := tg_3 (List.mem_of_getElem? (i := 144) (by decide +kernel)) rfl
theorem kw3_145 : Jvm.Cond.constant "TransitGate" (237 : Nat) (65535 : Int32) ∈ lw_g := tg_3 (List.mem_of_getElem? (i := 145) (by decide +kernel)) rfl
theorem kw3_146 : Jvm.Cond.methodLink "TransitGate" (89 : Nat) ({ cls := "TransitGate", name := "closePacket", desc := "(I)I" } : Jvm.MethodName) ∈ lw_g := tg_3 (List.mem_of_getElem? (i := 146) (by decide +kernel)) rfl
theorem kw3_148 : Jvm.Cond.instanceMethod ({ cls := "TransitGate", name := "closePacket", desc := "(I)I" } : Jvm.MethodName) ∈ lw_g := tg_3 (List.mem_of_getElem? (i := 148) (by decide +kernel)) rfl
theorem kw3_149 : Jvm.Cond.code ({ cls := "TransitGate", name := "closePacket", desc := "(I)I" } : Jvm.MethodName) prog_1_method_20_code (2 : Nat) (Option.some Jvm.ClassFile.FieldType.int) ∈ lw_g := tg_3 (List.mem_of_getElem? (i := 149) rfl) rfl
theorem kw3_150 : Jvm.Cond.methodLink "TransitGateLaw" (48 : Nat) ({ cls := "TransitGate", name := "outside", desc := "(I)I" } : Jvm.MethodName) ∈ lw_g := tg_3 (List.mem_of_getElem? (i := 150) (by decide +kernel)) rfl
theorem kw3_151 : Jvm.Cond.instanceMethod ({ cls := "TransitGate", name := "outside", desc := "(I)I" } : Jvm.MethodName) ∈ lw_g := tg_3 (List.mem_of_getElem? (i := 151) (by decide +kernel)) rfl
theorem kw3_152 : Jvm.Cond.selects "TransitGate" ({ cls := "TransitGate", name := "outside", desc := "(I)I" } : Jvm.MethodName) ({ cls := "TransitGate", name := "outside", desc := "(I)I" } : Jvm.MethodName) ∈ lw_g := tg_3 (List.mem_of_getElem? (i := 152) (by decide +kernel)) rfl
theorem kw3_153 : Jvm.Cond.code ({ cls := "TransitGate", name := "outside", desc := "(I)I" } : Jvm.MethodName) prog_1_method_9_code (2 : Nat) (Option.some Jvm.ClassFile.FieldType.int) ∈ lw_g := tg_3 (List.mem_of_getElem? (i := 153) rfl) rfl
theorem kw3_154 : Jvm.Cond.methodLink "TransitGate" (92 : Nat) ({ cls := "TransitGate", name := "passFromOutside", desc := "()I" } : Jvm.MethodName) ∈ lw_g := tg_3 (List.mem_of_getElem? (i := 154) (by decide +kernel)) rfl
theorem kw3_156 : Jvm.Cond.instanceMethod ({ cls := "TransitGate", name := "passFromOutside", desc := "()I" } : Jvm.MethodName) ∈ lw_g := tg_3 (List.mem_of_getElem? (i := 156) (by decide +kernel)) rfl
theorem kw3_157 : Jvm.Cond.code ({ cls := "TransitGate", name := "passFromOutside", desc := "()I" } : Jvm.MethodName) prog_1_method_22_code (4 : Nat) (Option.some Jvm.ClassFile.FieldType.int) ∈ lw_g := tg_3 (List.mem_of_getElem? (i := 157) rfl) rfl
theorem kw3_158 : Jvm.Cond.methodLink "TransitGate" (238 : Nat) ({ cls := "TransitGate$Rules", name := "faultFromOutside", desc := "(LTransitGate$Bytes;LTransitGate$Site;LTransitGate$Pool;)I" } : Jvm.MethodName) ∈ lw_g := tg_3 (List.mem_of_getElem? (i := 158) (by decide +kernel)) rfl
theorem kw3_159 : Jvm.Cond.static ({ cls := "TransitGate$Rules", name := "faultFromOutside", desc := "(LTransitGate$Bytes;LTransitGate$Site;LTransitGate$Pool;)I" } : Jvm.MethodName) ∈ lw_g := tg_3 (List.mem_of_getElem? (i := 159) (by decide +kernel)) rfl
theorem kw3_160 : Jvm.Cond.code ({ cls := "TransitGate$Rules", name := "faultFromOutside", desc := "(LTransitGate$Bytes;LTransitGate$Site;LTransitGate$Pool;)I" } : Jvm.MethodName) prog_8_method_3_code (3 : Nat) (Option.some Jvm.ClassFile.FieldType.int) ∈ lw_g := tg_3 (List.mem_of_getElem? (i := 160) rfl) rfl
theorem kw3_161 : Jvm.Cond.methodLink "TransitGate$Rules" (34 : Nat) ({ cls := "TransitGate$Rules", name := "isFramedFour", desc := "(LTransitGate$Bytes;)Z" } : Jvm.MethodName) ∈ lw_g := tg_3 (List.mem_of_getElem? (i := 161) (by decide +kernel)) rfl
theorem kw3_162 : Jvm.Cond.static ({ cls := "TransitGate$Rules", name := "isFramedFour", desc := "(LTransitGate$Bytes;)Z" } : Jvm.MethodName) ∈ lw_g := tg_3 (List.mem_of_getElem? (i := 162) (by decide +kernel)) rfl
theorem kw3_163 : Jvm.Cond.code ({ cls := "TransitGate$Rules", name := "isFramedFour", desc := "(LTransitGate$Bytes;)Z" } : Jvm.MethodName) prog_8_method_8_code (2 : Nat) (Option.some Jvm.ClassFile.FieldType.boolean) ∈ lw_g := tg_3 (List.mem_of_getElem? (i := 163) rfl) rfl
theorem kw3_164 : Jvm.Cond.methodLink "TransitGate$Rules" (37 : Nat) ({ cls := "TransitGate$Sums", name := "headIsRight", desc := "(LTransitGate$Bytes;)Z" } : Jvm.MethodName) ∈ lw_g := tg_3 (List.mem_of_getElem? (i := 164) (by decide +kernel)) rfl
theorem kw3_165 : Jvm.Cond.static ({ cls := "TransitGate$Sums", name := "headIsRight", desc := "(LTransitGate$Bytes;)Z" } : Jvm.MethodName) ∈ lw_g := tg_3 (List.mem_of_getElem? (i := 165) (by decide +kernel)) rfl
theorem kw3_166 : Jvm.Cond.code ({ cls := "TransitGate$Sums", name := "headIsRight", desc := "(LTransitGate$Bytes;)Z" } : Jvm.MethodName) prog_11_method_4_code (1 : Nat) (Option.some Jvm.ClassFile.FieldType.boolean) ∈ lw_g := tg_3 (List.mem_of_getElem? (i := 166) rfl) rfl
theorem kw3_167 : Jvm.Cond.methodLink "TransitGate$Sums" (31 : Nat) ({ cls := "TransitGate$Sums", name := "ofHead", desc := "(LTransitGate$Bytes;)I" } : Jvm.MethodName) ∈ lw_g := tg_3 (List.mem_of_getElem? (i := 167) (by decide +kernel)) rfl
theorem kw3_168 : Jvm.Cond.methodLink "TransitGate$Rules" (40 : Nat) ({ cls := "TransitGate$Rules", name := "isKnownFour", desc := "(LTransitGate$Bytes;)Z" } : Jvm.MethodName) ∈ lw_g := tg_3 (List.mem_of_getElem? (i := 168) (by decide +kernel)) rfl
theorem kw3_169 : Jvm.Cond.static ({ cls := "TransitGate$Rules", name := "isKnownFour", desc := "(LTransitGate$Bytes;)Z" } : Jvm.MethodName) ∈ lw_g := tg_3 (List.mem_of_getElem? (i := 169) (by decide +kernel)) rfl
theorem kw3_170 : Jvm.Cond.code ({ cls := "TransitGate$Rules", name := "isKnownFour", desc := "(LTransitGate$Bytes;)Z" } : Jvm.MethodName) prog_8_method_9_code (1 : Nat) (Option.some Jvm.ClassFile.FieldType.boolean) ∈ lw_g := tg_3 (List.mem_of_getElem? (i := 170) rfl) rfl
theorem kw3_171 : Jvm.Cond.methodLink "TransitGate$Rules" (94 : Nat) ({ cls := "TransitGate$Rules", name := "isKnownIcmpFour", desc := "(LTransitGate$Bytes;)Z" } : Jvm.MethodName) ∈ lw_g := tg_3 (List.mem_of_getElem? (i := 171) (by decide +kernel)) rfl
theorem kw3_172 : Jvm.Cond.static ({ cls := "TransitGate$Rules", name := "isKnownIcmpFour", desc := "(LTransitGate$Bytes;)Z" } : Jvm.MethodName) ∈ lw_g := tg_3 (List.mem_of_getElem? (i := 172) (by decide +kernel)) rfl
theorem kw3_173 : Jvm.Cond.code ({ cls := "TransitGate$Rules", name := "isKnownIcmpFour", desc := "(LTransitGate$Bytes;)Z" } : Jvm.MethodName) prog_8_method_10_code (2 : Nat) (Option.some Jvm.ClassFile.FieldType.boolean) ∈ lw_g := tg_3 (List.mem_of_getElem? (i := 173) rfl) rfl
theorem kw3_174 : Jvm.Cond.methodLink "TransitGate$Rules" (97 : Nat) ({ cls := "TransitGate$Rules", name := "hasKnownWithin", desc := "(LTransitGate$Bytes;)Z" } : Jvm.MethodName) ∈ lw_g := tg_3 (List.mem_of_getElem? (i := 174) (by decide +kernel)) rfl
theorem kw3_175 : Jvm.Cond.static ({ cls := "TransitGate$Rules", name := "hasKnownWithin", desc := "(LTransitGate$Bytes;)Z" } : Jvm.MethodName) ∈ lw_g := tg_3 (List.mem_of_getElem? (i := 175) (by decide +kernel)) rfl
theorem kw3_176 : Jvm.Cond.code ({ cls := "TransitGate$Rules", name := "hasKnownWithin", desc := "(LTransitGate$Bytes;)Z" } : Jvm.MethodName) prog_8_method_11_code (3 : Nat) (Option.some Jvm.ClassFile.FieldType.boolean) ∈ lw_g := tg_3 (List.mem_of_getElem? (i := 176) rfl) rfl
theorem kw3_177 : Jvm.Cond.methodLink "TransitGate$Rules" (100 : Nat) ({ cls := "TransitGate$Part", name := "hasPorts", desc := "(I)Z" } : Jvm.MethodName) ∈ lw_g := tg_3 (List.mem_of_getElem? (i := 177) (by decide +kernel)) rfl
theorem kw3_178 : Jvm.Cond.methodLink "TransitGate$Rules" (43 : Nat) ({ cls := "TransitGate$Rules", name := "isPlacedFour", desc := "(LTransitGate$Bytes;LTransitGate$Site;LTransitGate$Pool;)Z" } : Jvm.MethodName) ∈ lw_g := tg_3 (List.mem_of_getElem? (i := 178) (by decide +kernel)) rfl
theorem kw3_179 : Jvm.Cond.static ({ cls := "TransitGate$Rules", name := "isPlacedFour", desc := "(LTransitGate$Bytes;LTransitGate$Site;LTransitGate$Pool;)Z" } : Jvm.MethodName) ∈ lw_g := tg_3 (List.mem_of_getElem? (i := 179) (by decide +kernel)) rfl
theorem kw3_180 : Jvm.Cond.code ({ cls := "TransitGate$Rules", name := "isPlacedFour", desc := "(LTransitGate$Bytes;LTransitGate$Site;LTransitGate$Pool;)Z" } : Jvm.MethodName) prog_8_method_12_code (4 : Nat) (Option.some Jvm.ClassFile.FieldType.boolean) ∈ lw_g := tg_3 (List.mem_of_getElem? (i := 180) rfl) rfl
theorem kw3_181 : Jvm.Cond.methodLink "TransitGate$Rules" (103 : Nat) ({ cls := "TransitGate$Bytes", name := "quad", desc := "(I)I" } : Jvm.MethodName) ∈ lw_g := tg_3 (List.mem_of_getElem? (i := 181) (by decide +kernel)) rfl
theorem kw3_182 : Jvm.Cond.instanceMethod ({ cls := "TransitGate$Bytes", name := "quad", desc := "(I)I" } : Jvm.MethodName) ∈ lw_g := tg_3 (List.mem_of_getElem? (i := 182) (by decide +kernel)) rfl
theorem kw3_183 : Jvm.Cond.selects "TransitGate$Bytes" ({ cls := "TransitGate$Bytes", name := "quad", desc := "(I)I" } : Jvm.MethodName) ({ cls := "TransitGate$Bytes", name := "quad", desc := "(I)I" } : Jvm.MethodName) ∈ lw_g := tg_3 (List.mem_of_getElem? (i := 183) (by decide +kernel)) rfl
theorem kw3_184 : Jvm.Cond.code ({ cls := "TransitGate$Bytes", name := "quad", desc := "(I)I" } : Jvm.MethodName) prog_3_method_6_code (2 : Nat) (Option.some Jvm.ClassFile.FieldType.int) ∈ lw_g := tg_3 (List.mem_of_getElem? (i := 184) rfl) rfl
theorem kw3_185 : Jvm.Cond.methodLink "TransitGate$Rules" (106 : Nat) ({ cls := "TransitGate$Pool", name := "has", desc := "(I)Z" } : Jvm.MethodName) ∈ lw_g := tg_3 (List.mem_of_getElem? (i := 185) (by decide +kernel)) rfl
theorem kw3_186 : Jvm.Cond.methodLink "TransitGate$Rules" (109 : Nat) ({ cls := "TransitGate$Part", name := "isError", desc := "(LTransitGate$Bytes;)Z" } : Jvm.MethodName) ∈ lw_g := tg_3 (List.mem_of_getElem? (i := 186) (by decide +kernel)) rfl
theorem kw3_187 : Jvm.Cond.static ({ cls := "TransitGate$Part", name := "isError", desc := "(LTransitGate$Bytes;)Z" } : Jvm.MethodName) ∈ lw_g := tg_3 (List.mem_of_getElem? (i := 187) (by decide +kernel)) rfl
theorem kw3_188 : Jvm.Cond.code ({ cls := "TransitGate$Part", name := "isError", desc := "(LTransitGate$Bytes;)Z" } : Jvm.MethodName) prog_6_method_13_code (2 : Nat) (Option.some Jvm.ClassFile.FieldType.boolean) ∈ lw_g := tg_3 (List.mem_of_getElem? (i := 188) rfl) rfl
theorem kw3_189 : Jvm.Cond.methodLink "TransitGate" (241 : Nat) ({ cls := "TransitGate$Part", name := "isError", desc := "(LTransitGate$Bytes;)Z" } : Jvm.MethodName) ∈ lw_g := tg_3 (List.mem_of_getElem? (i := 189) (by decide +kernel)) rfl
theorem kw3_190 : Jvm.Cond.methodLink "TransitGate" (245 : Nat) ({ cls := "TransitGate", name := "passError", desc := "()I" } : Jvm.MethodName) ∈ lw_g := tg_3 (List.mem_of_getElem? (i := 190) (by decide +kernel)) rfl
theorem kw3_192 : Jvm.Cond.instanceMethod ({ cls := "TransitGate", name := "passError", desc := "()I" } : Jvm.MethodName) ∈ lw_g := tg_3 (List.mem_of_getElem? (i := 192) (by decide +kernel)) rfl
theorem kw3_193 : Jvm.Cond.code ({ cls := "TransitGate", name := "passError", desc := "()I" } : Jvm.MethodName) prog_1_method_23_code (5 : Nat) (Option.some Jvm.ClassFile.FieldType.int) ∈ lw_g := tg_3 (List.mem_of_getElem? (i := 193) rfl) rfl
theorem kw3_194 : Jvm.Cond.methodLink "TransitGate" (102 : Nat) ({ cls := "TransitGate$Bytes", name := "octet", desc := "(I)I" } : Jvm.MethodName) ∈ lw_g := tg_3 (List.mem_of_getElem? (i := 194) (by decide +kernel)) rfl
theorem kw3_195 : Jvm.Cond.methodLink "TransitGate" (95 : Nat) ({ cls := "TransitGate$Bytes", name := "quad", desc := "(I)I" } : Jvm.MethodName) ∈ lw_g := tg_3 (List.mem_of_getElem? (i := 195) (by decide +kernel)) rfl
theorem kw3_196 : Jvm.Cond.methodLink "TransitGate" (252 : Nat) ({ cls := "TransitGate$Pool", name := "numberOf", desc := "(I)I" } : Jvm.MethodName) ∈ lw_g := tg_3 (List.mem_of_getElem? (i := 196) (by decide +kernel)) rfl
theorem kw3_197 : Jvm.Cond.methodLink "TransitGate" (262 : Nat) ({ cls := "TransitGate$Part", name := "sourcePort", desc := "(LTransitGate$Bytes;II)I" } : Jvm.MethodName) ∈ lw_g := tg_3 (List.mem_of_getElem? (i := 197) (by decide +kernel)) rfl
theorem kw3_198 : Jvm.Cond.methodLink "TransitGate" (266 : Nat) ({ cls := "TransitGate$Table", name := "byOuter", desc := "(III)LTransitGate$Binding;" } : Jvm.MethodName) ∈ lw_g := tg_3 (List.mem_of_getElem? (i := 198) (by decide +kernel)) rfl
theorem kw3_199 : Jvm.Cond.methodLink "TransitGate" (270 : Nat) ({ cls := "TransitGate$Maker", name := "errorToSix", desc := "(LTransitGate$Bytes;LTransitGate$Bytes;LTransitGate$Binding;LTransitGate$Site;)V" } : Jvm.MethodName) ∈ lw_g := tg_3 (List.mem_of_getElem? (i := 199) (by decide +kernel)) rfl
theorem kw3_200 : Jvm.Cond.static ({ cls := "TransitGate$Maker", name := "errorToSix", desc := "(LTransitGate$Bytes;LTransitGate$Bytes;LTransitGate$Binding;LTransitGate$Site;)V" } : Jvm.MethodName) ∈ lw_g := tg_3 (List.mem_of_getElem? (i := 200) (by decide +kernel)) rfl
theorem kw3_201 : Jvm.Cond.code ({ cls := "TransitGate$Maker", name := "errorToSix", desc := "(LTransitGate$Bytes;LTransitGate$Bytes;LTransitGate$Binding;LTransitGate$Site;)V" } : Jvm.MethodName) prog_5_method_4_code (5 : Nat) (Option.none : Option Jvm.ClassFile.FieldType) ∈ lw_g := tg_3 (List.mem_of_getElem? (i := 201) rfl) rfl
theorem kw3_202 : Jvm.Cond.methodLink "TransitGate$Maker" (87 : Nat) ({ cls := "java/lang/Math", name := "min", desc := "(II)I" } : Jvm.MethodName) ∈ lw_g := tg_3 (List.mem_of_getElem? (i := 202) (by decide +kernel)) rfl
theorem kw3_203 : Jvm.Cond.methodLink "TransitGate$Maker" (64 : Nat) ({ cls := "TransitGate$Maker", name := "putSixHead", desc := "(LTransitGate$Bytes;IIIII)V" } : Jvm.MethodName) ∈ lw_g := tg_3 (List.mem_of_getElem? (i := 203) (by decide +kernel)) rfl
theorem kw3_204 : Jvm.Cond.static ({ cls := "TransitGate$Maker", name := "putSixHead", desc := "(LTransitGate$Bytes;IIIII)V" } : Jvm.MethodName) ∈ lw_g := tg_3 (List.mem_of_getElem? (i := 204) (by decide +kernel)) rfl
theorem kw3_205 : Jvm.Cond.code ({ cls := "TransitGate$Maker", name := "putSixHead", desc := "(LTransitGate$Bytes;IIIII)V" } : Jvm.MethodName) prog_5_method_8_code (6 : Nat) (Option.none : Option Jvm.ClassFile.FieldType) ∈ lw_g := tg_3 (List.mem_of_getElem? (i := 205) rfl) rfl
theorem kw3_206 : Jvm.Cond.methodLink "TransitGate$Maker" (70 : Nat) ({ cls := "TransitGate$Bytes", name := "quad", desc := "(I)I" } : Jvm.MethodName) ∈ lw_g := tg_3 (List.mem_of_getElem? (i := 206) (by decide +kernel)) rfl
theorem kw3_207 : Jvm.Cond.methodLink "TransitGate$Maker" (73 : Nat) ({ cls := "TransitGate$Maker", name := "putEmbedded", desc := "(LTransitGate$Bytes;IILTransitGate$Site;)V" } : Jvm.MethodName) ∈ lw_g := tg_3 (List.mem_of_getElem? (i := 207) (by decide +kernel)) rfl
theorem kw3_208 : Jvm.Cond.static ({ cls := "TransitGate$Maker", name := "putEmbedded", desc := "(LTransitGate$Bytes;IILTransitGate$Site;)V" } : Jvm.MethodName) ∈ lw_g := tg_3 (List.mem_of_getElem? (i := 208) (by decide +kernel)) rfl
theorem kw3_209 : Jvm.Cond.code ({ cls := "TransitGate$Maker", name := "putEmbedded", desc := "(LTransitGate$Bytes;IILTransitGate$Site;)V" } : Jvm.MethodName) prog_5_method_9_code (4 : Nat) (Option.none : Option Jvm.ClassFile.FieldType) ∈ lw_g := tg_3 (List.mem_of_getElem? (i := 209) rfl) rfl
theorem kw3_210 : Jvm.Cond.methodLink "TransitGate$Maker" (103 : Nat) ({ cls := "TransitGate$Site", name := "embedHigh", desc := "(I)J" } : Jvm.MethodName) ∈ lw_g := tg_3 (List.mem_of_getElem? (i := 210) (by decide +kernel)) rfl
theorem kw3_211 : Jvm.Cond.methodLink "TransitGate$Maker" (109 : Nat) ({ cls := "TransitGate$Bytes", name := "putEight", desc := "(IJ)V" } : Jvm.MethodName) ∈ lw_g := tg_3 (List.mem_of_getElem? (i := 211) (by decide +kernel)) rfl
theorem kw3_212 : Jvm.Cond.instanceMethod ({ cls := "TransitGate$Bytes", name := "putEight", desc := "(IJ)V" } : Jvm.MethodName) ∈ lw_g := tg_3 (List.mem_of_getElem? (i := 212) (by decide +kernel)) rfl
theorem kw3_213 : Jvm.Cond.selects "TransitGate$Bytes" ({ cls := "TransitGate$Bytes", name := "putEight", desc := "(IJ)V" } : Jvm.MethodName) ({ cls := "TransitGate$Bytes", name := "putEight", desc := "(IJ)V" } : Jvm.MethodName) ∈ lw_g := tg_3 (List.mem_of_getElem? (i := 213) (by decide +kernel)) rfl
theorem kw3_214 : Jvm.Cond.code ({ cls := "TransitGate$Bytes", name := "putEight", desc := "(IJ)V" } : Jvm.MethodName) prog_3_method_11_code (4 : Nat) (Option.none : Option Jvm.ClassFile.FieldType) ∈ lw_g := tg_3 (List.mem_of_getElem? (i := 214) rfl) rfl
theorem kw3_215 : Jvm.Cond.methodLink "TransitGate$Maker" (113 : Nat) ({ cls := "TransitGate$Site", name := "embedLow", desc := "(I)J" } : Jvm.MethodName) ∈ lw_g := tg_3 (List.mem_of_getElem? (i := 215) (by decide +kernel)) rfl
theorem kw3_216 : Jvm.Cond.methodLink "TransitGate$Maker" (77 : Nat) ({ cls := "TransitGate$Maker", name := "putInner", desc := "(LTransitGate$Bytes;ILTransitGate$Binding;)V" } : Jvm.MethodName) ∈ lw_g := tg_3 (List.mem_of_getElem? (i := 216) (by decide +kernel)) rfl
theorem kw3_217 : Jvm.Cond.static ({ cls := "TransitGate$Maker", name := "putInner", desc := "(LTransitGate$Bytes;ILTransitGate$Binding;)V" } : Jvm.MethodName) ∈ lw_g := tg_3 (List.mem_of_getElem? (i := 217) (by decide +kernel)) rfl
theorem kw3_218 : Jvm.Cond.code ({ cls := "TransitGate$Maker", name := "putInner", desc := "(LTransitGate$Bytes;ILTransitGate$Binding;)V" } : Jvm.MethodName) prog_5_method_10_code (3 : Nat) (Option.none : Option Jvm.ClassFile.FieldType) ∈ lw_g := tg_3 (List.mem_of_getElem? (i := 218) rfl) rfl
theorem kw3_219 : Jvm.Cond.methodLink "TransitGate$Maker" (93 : Nat) ({ cls := "TransitGate$Maker", name := "putErrorKind", desc := "(LTransitGate$Bytes;LTransitGate$Bytes;)V" } : Jvm.MethodName) ∈ lw_g := tg_3 (List.mem_of_getElem? (i := 219) (by decide +kernel)) rfl
theorem kw3_220 : Jvm.Cond.static ({ cls := "TransitGate$Maker", name := "putErrorKind", desc := "(LTransitGate$Bytes;LTransitGate$Bytes;)V" } : Jvm.MethodName) ∈ lw_g := tg_3 (List.mem_of_getElem? (i := 220) (by decide +kernel)) rfl
theorem kw3_221 : Jvm.Cond.code ({ cls := "TransitGate$Maker", name := "putErrorKind", desc := "(LTransitGate$Bytes;LTransitGate$Bytes;)V" } : Jvm.MethodName) prog_5_method_6_code (3 : Nat) (Option.none : Option Jvm.ClassFile.FieldType) ∈ lw_g := tg_3 (List.mem_of_getElem? (i := 221) rfl) rfl
theorem kw3_222 : Jvm.Cond.methodLink "TransitGate$Maker" (97 : Nat) ({ cls := "java/lang/Math", name := "max", desc := "(II)I" } : Jvm.MethodName) ∈ lw_g := tg_3 (List.mem_of_getElem? (i := 222) (by decide +kernel)) rfl
theorem kw3_223 : Jvm.Cond.methodLink "TransitGate$Maker" (100 : Nat) ({ cls := "TransitGate$Maker", name := "unreachableCode", desc := "(I)I" } : Jvm.MethodName) ∈ lw_g := tg_3 (List.mem_of_getElem? (i := 223) (by decide +kernel)) rfl
theorem kw3_224 : Jvm.Cond.static ({ cls := "TransitGate$Maker", name := "unreachableCode", desc := "(I)I" } : Jvm.MethodName) ∈ lw_g := tg_3 (List.mem_of_getElem? (i := 224) (by decide +kernel)) rfl
theorem kw3_225 : Jvm.Cond.code ({ cls := "TransitGate$Maker", name := "unreachableCode", desc := "(I)I" } : Jvm.MethodName) prog_5_method_7_code (1 : Nat) (Option.some Jvm.ClassFile.FieldType.int) ∈ lw_g := tg_3 (List.mem_of_getElem? (i := 225) rfl) rfl
theorem kw3_226 : Jvm.Cond.methodLink "TransitGate" (273 : Nat) ({ cls := "TransitGate$Maker", name := "withinToSix", desc := "(LTransitGate$Bytes;LTransitGate$Bytes;LTransitGate$Binding;LTransitGate$Site;)V" } : Jvm.MethodName) ∈ lw_g := tg_3 (List.mem_of_getElem? (i := 226) (by decide +kernel)) rfl
theorem kw3_227 : Jvm.Cond.static ({ cls := "TransitGate$Maker", name := "withinToSix", desc := "(LTransitGate$Bytes;LTransitGate$Bytes;LTransitGate$Binding;LTransitGate$Site;)V" } : Jvm.MethodName) ∈ lw_g := tg_3 (List.mem_of_getElem? (i := 227) (by decide +kernel)) rfl
theorem kw3_228 : Jvm.Cond.code ({ cls := "TransitGate$Maker", name := "withinToSix", desc := "(LTransitGate$Bytes;LTransitGate$Bytes;LTransitGate$Binding;LTransitGate$Site;)V" } : Jvm.MethodName) prog_5_method_5_code (8 : Nat) (Option.none : Option Jvm.ClassFile.FieldType) ∈ lw_g := tg_3 (List.mem_of_getElem? (i := 228) rfl) rfl
theorem kw3_229 : Jvm.Cond.methodLink "TransitGate" (276 : Nat) ({ cls := "TransitGate$Sums", name := "putPart", desc := "(LTransitGate$Bytes;I)V" } : Jvm.MethodName) ∈ lw_g := tg_3 (List.mem_of_getElem? (i := 229) (by decide +kernel)) rfl
theorem kw3_230 : Jvm.Cond.methodLink "TransitGate" (248 : Nat) ({ cls := "TransitGate$Flow", name := "fromOutside", desc := "(LTransitGate$Bytes;)LTransitGate$Flow;" } : Jvm.MethodName) ∈ lw_g := tg_3 (List.mem_of_getElem? (i := 230) (by decide +kernel)) rfl
theorem kw3_231 : Jvm.Cond.static ({ cls := "TransitGate$Flow", name := "fromOutside", desc := "(LTransitGate$Bytes;)LTransitGate$Flow;" } : Jvm.MethodName) ∈ lw_g := tg_3 (List.mem_of_getElem? (i := 231) (by decide +kernel)) rfl
theorem kw3_232 : Jvm.Cond.code ({ cls := "TransitGate$Flow", name := "fromOutside", desc := "(LTransitGate$Bytes;)LTransitGate$Flow;" } : Jvm.MethodName) prog_4_method_3_code (5 : Nat) (Option.some (Jvm.ClassFile.FieldType.object "TransitGate$Flow")) ∈ lw_g := tg_3 (List.mem_of_getElem? (i := 232) rfl) rfl
theorem kw3_233 : Jvm.Cond.methodLink "TransitGate$Flow" (52 : Nat) ({ cls := "TransitGate$Bytes", name := "quad", desc := "(I)I" } : Jvm.MethodName) ∈ lw_g := tg_3 (List.mem_of_getElem? (i := 233) (by decide +kernel)) rfl
theorem kw3_234 : Jvm.Cond.methodLink "TransitGate" (254 : Nat) ({ cls := "TransitGate$Table", name := "admitFromOutside", desc := "(LTransitGate$Flow;I)LTransitGate$Binding;" } : Jvm.MethodName) ∈ lw_g := tg_3 (List.mem_of_getElem? (i := 234) (by decide +kernel)) rfl
theorem kw3_235 : Jvm.Cond.instanceMethod ({ cls := "TransitGate$Table", name := "admitFromOutside", desc := "(LTransitGate$Flow;I)LTransitGate$Binding;" } : Jvm.MethodName) ∈ lw_g := tg_3 (List.mem_of_getElem? (i := 235) (by decide +kernel)) rfl
theorem kw3_236 : Jvm.Cond.selects "TransitGate$Table" ({ cls := "TransitGate$Table", name := "admitFromOutside", desc := "(LTransitGate$Flow;I)LTransitGate$Binding;" } : Jvm.MethodName) ({ cls := "TransitGate$Table", name := "admitFromOutside", desc := "(LTransitGate$Flow;I)LTransitGate$Binding;" } : Jvm.MethodName) ∈ lw_g := tg_3 (List.mem_of_getElem? (i := 236) (by decide +kernel)) rfl
theorem kw3_237 : Jvm.Cond.code ({ cls := "TransitGate$Table", name := "admitFromOutside", desc := "(LTransitGate$Flow;I)LTransitGate$Binding;" } : Jvm.MethodName) prog_12_method_13_code (4 : Nat) (Option.some (Jvm.ClassFile.FieldType.object "TransitGate$Binding")) ∈ lw_g := tg_3 (List.mem_of_getElem? (i := 237) rfl) rfl
theorem kw3_238 : Jvm.Cond.methodLink "TransitGate" (258 : Nat) ({ cls := "TransitGate$Maker", name := "toSix", desc := "(LTransitGate$Bytes;LTransitGate$Bytes;LTransitGate$Binding;LTransitGate$Site;)V" } : Jvm.MethodName) ∈ lw_g := tg_3 (List.mem_of_getElem? (i := 238) (by decide +kernel)) rfl
theorem kw3_239 : Jvm.Cond.static ({ cls := "TransitGate$Maker", name := "toSix", desc := "(LTransitGate$Bytes;LTransitGate$Bytes;LTransitGate$Binding;LTransitGate$Site;)V" } : Jvm.MethodName) ∈ lw_g := tg_3 (List.mem_of_getElem? (i := 239) (by decide +kernel)) rfl
end
section
theorem kw4_0 : Jvm.Cond.code ({ cls := "TransitGate$Maker", name := "toSix", desc := "(LTransitGate$Bytes;LTransitGate$Bytes;LTransitGate$Binding;LTransitGate$Site;)V" } : Jvm.MethodName) prog_5_method_3_code (6 : Nat) (Option.none : Option Jvm.ClassFile.FieldType) ∈ lw_g := tg_4 (List.mem_of_getElem? (i := 0) rfl) rfl
theorem kw4_1 : Jvm.Cond.methodLink "TransitGate$Maker" (81 : Nat) ({ cls := "TransitGate$Part", name := "destinationPortAt", desc := "(I)I" } : Jvm.MethodName) ∈ lw_g := tg_4 (List.mem_of_getElem? (i := 1) (by decide +kernel)) rfl
theorem kw4_2 : Jvm.Cond.methodLink "TransitGateLaw" (52 : Nat) ({ cls := "TransitGate", name := "word", desc := "(I)I" } : Jvm.MethodName) ∈ lw_g := tg_4 (List.mem_of_getElem? (i := 2) (by decide +kernel)) rfl
theorem kw4_3 : Jvm.Cond.instanceMethod ({ cls := "TransitGate", name := "word", desc := "(I)I" } : Jvm.MethodName) ∈ lw_g := tg_4 (List.mem_of_getElem? (i := 3) (by decide +kernel)) rfl
theorem kw4_4 : Jvm.Cond.selects "TransitGate" ({ cls := "TransitGate", name := "word", desc := "(I)I" } : Jvm.MethodName) ({ cls := "TransitGate", name := "word", desc := "(I)I" } : Jvm.MethodName) ∈ lw_g := tg_4 (List.mem_of_getElem? (i := 4) (by decide +kernel)) rfl
theorem kw4_5 : Jvm.Cond.code ({ cls := "TransitGate", name := "word", desc := "(I)I" } : Jvm.MethodName) prog_1_method_10_code (2 : Nat) (Option.some Jvm.ClassFile.FieldType.int) ∈ lw_g := tg_4 (List.mem_of_getElem? (i := 5) rfl) rfl
theorem kw4_6 : Jvm.Cond.methodLink "TransitGateLaw" (56 : Nat) ({ cls := "TransitGate", name := "take", desc := "()I" } : Jvm.MethodName) ∈ lw_g := tg_4 (List.mem_of_getElem? (i := 6) (by decide +kernel)) rfl
theorem kw4_7 : Jvm.Cond.instanceMethod ({ cls := "TransitGate", name := "take", desc := "()I" } : Jvm.MethodName) ∈ lw_g := tg_4 (List.mem_of_getElem? (i := 7) (by decide +kernel)) rfl
theorem kw4_8 : Jvm.Cond.selects "TransitGate" ({ cls := "TransitGate", name := "take", desc := "()I" } : Jvm.MethodName) ({ cls := "TransitGate", name := "take", desc := "()I" } : Jvm.MethodName) ∈ lw_g := tg_4 (List.mem_of_getElem? (i := 8) (by decide +kernel)) rfl
theorem kw4_9 : Jvm.Cond.code ({ cls := "TransitGate", name := "take", desc := "()I" } : Jvm.MethodName) prog_1_method_11_code (2 : Nat) (Option.some Jvm.ClassFile.FieldType.int) ∈ lw_g := tg_4 (List.mem_of_getElem? (i := 9) rfl) rfl
theorem kw4_10 : Jvm.Cond.methodLink "TransitGate" (98 : Nat) ({ cls := "TransitGate$Bytes", name := "copy", desc := "(LTransitGate$Bytes;III)V" } : Jvm.MethodName) ∈ lw_g := tg_4 (List.mem_of_getElem? (i := 10) (by decide +kernel)) rfl
theorem kw4_11 : Jvm.Cond.methodLink "TransitGateLaw" (61 : Nat) ({ cls := "TransitGate", name := "bend", desc := "(II)I" } : Jvm.MethodName) ∈ lw_g := tg_4 (List.mem_of_getElem? (i := 11) (by decide +kernel)) rfl
theorem kw4_12 : Jvm.Cond.instanceMethod ({ cls := "TransitGate", name := "bend", desc := "(II)I" } : Jvm.MethodName) ∈ lw_g := tg_4 (List.mem_of_getElem? (i := 12) (by decide +kernel)) rfl
theorem kw4_13 : Jvm.Cond.selects "TransitGate" ({ cls := "TransitGate", name := "bend", desc := "(II)I" } : Jvm.MethodName) ({ cls := "TransitGate", name := "bend", desc := "(II)I" } : Jvm.MethodName) ∈ lw_g := tg_4 (List.mem_of_getElem? (i := 13) (by decide +kernel)) rfl
theorem kw4_14 : Jvm.Cond.code ({ cls := "TransitGate", name := "bend", desc := "(II)I" } : Jvm.MethodName) prog_1_method_12_code (4 : Nat) (Option.some Jvm.ClassFile.FieldType.int) ∈ lw_g := tg_4 (List.mem_of_getElem? (i := 14) rfl) rfl
theorem kw4_15 : Jvm.Cond.methodLink "TransitGate" (105 : Nat) ({ cls := "TransitGate$Bytes", name := "put", desc := "(II)V" } : Jvm.MethodName) ∈ lw_g := tg_4 (List.mem_of_getElem? (i := 15) (by decide +kernel)) rfl
theorem kw4_16 : Jvm.Cond.methodLink "TransitGateLaw" (66 : Nat) ({ cls := "TransitGate", name := "sign", desc := "(II)I" } : Jvm.MethodName) ∈ lw_g := tg_4 (List.mem_of_getElem? (i := 16) (by decide +kernel)) rfl
theorem kw4_17 : Jvm.Cond.instanceMethod ({ cls := "TransitGate", name := "sign", desc := "(II)I" } : Jvm.MethodName) ∈ lw_g := tg_4 (List.mem_of_getElem? (i := 17) (by decide +kernel)) rfl
theorem kw4_18 : Jvm.Cond.selects "TransitGate" ({ cls := "TransitGate", name := "sign", desc := "(II)I" } : Jvm.MethodName) ({ cls := "TransitGate", name := "sign", desc := "(II)I" } : Jvm.MethodName) ∈ lw_g := tg_4 (List.mem_of_getElem? (i := 18) (by decide +kernel)) rfl
theorem kw4_19 : Jvm.Cond.code ({ cls := "TransitGate", name := "sign", desc := "(II)I" } : Jvm.MethodName) prog_1_method_13_code (5 : Nat) (Option.some Jvm.ClassFile.FieldType.int) ∈ lw_g := tg_4 (List.mem_of_getElem? (i := 19) rfl) rfl
theorem kw4_20 : Jvm.Cond.methodLink "TransitGate" (108 : Nat) ({ cls := "TransitGate$Part", name := "headOf", desc := "(LTransitGate$Bytes;)I" } : Jvm.MethodName) ∈ lw_g := tg_4 (List.mem_of_getElem? (i := 20) (by decide +kernel)) rfl
theorem kw4_21 : Jvm.Cond.static ({ cls := "TransitGate$Part", name := "headOf", desc := "(LTransitGate$Bytes;)I" } : Jvm.MethodName) ∈ lw_g := tg_4 (List.mem_of_getElem? (i := 21) (by decide +kernel)) rfl
theorem kw4_22 : Jvm.Cond.code ({ cls := "TransitGate$Part", name := "headOf", desc := "(LTransitGate$Bytes;)I" } : Jvm.MethodName) prog_6_method_2_code (2 : Nat) (Option.some Jvm.ClassFile.FieldType.int) ∈ lw_g := tg_4 (List.mem_of_getElem? (i := 22) rfl) rfl
theorem kw4_23 : Jvm.Cond.methodLink "TransitGate" (114 : Nat) ({ cls := "TransitGate$Sums", name := "ofPart", desc := "(LTransitGate$Bytes;III)I" } : Jvm.MethodName) ∈ lw_g := tg_4 (List.mem_of_getElem? (i := 23) (by decide +kernel)) rfl
theorem kw4_24 : Jvm.Cond.methodLink "TransitGate" (120 : Nat) ({ cls := "TransitGate$Bytes", name := "putPair", desc := "(II)V" } : Jvm.MethodName) ∈ lw_g := tg_4 (List.mem_of_getElem? (i := 24) (by decide +kernel)) rfl
theorem kw4_25 : Jvm.Cond.methodLink "TransitGateLaw" (70 : Nat) ({ cls := "TransitGate", name := "signHead", desc := "()I" } : Jvm.MethodName) ∈ lw_g := tg_4 (List.mem_of_getElem? (i := 25) (by decide +kernel)) rfl
theorem kw4_26 : Jvm.Cond.instanceMethod ({ cls := "TransitGate", name := "signHead", desc := "()I" } : Jvm.MethodName) ∈ lw_g := tg_4 (List.mem_of_getElem? (i := 26) (by decide +kernel)) rfl
theorem kw4_27 : Jvm.Cond.selects "TransitGate" ({ cls := "TransitGate", name := "signHead", desc := "()I" } : Jvm.MethodName) ({ cls := "TransitGate", name := "signHead", desc := "()I" } : Jvm.MethodName) ∈ lw_g := tg_4 (List.mem_of_getElem? (i := 27) (by decide +kernel)) rfl
theorem kw4_28 : Jvm.Cond.code ({ cls := "TransitGate", name := "signHead", desc := "()I" } : Jvm.MethodName) prog_1_method_14_code (2 : Nat) (Option.some Jvm.ClassFile.FieldType.int) ∈ lw_g := tg_4 (List.mem_of_getElem? (i := 28) rfl) rfl
theorem kw4_29 : Jvm.Cond.methodLink "TransitGate" (123 : Nat) ({ cls := "TransitGate$Sums", name := "ofHead", desc := "(LTransitGate$Bytes;)I" } : Jvm.MethodName) ∈ lw_g := tg_4 (List.mem_of_getElem? (i := 29) (by decide +kernel)) rfl
theorem kw4_30 : Jvm.Cond.methodLink "TransitGateLaw" (74 : Nat) ({ cls := "TransitGate", name := "tick", desc := "(I)I" } : Jvm.MethodName) ∈ lw_g := tg_4 (List.mem_of_getElem? (i := 30) (by decide +kernel)) rfl
theorem kw4_31 : Jvm.Cond.instanceMethod ({ cls := "TransitGate", name := "tick", desc := "(I)I" } : Jvm.MethodName) ∈ lw_g := tg_4 (List.mem_of_getElem? (i := 31) (by decide +kernel)) rfl
theorem kw4_32 : Jvm.Cond.selects "TransitGate" ({ cls := "TransitGate", name := "tick", desc := "(I)I" } : Jvm.MethodName) ({ cls := "TransitGate", name := "tick", desc := "(I)I" } : Jvm.MethodName) ∈ lw_g := tg_4 (List.mem_of_getElem? (i := 32) (by decide +kernel)) rfl
theorem kw4_33 : Jvm.Cond.code ({ cls := "TransitGate", name := "tick", desc := "(I)I" } : Jvm.MethodName) prog_1_method_15_code (2 : Nat) (Option.some Jvm.ClassFile.FieldType.int) ∈ lw_g := tg_4 (List.mem_of_getElem? (i := 33) rfl) rfl
theorem kw4_34 : Jvm.Cond.methodLink "TransitGate" (126 : Nat) ({ cls := "TransitGate$Table", name := "pass", desc := "(I)I" } : Jvm.MethodName) ∈ lw_g := tg_4 (List.mem_of_getElem? (i := 34) (by decide +kernel)) rfl
theorem kw4_35 : Jvm.Cond.instanceMethod ({ cls := "TransitGate$Table", name := "pass", desc := "(I)I" } : Jvm.MethodName) ∈ lw_g := tg_4 (List.mem_of_getElem? (i := 35) (by decide +kernel)) rfl
theorem kw4_36 : Jvm.Cond.selects "TransitGate$Table" ({ cls := "TransitGate$Table", name := "pass", desc := "(I)I" } : Jvm.MethodName) ({ cls := "TransitGate$Table", name := "pass", desc := "(I)I" } : Jvm.MethodName) ∈ lw_g := tg_4 (List.mem_of_getElem? (i := 36) (by decide +kernel)) rfl
theorem kw4_37 : Jvm.Cond.code ({ cls := "TransitGate$Table", name := "pass", desc := "(I)I" } : Jvm.MethodName) prog_12_method_10_code (4 : Nat) (Option.some Jvm.ClassFile.FieldType.int) ∈ lw_g := tg_4 (List.mem_of_getElem? (i := 37) rfl) rfl
theorem kw4_38 : Jvm.Cond.methodLink "TransitGate$Table" (47 : Nat) ({ cls := "java/util/ArrayList", name := "remove", desc := "(I)Ljava/lang/Object;" } : Jvm.MethodName) ∈ lw_g := tg_4 (List.mem_of_getElem? (i := 38) (by decide +kernel)) rfl
theorem kw4_39 : Jvm.Cond.instanceMethod ({ cls := "java/util/ArrayList", name := "remove", desc := "(I)Ljava/lang/Object;" } : Jvm.MethodName) ∈ lw_g := tg_4 (List.mem_of_getElem? (i := 39) (by decide +kernel)) rfl
theorem kw4_40 : Jvm.Cond.selects "java/util/ArrayList" ({ cls := "java/util/ArrayList", name := "remove", desc := "(I)Ljava/lang/Object;" } : Jvm.MethodName) ({ cls := "java/util/ArrayList", name := "remove", desc := "(I)Ljava/lang/Object;" } : Jvm.MethodName) ∈ lw_g := tg_4 (List.mem_of_getElem? (i := 40) (by decide +kernel)) rfl
theorem kw4_41 : Jvm.Cond.code ({ cls := "java/util/ArrayList", name := "remove", desc := "(I)Ljava/lang/Object;" } : Jvm.MethodName) prog_22_method_29_code (4 : Nat) (Option.some (Jvm.ClassFile.FieldType.object "java/lang/Object")) ∈ lw_g := tg_4 (List.mem_of_getElem? (i := 41) rfl) rfl
theorem kw4_42 : Jvm.Cond.methodLink "java/util/ArrayList" (144 : Nat) ({ cls := "java/util/ArrayList", name := "fastRemove", desc := "([Ljava/lang/Object;I)V" } : Jvm.MethodName) ∈ lw_g := tg_4 (List.mem_of_getElem? (i := 42) (by decide +kernel)) rfl
theorem kw4_44 : Jvm.Cond.instanceMethod ({ cls := "java/util/ArrayList", name := "fastRemove", desc := "([Ljava/lang/Object;I)V" } : Jvm.MethodName) ∈ lw_g := tg_4 (List.mem_of_getElem? (i := 44) (by decide +kernel)) rfl
theorem kw4_45 : Jvm.Cond.code ({ cls := "java/util/ArrayList", name := "fastRemove", desc := "([Ljava/lang/Object;I)V" } : Jvm.MethodName) prog_22_method_39_code (4 : Nat) (Option.none : Option Jvm.ClassFile.FieldType) ∈ lw_g := tg_4 (List.mem_of_getElem? (i := 45) rfl) rfl
theorem kw4_46 : Jvm.Cond.methodLink "java/util/ArrayList" (112 : Nat) ({ cls := "java/lang/System", name := "arraycopy", desc := "(Ljava/lang/Object;ILjava/lang/Object;II)V" } : Jvm.MethodName) ∈ lw_g := tg_4 (List.mem_of_getElem? (i := 46) (by decide +kernel)) rfl
theorem kw4_47 : Jvm.Cond.methodLink "TransitGate$Table" (50 : Nat) ({ cls := "TransitGate$Table", name := "letIdleBindingsGo", desc := "()V" } : Jvm.MethodName) ∈ lw_g := tg_4 (List.mem_of_getElem? (i := 47) (by decide +kernel)) rfl
theorem kw4_49 : Jvm.Cond.instanceMethod ({ cls := "TransitGate$Table", name := "letIdleBindingsGo", desc := "()V" } : Jvm.MethodName) ∈ lw_g := tg_4 (List.mem_of_getElem? (i := 49) (by decide +kernel)) rfl
theorem kw4_50 : Jvm.Cond.code ({ cls := "TransitGate$Table", name := "letIdleBindingsGo", desc := "()V" } : Jvm.MethodName) prog_12_method_11_code (2 : Nat) (Option.none : Option Jvm.ClassFile.FieldType) ∈ lw_g := tg_4 (List.mem_of_getElem? (i := 50) rfl) rfl
theorem kw4_51 : Jvm.Cond.methodLink "TransitGate$Table" (53 : Nat) ({ cls := "TransitGate$Table", name := "sessionsOf", desc := "(LTransitGate$Binding;)I" } : Jvm.MethodName) ∈ lw_g := tg_4 (List.mem_of_getElem? (i := 51) (by decide +kernel)) rfl
theorem kw4_52 : Jvm.Cond.instanceMethod ({ cls := "TransitGate$Table", name := "sessionsOf", desc := "(LTransitGate$Binding;)I" } : Jvm.MethodName) ∈ lw_g := tg_4 (List.mem_of_getElem? (i := 52) (by decide +kernel)) rfl
theorem kw4_53 : Jvm.Cond.selects "TransitGate$Table" ({ cls := "TransitGate$Table", name := "sessionsOf", desc := "(LTransitGate$Binding;)I" } : Jvm.MethodName) ({ cls := "TransitGate$Table", name := "sessionsOf", desc := "(LTransitGate$Binding;)I" } : Jvm.MethodName) ∈ lw_g := tg_4 (List.mem_of_getElem? (i := 53) (by decide +kernel)) rfl
theorem kw4_54 : Jvm.Cond.code ({ cls := "TransitGate$Table", name := "sessionsOf", desc := "(LTransitGate$Binding;)I" } : Jvm.MethodName) prog_12_method_9_code (4 : Nat) (Option.some Jvm.ClassFile.FieldType.int) ∈ lw_g := tg_4 (List.mem_of_getElem? (i := 54) rfl) rfl
theorem kw4_55 : Jvm.Cond.methodLink "TransitGateLaw" (78 : Nat) ({ cls := "TransitGate", name := "binding", desc := "(II)I" } : Jvm.MethodName) ∈ lw_g := tg_4 (List.mem_of_getElem? (i := 55) (by decide +kernel)) rfl
theorem kw4_56 : Jvm.Cond.instanceMethod ({ cls := "TransitGate", name := "binding", desc := "(II)I" } : Jvm.MethodName) ∈ lw_g := tg_4 (List.mem_of_getElem? (i := 56) (by decide +kernel)) rfl
theorem kw4_57 : Jvm.Cond.selects "TransitGate" ({ cls := "TransitGate", name := "binding", desc := "(II)I" } : Jvm.MethodName) ({ cls := "TransitGate", name := "binding", desc := "(II)I" } : Jvm.MethodName) ∈ lw_g := tg_4 (List.mem_of_getElem? (i := 57) (by decide +kernel)) rfl
theorem kw4_58 : Jvm.Cond.code ({ cls := "TransitGate", name := "binding", desc := "(II)I" } : Jvm.MethodName) prog_1_method_16_code (4 : Nat) (Option.some Jvm.ClassFile.FieldType.int) ∈ lw_g := tg_4 (List.mem_of_getElem? (i := 58) rfl) rfl
theorem kw4_59 : Jvm.Cond.methodLink "TransitGate" (129 : Nat) ({ cls := "TransitGate$Table", name := "bindingAt", desc := "(I)LTransitGate$Binding;" } : Jvm.MethodName) ∈ lw_g := tg_4 (List.mem_of_getElem? (i := 59) (by decide +kernel)) rfl
theorem kw4_60 : Jvm.Cond.instanceMethod ({ cls := "TransitGate$Table", name := "bindingAt", desc := "(I)LTransitGate$Binding;" } : Jvm.MethodName) ∈ lw_g := tg_4 (List.mem_of_getElem? (i := 60) (by decide +kernel)) rfl
theorem kw4_61 : Jvm.Cond.selects "TransitGate$Table" ({ cls := "TransitGate$Table", name := "bindingAt", desc := "(I)LTransitGate$Binding;" } : Jvm.MethodName) ({ cls := "TransitGate$Table", name := "bindingAt", desc := "(I)LTransitGate$Binding;" } : Jvm.MethodName) ∈ lw_g := tg_4 (List.mem_of_getElem? (i := 61) (by decide +kernel)) rfl
theorem kw4_62 : Jvm.Cond.code ({ cls := "TransitGate$Table", name := "bindingAt", desc := "(I)LTransitGate$Binding;" } : Jvm.MethodName) prog_12_method_5_code (2 : Nat) (Option.some (Jvm.ClassFile.FieldType.object "TransitGate$Binding")) ∈ lw_g := tg_4 (List.mem_of_getElem? (i := 62) rfl) rfl
theorem kw4_63 : Jvm.Cond.methodLink "TransitGate" (147 : Nat) ({ cls := "TransitGate$Table", name := "sessionsOf", desc := "(LTransitGate$Binding;)I" } : Jvm.MethodName) ∈ lw_g := tg_4 (List.mem_of_getElem? (i := 63) (by decide +kernel)) rfl
theorem kw4_64 : Jvm.Cond.methodLink "TransitGateLaw" (82 : Nat) ({ cls := "TransitGate", name := "inner", desc := "(IZ)J" } : Jvm.MethodName) ∈ lw_g := tg_4 (List.mem_of_getElem? (i := 64) (by decide +kernel)) rfl
theorem kw4_65 : Jvm.Cond.instanceMethod ({ cls := "TransitGate", name := "inner", desc := "(IZ)J" } : Jvm.MethodName) ∈ lw_g := tg_4 (List.mem_of_getElem? (i := 65) (by decide +kernel)) rfl
theorem kw4_66 : Jvm.Cond.selects "TransitGate" ({ cls := "TransitGate", name := "inner", desc := "(IZ)J" } : Jvm.MethodName) ({ cls := "TransitGate", name := "inner", desc := "(IZ)J" } : Jvm.MethodName) ∈ lw_g := tg_4 (List.mem_of_getElem? (i := 66) (by decide +kernel)) rfl
theorem kw4_67 : Jvm.Cond.code ({ cls := "TransitGate", name := "inner", desc := "(IZ)J" } : Jvm.MethodName) prog_1_method_17_code (4 : Nat) (Option.some Jvm.ClassFile.FieldType.long) ∈ lw_g := tg_4 (List.mem_of_getElem? (i := 67) rfl) rfl
theorem kw4_68 : Jvm.Cond.methodLink "TransitGateLaw" (87 : Nat) ({ cls := "TransitGate", name := "session", desc := "(II)I" } : Jvm.MethodName) ∈ lw_g := tg_4 (List.mem_of_getElem? (i := 68) (by decide +kernel)) rfl
theorem kw4_69 : Jvm.Cond.instanceMethod ({ cls := "TransitGate", name := "session", desc := "(II)I" } : Jvm.MethodName) ∈ lw_g := tg_4 (List.mem_of_getElem? (i := 69) (by decide +kernel)) rfl
theorem kw4_70 : Jvm.Cond.selects "TransitGate" ({ cls := "TransitGate", name := "session", desc := "(II)I" } : Jvm.MethodName) ({ cls := "TransitGate", name := "session", desc := "(II)I" } : Jvm.MethodName) ∈ lw_g := tg_4 (List.mem_of_getElem? (i := 70) (by decide +kernel)) rfl
theorem kw4_71 : Jvm.Cond.code ({ cls := "TransitGate", name := "session", desc := "(II)I" } : Jvm.MethodName) prog_1_method_18_code (4 : Nat) (Option.some Jvm.ClassFile.FieldType.int) ∈ lw_g := tg_4 (List.mem_of_getElem? (i := 71) rfl) rfl
theorem kw4_72 : Jvm.Cond.methodLink "TransitGate" (158 : Nat) ({ cls := "TransitGate$Table", name := "sessionAt", desc := "(I)LTransitGate$Session;" } : Jvm.MethodName) ∈ lw_g := tg_4 (List.mem_of_getElem? (i := 72) (by decide +kernel)) rfl
theorem kw4_73 : Jvm.Cond.instanceMethod ({ cls := "TransitGate$Table", name := "sessionAt", desc := "(I)LTransitGate$Session;" } : Jvm.MethodName) ∈ lw_g := tg_4 (List.mem_of_getElem? (i := 73) (by decide +kernel)) rfl
theorem kw4_74 : Jvm.Cond.selects "TransitGate$Table" ({ cls := "TransitGate$Table", name := "sessionAt", desc := "(I)LTransitGate$Session;" } : Jvm.MethodName) ({ cls := "TransitGate$Table", name := "sessionAt", desc := "(I)LTransitGate$Session;" } : Jvm.MethodName) ∈ lw_g := tg_4 (List.mem_of_getElem? (i := 74) (by decide +kernel)) rfl
theorem kw4_75 : Jvm.Cond.code ({ cls := "TransitGate$Table", name := "sessionAt", desc := "(I)LTransitGate$Session;" } : Jvm.MethodName) prog_12_method_6_code (2 : Nat) (Option.some (Jvm.ClassFile.FieldType.object "TransitGate$Session")) ∈ lw_g := tg_4 (List.mem_of_getElem? (i := 75) rfl) rfl
theorem kw4_76 : Jvm.Cond.methodLink "TransitGate" (168 : Nat) ({ cls := "TransitGate$Table", name := "numberOf", desc := "(LTransitGate$Binding;)I" } : Jvm.MethodName) ∈ lw_g := tg_4 (List.mem_of_getElem? (i := 76) (by decide +kernel)) rfl
theorem kw4_77 : Jvm.Cond.instanceMethod ({ cls := "TransitGate$Table", name := "numberOf", desc := "(LTransitGate$Binding;)I" } : Jvm.MethodName) ∈ lw_g := tg_4 (List.mem_of_getElem? (i := 77) (by decide +kernel)) rfl
theorem kw4_78 : Jvm.Cond.selects "TransitGate$Table" ({ cls := "TransitGate$Table", name := "numberOf", desc := "(LTransitGate$Binding;)I" } : Jvm.MethodName) ({ cls := "TransitGate$Table", name := "numberOf", desc := "(LTransitGate$Binding;)I" } : Jvm.MethodName) ∈ lw_g := tg_4 (List.mem_of_getElem? (i := 78) (by decide +kernel)) rfl
theorem kw4_79 : Jvm.Cond.code ({ cls := "TransitGate$Table", name := "numberOf", desc := "(LTransitGate$Binding;)I" } : Jvm.MethodName) prog_12_method_8_code (3 : Nat) (Option.some Jvm.ClassFile.FieldType.int) ∈ lw_g := tg_4 (List.mem_of_getElem? (i := 79) rfl) rfl
theorem kw4_80 : Jvm.Cond.methodLink "TransitGate" (183 : Nat) ({ cls := "TransitGate$Table", name := "time", desc := "()J" } : Jvm.MethodName) ∈ lw_g := tg_4 (List.mem_of_getElem? (i := 80) (by decide +kernel)) rfl
theorem kw4_81 : Jvm.Cond.instanceMethod ({ cls := "TransitGate$Table", name := "time", desc := "()J" } : Jvm.MethodName) ∈ lw_g := tg_4 (List.mem_of_getElem? (i := 81) (by decide +kernel)) rfl
theorem kw4_82 : Jvm.Cond.selects "TransitGate$Table" ({ cls := "TransitGate$Table", name := "time", desc := "()J" } : Jvm.MethodName) ({ cls := "TransitGate$Table", name := "time", desc := "()J" } : Jvm.MethodName) ∈ lw_g := tg_4 (List.mem_of_getElem? (i := 82) (by decide +kernel)) rfl
theorem kw4_83 : Jvm.Cond.code ({ cls := "TransitGate$Table", name := "time", desc := "()J" } : Jvm.MethodName) prog_12_method_2_code (1 : Nat) (Option.some Jvm.ClassFile.FieldType.long) ∈ lw_g := tg_4 (List.mem_of_getElem? (i := 83) rfl) rfl
theorem kw4_84 : Jvm.Cond.methodLink "TransitGateLaw" (91 : Nat) ({ cls := "TransitGate", name := "count", desc := "(I)I" } : Jvm.MethodName) ∈ lw_g := tg_4 (List.mem_of_getElem? (i := 84) (by decide +kernel)) rfl
theorem kw4_85 : Jvm.Cond.instanceMethod ({ cls := "TransitGate", name := "count", desc := "(I)I" } : Jvm.MethodName) ∈ lw_g := tg_4 (List.mem_of_getElem? (i := 85) (by decide +kernel)) rfl
theorem kw4_86 : Jvm.Cond.selects "TransitGate" ({ cls := "TransitGate", name := "count", desc := "(I)I" } : Jvm.MethodName) ({ cls := "TransitGate", name := "count", desc := "(I)I" } : Jvm.MethodName) ∈ lw_g := tg_4 (List.mem_of_getElem? (i := 86) (by decide +kernel)) rfl
theorem kw4_87 : Jvm.Cond.code ({ cls := "TransitGate", name := "count", desc := "(I)I" } : Jvm.MethodName) prog_1_method_19_code (2 : Nat) (Option.some Jvm.ClassFile.FieldType.int) ∈ lw_g := tg_4 (List.mem_of_getElem? (i := 87) rfl) rfl
theorem kw4_88 : Jvm.Cond.methodLink "TransitGate" (187 : Nat) ({ cls := "TransitGate$Table", name := "bindingCount", desc := "()I" } : Jvm.MethodName) ∈ lw_g := tg_4 (List.mem_of_getElem? (i := 88) (by decide +kernel)) rfl
theorem kw4_89 : Jvm.Cond.instanceMethod ({ cls := "TransitGate$Table", name := "bindingCount", desc := "()I" } : Jvm.MethodName) ∈ lw_g := tg_4 (List.mem_of_getElem? (i := 89) (by decide +kernel)) rfl
theorem kw4_90 : Jvm.Cond.selects "TransitGate$Table" ({ cls := "TransitGate$Table", name := "bindingCount", desc := "()I" } : Jvm.MethodName) ({ cls := "TransitGate$Table", name := "bindingCount", desc := "()I" } : Jvm.MethodName) ∈ lw_g := tg_4 (List.mem_of_getElem? (i := 90) (by decide +kernel)) rfl
theorem kw4_91 : Jvm.Cond.code ({ cls := "TransitGate$Table", name := "bindingCount", desc := "()I" } : Jvm.MethodName) prog_12_method_3_code (1 : Nat) (Option.some Jvm.ClassFile.FieldType.int) ∈ lw_g := tg_4 (List.mem_of_getElem? (i := 91) rfl) rfl
theorem kw4_92 : Jvm.Cond.methodLink "TransitGate" (190 : Nat) ({ cls := "TransitGate$Table", name := "sessionCount", desc := "()I" } : Jvm.MethodName) ∈ lw_g := tg_4 (List.mem_of_getElem? (i := 92) (by decide +kernel)) rfl
theorem kw4_93 : Jvm.Cond.instanceMethod ({ cls := "TransitGate$Table", name := "sessionCount", desc := "()I" } : Jvm.MethodName) ∈ lw_g := tg_4 (List.mem_of_getElem? (i := 93) (by decide +kernel)) rfl
theorem kw4_94 : Jvm.Cond.selects "TransitGate$Table" ({ cls := "TransitGate$Table", name := "sessionCount", desc := "()I" } : Jvm.MethodName) ({ cls := "TransitGate$Table", name := "sessionCount", desc := "()I" } : Jvm.MethodName) ∈ lw_g := tg_4 (List.mem_of_getElem? (i := 94) (by decide +kernel)) rfl
theorem kw4_95 : Jvm.Cond.code ({ cls := "TransitGate$Table", name := "sessionCount", desc := "()I" } : Jvm.MethodName) prog_12_method_4_code (1 : Nat) (Option.some Jvm.ClassFile.FieldType.int) ∈ lw_g := tg_4 (List.mem_of_getElem? (i := 95) rfl) rfl
theorem kw4_96 : Jvm.Cond.methodLink "TransitGate" (196 : Nat) ({ cls := "TransitGate$Site", name := "bits", desc := "()I" } : Jvm.MethodName) ∈ lw_g := tg_4 (List.mem_of_getElem? (i := 96) (by decide +kernel)) rfl
theorem kw4_97 : Jvm.Cond.instanceMethod ({ cls := "TransitGate$Site", name := "bits", desc := "()I" } : Jvm.MethodName) ∈ lw_g := tg_4 (List.mem_of_getElem? (i := 97) (by decide +kernel)) rfl
theorem kw4_98 : Jvm.Cond.selects "TransitGate$Site" ({ cls := "TransitGate$Site", name := "bits", desc := "()I" } : Jvm.MethodName) ({ cls := "TransitGate$Site", name := "bits", desc := "()I" } : Jvm.MethodName) ∈ lw_g := tg_4 (List.mem_of_getElem? (i := 98) (by decide +kernel)) rfl
theorem kw4_99 : Jvm.Cond.code ({ cls := "TransitGate$Site", name := "bits", desc := "()I" } : Jvm.MethodName) prog_10_method_2_code (1 : Nat) (Option.some Jvm.ClassFile.FieldType.int) ∈ lw_g := tg_4 (List.mem_of_getElem? (i := 99) rfl) rfl
theorem kw4_100 : Jvm.Cond.constantLong "TransitGate" (201 : Nat) (2147483647 : Int64) ∈ lw_g := tg_4 (List.mem_of_getElem? (i := 100) (by decide +kernel)) rfl
theorem kw4_101 : Jvm.Cond.methodLink "TransitGate" (203 : Nat) ({ cls := "java/lang/Math", name := "min", desc := "(JJ)J" } : Jvm.MethodName) ∈ lw_g := tg_4 (List.mem_of_getElem? (i := 101) (by decide +kernel)) rfl
theorem kw4_102 : Jvm.Cond.static ({ cls := "java/lang/Math", name := "min", desc := "(JJ)J" } : Jvm.MethodName) ∈ lw_g := tg_4 (List.mem_of_getElem? (i := 102) (by decide +kernel)) rfl
theorem kw4_103 : Jvm.Cond.code ({ cls := "java/lang/Math", name := "min", desc := "(JJ)J" } : Jvm.MethodName) prog_18_method_70_code (4 : Nat) (Option.some Jvm.ClassFile.FieldType.long) ∈ lw_g := tg_4 (List.mem_of_getElem? (i := 103) rfl) rfl
theorem kw4_104 : Jvm.Cond.classLink "TransitGateLaw" (10 : Nat) "TransitGateModel" ∈ lw_g := tg_4 (List.mem_of_getElem? (i := 104) (by decide +kernel)) rfl
theorem kw4_105 : Jvm.Cond.instantiable "TransitGateModel" (28 : Nat) ∈ lw_g := tg_4 (List.mem_of_getElem? (i := 105) (by decide +kernel)) rfl
theorem kw4_106 : Jvm.Cond.methodLink "TransitGateLaw" (12 : Nat) ({ cls := "TransitGateModel", name := "<init>", desc := "()V" } : Jvm.MethodName) ∈ lw_g := tg_4 (List.mem_of_getElem? (i := 106) (by decide +kernel)) rfl
theorem kw4_107 : Jvm.Cond.instanceMethod ({ cls := "TransitGateModel", name := "<init>", desc := "()V" } : Jvm.MethodName) ∈ lw_g := tg_4 (List.mem_of_getElem? (i := 107) (by decide +kernel)) rfl
theorem kw4_108 : Jvm.Cond.code ({ cls := "TransitGateModel", name := "<init>", desc := "()V" } : Jvm.MethodName) prog_14_method_1_code (1 : Nat) (Option.none : Option Jvm.ClassFile.FieldType) ∈ lw_g := tg_4 (List.mem_of_getElem? (i := 108) rfl) rfl
theorem kw4_109 : Jvm.Cond.methodLink "TransitGateModel" (1 : Nat) ({ cls := "java/lang/Object", name := "<init>", desc := "()V" } : Jvm.MethodName) ∈ lw_g := tg_4 (List.mem_of_getElem? (i := 109) (by decide +kernel)) rfl
theorem kw4_110 : Jvm.Cond.fieldLink "TransitGateModel" (7 : Nat) "TransitGateModel" "tape" "[B" ∈ lw_g := tg_4 (List.mem_of_getElem? (i := 110) (by decide +kernel)) rfl
theorem kw4_111 : Jvm.Cond.fieldLink "TransitGateModel" (118 : Nat) "TransitGateModel" "taped" "I" ∈ lw_g := tg_4 (List.mem_of_getElem? (i := 111) (by decide +kernel)) rfl
theorem kw4_112 : Jvm.Cond.fieldLink "TransitGateModel" (13 : Nat) "TransitGateModel" "out" "[B" ∈ lw_g := tg_4 (List.mem_of_getElem? (i := 112) (by decide +kernel)) rfl
theorem kw4_113 : Jvm.Cond.fieldLink "TransitGateModel" (234 : Nat) "TransitGateModel" "outSize" "I" ∈ lw_g := tg_4 (List.mem_of_getElem? (i := 113) (by decide +kernel)) rfl
theorem kw4_114 : Jvm.Cond.fieldLink "TransitGateModel" (16 : Nat) "TransitGateModel" "in" "[B" ∈ lw_g := tg_4 (List.mem_of_getElem? (i := 114) (by decide +kernel)) rfl
theorem kw4_115 : Jvm.Cond.fieldLink "TransitGateModel" (121 : Nat) "TransitGateModel" "size" "I" ∈ lw_g := tg_4 (List.mem_of_getElem? (i := 115) (by decide +kernel)) rfl
theorem kw4_116 : Jvm.Cond.fieldLink "TransitGateModel" (64 : Nat) "TransitGateModel" "bits" "I" ∈ lw_g := tg_4 (List.mem_of_getElem? (i := 116) (by decide +kernel)) rfl
theorem kw4_117 : Jvm.Cond.fieldLink "TransitGateModel" (71 : Nat) "TransitGateModel" "prefixHigh" "J" ∈ lw_g := tg_4 (List.mem_of_getElem? (i := 117) (by decide +kernel)) rfl
theorem kw4_118 : Jvm.Cond.fieldLink "TransitGateModel" (77 : Nat) "TransitGateModel" "prefixLow" "J" ∈ lw_g := tg_4 (List.mem_of_getElem? (i := 118) (by decide +kernel)) rfl
theorem kw4_119 : Jvm.Cond.fieldLink "TransitGateModel" (86 : Nat) "TransitGateModel" "pools" "I" ∈ lw_g := tg_4 (List.mem_of_getElem? (i := 119) (by decide +kernel)) rfl
theorem kw4_120 : Jvm.Cond.fieldLink "TransitGateModel" (19 : Nat) "TransitGateModel" "pool" "[I" ∈ lw_g := tg_4 (List.mem_of_getElem? (i := 120) (by decide +kernel)) rfl
theorem kw4_121 : Jvm.Cond.fieldLink "TransitGateModel" (80 : Nat) "TransitGateModel" "bindings" "I" ∈ lw_g := tg_4 (List.mem_of_getElem? (i := 121) (by decide +kernel)) rfl
theorem kw4_122 : Jvm.Cond.fieldLink "TransitGateModel" (23 : Nat) "TransitGateModel" "protocol" "[I" ∈ lw_g := tg_4 (List.mem_of_getElem? (i := 122) (by decide +kernel)) rfl
theorem kw4_123 : Jvm.Cond.fieldLink "TransitGateModel" (26 : Nat) "TransitGateModel" "innerHigh" "[J" ∈ lw_g := tg_4 (List.mem_of_getElem? (i := 123) (by decide +kernel)) rfl
theorem kw4_124 : Jvm.Cond.fieldLink "TransitGateModel" (30 : Nat) "TransitGateModel" "innerLow" "[J" ∈ lw_g := tg_4 (List.mem_of_getElem? (i := 124) (by decide +kernel)) rfl
theorem kw4_125 : Jvm.Cond.fieldLink "TransitGateModel" (33 : Nat) "TransitGateModel" "innerPort" "[I" ∈ lw_g := tg_4 (List.mem_of_getElem? (i := 125) (by decide +kernel)) rfl
theorem kw4_126 : Jvm.Cond.fieldLink "TransitGateModel" (36 : Nat) "TransitGateModel" "outer" "[I" ∈ lw_g := tg_4 (List.mem_of_getElem? (i := 126) (by decide +kernel)) rfl
theorem kw4_127 : Jvm.Cond.fieldLink "TransitGateModel" (39 : Nat) "TransitGateModel" "outerPort" "[I" ∈ lw_g := tg_4 (List.mem_of_getElem? (i := 127) (by decide +kernel)) rfl
theorem kw4_128 : Jvm.Cond.fieldLink "TransitGateModel" (83 : Nat) "TransitGateModel" "sessions" "I" ∈ lw_g := tg_4 (List.mem_of_getElem? (i := 128) (by decide +kernel)) rfl
theorem kw4_129 : Jvm.Cond.fieldLink "TransitGateModel" (42 : Nat) "TransitGateModel" "bindingOf" "[I" ∈ lw_g := tg_4 (List.mem_of_getElem? (i := 129) (by decide +kernel)) rfl
theorem kw4_130 : Jvm.Cond.fieldLink "TransitGateModel" (45 : Nat) "TransitGateModel" "far" "[I" ∈ lw_g := tg_4 (List.mem_of_getElem? (i := 130) (by decide +kernel)) rfl
theorem kw4_131 : Jvm.Cond.fieldLink "TransitGateModel" (48 : Nat) "TransitGateModel" "farPort" "[I" ∈ lw_g := tg_4 (List.mem_of_getElem? (i := 131) (by decide +kernel)) rfl
theorem kw4_132 : Jvm.Cond.fieldLink "TransitGateModel" (51 : Nat) "TransitGateModel" "state" "[I" ∈ lw_g := tg_4 (List.mem_of_getElem? (i := 132) (by decide +kernel)) rfl
theorem kw4_133 : Jvm.Cond.fieldLink "TransitGateModel" (54 : Nat) "TransitGateModel" "end" "[I" ∈ lw_g := tg_4 (List.mem_of_getElem? (i := 133) (by decide +kernel)) rfl
theorem kw4_134 : Jvm.Cond.fieldLink "TransitGateModel" (163 : Nat) "TransitGateModel" "time" "I" ∈ lw_g := tg_4 (List.mem_of_getElem? (i := 134) (by decide +kernel)) rfl
theorem kw4_135 : Jvm.Cond.fieldLink "TransitGateModel" (231 : Nat) "TransitGateModel" "made" "I" ∈ lw_g := tg_4 (List.mem_of_getElem? (i := 135) (by decide +kernel)) rfl
theorem kw4_136 : Jvm.Cond.fieldLink "TransitGateModel" (57 : Nat) "TransitGateModel" "dropped" "[I" ∈ lw_g := tg_4 (List.mem_of_getElem? (i := 136) (by decide +kernel)) rfl
theorem kw4_137 : Jvm.Cond.fieldLink "TransitGateModel" (60 : Nat) "TransitGateModel" "identification" "I" ∈ lw_g := tg_4 (List.mem_of_getElem? (i := 137) (by decide +kernel)) rfl
theorem kw4_195 : Jvm.Cond.arrayClass Jvm.ClassFile.FieldType.long ∈ lw_g := tg_4 (List.mem_of_getElem? (i := 195) (by decide +kernel)) rfl
theorem kw4_196 : Jvm.Cond.methodLink "TransitGateLaw" (19 : Nat) ({ cls := "TransitGateModel", name := "prefix", desc := "(JJI)Z" } : Jvm.MethodName) ∈ lw_g := tg_4 (List.mem_of_getElem? (i := 196) (by decide +kernel)) rfl
theorem kw4_197 : Jvm.Cond.instanceMethod ({ cls := "TransitGateModel", name := "prefix", desc := "(JJI)Z" } : Jvm.MethodName) ∈ lw_g := tg_4 (List.mem_of_getElem? (i := 197) (by decide +kernel)) rfl
theorem kw4_198 : Jvm.Cond.selects "TransitGateModel" ({ cls := "TransitGateModel", name := "prefix", desc := "(JJI)Z" } : Jvm.MethodName) ({ cls := "TransitGateModel", name := "prefix", desc := "(JJI)Z" } : Jvm.MethodName) ∈ lw_g := tg_4 (List.mem_of_getElem? (i := 198) (by decide +kernel)) rfl
theorem kw4_199 : Jvm.Cond.code ({ cls := "TransitGateModel", name := "prefix", desc := "(JJI)Z" } : Jvm.MethodName) prog_14_method_7_code (6 : Nat) (Option.some Jvm.ClassFile.FieldType.boolean) ∈ lw_g := tg_4 (List.mem_of_getElem? (i := 199) rfl) rfl
theorem kw4_200 : Jvm.Cond.constantLong "TransitGateModel" (69 : Nat) (-1 : Int64) ∈ lw_g := tg_4 (List.mem_of_getElem? (i := 200) (by decide +kernel)) rfl
theorem kw4_201 : Jvm.Cond.constantLong "TransitGateModel" (75 : Nat) (-4294967296 : Int64) ∈ lw_g := tg_4 (List.mem_of_getElem? (i := 201) (by decide +kernel)) rfl
theorem kw4_202 : Jvm.Cond.methodLink "TransitGateLaw" (24 : Nat) ({ cls := "TransitGateModel", name := "pool", desc := "(I)I" } : Jvm.MethodName) ∈ lw_g := tg_4 (List.mem_of_getElem? (i := 202) (by decide +kernel)) rfl
theorem kw4_203 : Jvm.Cond.instanceMethod ({ cls := "TransitGateModel", name := "pool", desc := "(I)I" } : Jvm.MethodName) ∈ lw_g := tg_4 (List.mem_of_getElem? (i := 203) (by decide +kernel)) rfl
theorem kw4_204 : Jvm.Cond.selects "TransitGateModel" ({ cls := "TransitGateModel", name := "pool", desc := "(I)I" } : Jvm.MethodName) ({ cls := "TransitGateModel", name := "pool", desc := "(I)I" } : Jvm.MethodName) ∈ lw_g := tg_4 (List.mem_of_getElem? (i := 204) (by decide +kernel)) rfl
theorem kw4_205 : Jvm.Cond.code ({ cls := "TransitGateModel", name := "pool", desc := "(I)I" } : Jvm.MethodName) prog_14_method_10_code (2 : Nat) (Option.some Jvm.ClassFile.FieldType.int) ∈ lw_g := tg_4 (List.mem_of_getElem? (i := 205) rfl) rfl
theorem kw4_206 : Jvm.Cond.methodLink "TransitGateModel" (89 : Nat) ({ cls := "TransitGateModel", name := "isOdd", desc := "(I)Z" } : Jvm.MethodName) ∈ lw_g := tg_4 (List.mem_of_getElem? (i := 206) (by decide +kernel)) rfl
theorem kw4_207 : Jvm.Cond.static ({ cls := "TransitGateModel", name := "isOdd", desc := "(I)Z" } : Jvm.MethodName) ∈ lw_g := tg_4 (List.mem_of_getElem? (i := 207) (by decide +kernel)) rfl
theorem kw4_208 : Jvm.Cond.code ({ cls := "TransitGateModel", name := "isOdd", desc := "(I)Z" } : Jvm.MethodName) prog_14_method_8_code (2 : Nat) (Option.some Jvm.ClassFile.FieldType.boolean) ∈ lw_g := tg_4 (List.mem_of_getElem? (i := 208) rfl) rfl
theorem kw4_209 : Jvm.Cond.methodLink "TransitGateModel" (93 : Nat) ({ cls := "TransitGateModel", name := "poolOf", desc := "(I)I" } : Jvm.MethodName) ∈ lw_g := tg_4 (List.mem_of_getElem? (i := 209) (by decide +kernel)) rfl
theorem kw4_211 : Jvm.Cond.instanceMethod ({ cls := "TransitGateModel", name := "poolOf", desc := "(I)I" } : Jvm.MethodName) ∈ lw_g := tg_4 (List.mem_of_getElem? (i := 211) (by decide +kernel)) rfl
theorem kw4_212 : Jvm.Cond.code ({ cls := "TransitGateModel", name := "poolOf", desc := "(I)I" } : Jvm.MethodName) prog_14_method_9_code (3 : Nat) (Option.some Jvm.ClassFile.FieldType.int) ∈ lw_g := tg_4 (List.mem_of_getElem? (i := 212) rfl) rfl
theorem kw4_213 : Jvm.Cond.methodLink "TransitGateLaw" (29 : Nat) ({ cls := "TransitGateModel", name := "high", desc := "(I)J" } : Jvm.MethodName) ∈ lw_g := tg_4 (List.mem_of_getElem? (i := 213) (by decide +kernel)) rfl
theorem kw4_214 : Jvm.Cond.instanceMethod ({ cls := "TransitGateModel", name := "high", desc := "(I)J" } : Jvm.MethodName) ∈ lw_g := tg_4 (List.mem_of_getElem? (i := 214) (by decide +kernel)) rfl
theorem kw4_215 : Jvm.Cond.selects "TransitGateModel" ({ cls := "TransitGateModel", name := "high", desc := "(I)J" } : Jvm.MethodName) ({ cls := "TransitGateModel", name := "high", desc := "(I)J" } : Jvm.MethodName) ∈ lw_g := tg_4 (List.mem_of_getElem? (i := 215) (by decide +kernel)) rfl
theorem kw4_216 : Jvm.Cond.code ({ cls := "TransitGateModel", name := "high", desc := "(I)J" } : Jvm.MethodName) prog_14_method_11_code (6 : Nat) (Option.some Jvm.ClassFile.FieldType.long) ∈ lw_g := tg_4 (List.mem_of_getElem? (i := 216) rfl) rfl
theorem kw4_217 : Jvm.Cond.methodLink "TransitGateModel" (97 : Nat) ({ cls := "TransitGateModel", name := "placeOf", desc := "(I)I" } : Jvm.MethodName) ∈ lw_g := tg_4 (List.mem_of_getElem? (i := 217) (by decide +kernel)) rfl
theorem kw4_219 : Jvm.Cond.instanceMethod ({ cls := "TransitGateModel", name := "placeOf", desc := "(I)I" } : Jvm.MethodName) ∈ lw_g := tg_4 (List.mem_of_getElem? (i := 219) (by decide +kernel)) rfl
theorem kw4_220 : Jvm.Cond.code ({ cls := "TransitGateModel", name := "placeOf", desc := "(I)I" } : Jvm.MethodName) prog_14_method_4_code (3 : Nat) (Option.some Jvm.ClassFile.FieldType.int) ∈ lw_g := tg_4 (List.mem_of_getElem? (i := 220) rfl) rfl
theorem kw4_221 : Jvm.Cond.methodLink "TransitGateModel" (100 : Nat) ({ cls := "TransitGateModel", name := "with", desc := "(JII)J" } : Jvm.MethodName) ∈ lw_g := tg_4 (List.mem_of_getElem? (i := 221) (by decide +kernel)) rfl
theorem kw4_222 : Jvm.Cond.static ({ cls := "TransitGateModel", name := "with", desc := "(JII)J" } : Jvm.MethodName) ∈ lw_g := tg_4 (List.mem_of_getElem? (i := 222) (by decide +kernel)) rfl
theorem kw4_223 : Jvm.Cond.code ({ cls := "TransitGateModel", name := "with", desc := "(JII)J" } : Jvm.MethodName) prog_14_method_6_code (5 : Nat) (Option.some Jvm.ClassFile.FieldType.long) ∈ lw_g := tg_4 (List.mem_of_getElem? (i := 223) rfl) rfl
theorem kw4_224 : Jvm.Cond.constantLong "TransitGateModel" (67 : Nat) (255 : Int64) ∈ lw_g := tg_4 (List.mem_of_getElem? (i := 224) (by decide +kernel)) rfl
theorem kw4_225 : Jvm.Cond.methodLink "TransitGateLaw" (33 : Nat) ({ cls := "TransitGateModel", name := "low", desc := "(I)J" } : Jvm.MethodName) ∈ lw_g := tg_4 (List.mem_of_getElem? (i := 225) (by decide +kernel)) rfl
theorem kw4_226 : Jvm.Cond.instanceMethod ({ cls := "TransitGateModel", name := "low", desc := "(I)J" } : Jvm.MethodName) ∈ lw_g := tg_4 (List.mem_of_getElem? (i := 226) (by decide +kernel)) rfl
theorem kw4_227 : Jvm.Cond.selects "TransitGateModel" ({ cls := "TransitGateModel", name := "low", desc := "(I)J" } : Jvm.MethodName) ({ cls := "TransitGateModel", name := "low", desc := "(I)J" } : Jvm.MethodName) ∈ lw_g := tg_4 (List.mem_of_getElem? (i := 227) (by decide +kernel)) rfl
theorem kw4_228 : Jvm.Cond.code ({ cls := "TransitGateModel", name := "low", desc := "(I)J" } : Jvm.MethodName) prog_14_method_12_code (6 : Nat) (Option.some Jvm.ClassFile.FieldType.long) ∈ lw_g := tg_4 (List.mem_of_getElem? (i := 228) rfl) rfl
theorem kw4_229 : Jvm.Cond.methodLink "TransitGateLaw" (38 : Nat) ({ cls := "TransitGateModel", name := "drawn", desc := "(JJ)J" } : Jvm.MethodName) ∈ lw_g := tg_4 (List.mem_of_getElem? (i := 229) (by decide +kernel)) rfl
theorem kw4_230 : Jvm.Cond.instanceMethod ({ cls := "TransitGateModel", name := "drawn", desc := "(JJ)J" } : Jvm.MethodName) ∈ lw_g := tg_4 (List.mem_of_getElem? (i := 230) (by decide +kernel)) rfl
theorem kw4_231 : Jvm.Cond.selects "TransitGateModel" ({ cls := "TransitGateModel", name := "drawn", desc := "(JJ)J" } : Jvm.MethodName) ({ cls := "TransitGateModel", name := "drawn", desc := "(JJ)J" } : Jvm.MethodName) ∈ lw_g := tg_4 (List.mem_of_getElem? (i := 231) (by decide +kernel)) rfl
theorem kw4_232 : Jvm.Cond.code ({ cls := "TransitGateModel", name := "drawn", desc := "(JJ)J" } : Jvm.MethodName) prog_14_method_15_code (5 : Nat) (Option.some Jvm.ClassFile.FieldType.long) ∈ lw_g := tg_4 (List.mem_of_getElem? (i := 232) rfl) rfl
theorem kw4_233 : Jvm.Cond.methodLink "TransitGateModel" (108 : Nat) ({ cls := "TransitGateModel", name := "isOfPrefix", desc := "(JJ)Z" } : Jvm.MethodName) ∈ lw_g := tg_4 (List.mem_of_getElem? (i := 233) (by decide +kernel)) rfl
theorem kw4_235 : Jvm.Cond.instanceMethod ({ cls := "TransitGateModel", name := "isOfPrefix", desc := "(JJ)Z" } : Jvm.MethodName) ∈ lw_g := tg_4 (List.mem_of_getElem? (i := 235) (by decide +kernel)) rfl
theorem kw4_236 : Jvm.Cond.code ({ cls := "TransitGateModel", name := "isOfPrefix", desc := "(JJ)Z" } : Jvm.MethodName) prog_14_method_13_code (7 : Nat) (Option.some Jvm.ClassFile.FieldType.boolean) ∈ lw_g := tg_4 (List.mem_of_getElem? (i := 236) rfl) rfl
theorem kw4_237 : Jvm.Cond.methodLink "TransitGateModel" (112 : Nat) ({ cls := "TransitGateModel", name := "drawnOf", desc := "(JJ)I" } : Jvm.MethodName) ∈ lw_g := tg_4 (List.mem_of_getElem? (i := 237) (by decide +kernel)) rfl
theorem kw4_239 : Jvm.Cond.instanceMethod ({ cls := "TransitGateModel", name := "drawnOf", desc := "(JJ)I" } : Jvm.MethodName) ∈ lw_g := tg_4 (List.mem_of_getElem? (i := 239) (by decide +kernel)) rfl
end
section
theorem kw5_0 : Jvm.Cond.code ({ cls := "TransitGateModel", name := "drawnOf", desc := "(JJ)I" } : Jvm.MethodName) prog_14_method_14_code (7 : Nat) (Option.some Jvm.ClassFile.FieldType.int) ∈ lw_g := tg_5 (List.mem_of_getElem? (i := 0) rfl) rfl
theorem kw5_1 : Jvm.Cond.methodLink "TransitGateModel" (104 : Nat) ({ cls := "TransitGateModel", name := "byteOf", desc := "(JJI)I" } : Jvm.MethodName) ∈ lw_g := tg_5 (List.mem_of_getElem? (i := 1) (by decide +kernel)) rfl
theorem kw5_2 : Jvm.Cond.static ({ cls := "TransitGateModel", name := "byteOf", desc := "(JJI)I" } : Jvm.MethodName) ∈ lw_g := tg_5 (List.mem_of_getElem? (i := 2) (by decide +kernel)) rfl
theorem kw5_3 : Jvm.Cond.code ({ cls := "TransitGateModel", name := "byteOf", desc := "(JJI)I" } : Jvm.MethodName) prog_14_method_5_code (5 : Nat) (Option.some Jvm.ClassFile.FieldType.int) ∈ lw_g := tg_5 (List.mem_of_getElem? (i := 3) rfl) rfl
theorem kw5_4 : Jvm.Cond.constantLong "TransitGateModel" (116 : Nat) (4294967295 : Int64) ∈ lw_g := tg_5 (List.mem_of_getElem? (i := 4) (by decide +kernel)) rfl
theorem kw5_5 : Jvm.Cond.methodLink "TransitGateLaw" (43 : Nat) ({ cls := "TransitGateModel", name := "feed", desc := "(IIIII)Z" } : Jvm.MethodName) ∈ lw_g := tg_5 (List.mem_of_getElem? (i := 5) (by decide +kernel)) rfl
theorem kw5_6 : Jvm.Cond.instanceMethod ({ cls := "TransitGateModel", name := "feed", desc := "(IIIII)Z" } : Jvm.MethodName) ∈ lw_g := tg_5 (List.mem_of_getElem? (i := 6) (by decide +kernel)) rfl
theorem kw5_7 : Jvm.Cond.selects "TransitGateModel" ({ cls := "TransitGateModel", name := "feed", desc := "(IIIII)Z" } : Jvm.MethodName) ({ cls := "TransitGateModel", name := "feed", desc := "(IIIII)Z" } : Jvm.MethodName) ∈ lw_g := tg_5 (List.mem_of_getElem? (i := 7) (by decide +kernel)) rfl
theorem kw5_8 : Jvm.Cond.code ({ cls := "TransitGateModel", name := "feed", desc := "(IIIII)Z" } : Jvm.MethodName) prog_14_method_16_code (8 : Nat) (Option.some Jvm.ClassFile.FieldType.boolean) ∈ lw_g := tg_5 (List.mem_of_getElem? (i := 8) rfl) rfl
theorem kw5_9 : Jvm.Cond.methodLink "TransitGateLaw" (77 : Nat) ({ cls := "TransitGateModel", name := "tick", desc := "(I)I" } : Jvm.MethodName) ∈ lw_g := tg_5 (List.mem_of_getElem? (i := 9) (by decide +kernel)) rfl
theorem kw5_10 : Jvm.Cond.instanceMethod ({ cls := "TransitGateModel", name := "tick", desc := "(I)I" } : Jvm.MethodName) ∈ lw_g := tg_5 (List.mem_of_getElem? (i := 10) (by decide +kernel)) rfl
theorem kw5_11 : Jvm.Cond.selects "TransitGateModel" ({ cls := "TransitGateModel", name := "tick", desc := "(I)I" } : Jvm.MethodName) ({ cls := "TransitGateModel", name := "tick", desc := "(I)I" } : Jvm.MethodName) ∈ lw_g := tg_5 (List.mem_of_getElem? (i := 11) (by decide +kernel)) rfl
theorem kw5_12 : Jvm.Cond.code ({ cls := "TransitGateModel", name := "tick", desc := "(I)I" } : Jvm.MethodName) prog_14_method_42_code (2 : Nat) (Option.some Jvm.ClassFile.FieldType.int) ∈ lw_g := tg_5 (List.mem_of_getElem? (i := 12) rfl) rfl
theorem kw5_13 : Jvm.Cond.constantLong "TransitGateModel" (176 : Nat) (10000 : Int64) ∈ lw_g := tg_5 (List.mem_of_getElem? (i := 13) (by decide +kernel)) rfl
theorem kw5_14 : Jvm.Cond.methodLink "TransitGateModel" (178 : Nat) ({ cls := "TransitGateModel", name := "isIn", desc := "(JJJ)Z" } : Jvm.MethodName) ∈ lw_g := tg_5 (List.mem_of_getElem? (i := 14) (by decide +kernel)) rfl
theorem kw5_15 : Jvm.Cond.static ({ cls := "TransitGateModel", name := "isIn", desc := "(JJJ)Z" } : Jvm.MethodName) ∈ lw_g := tg_5 (List.mem_of_getElem? (i := 15) (by decide +kernel)) rfl
theorem kw5_16 : Jvm.Cond.code ({ cls := "TransitGateModel", name := "isIn", desc := "(JJJ)Z" } : Jvm.MethodName) prog_14_method_3_code (6 : Nat) (Option.some Jvm.ClassFile.FieldType.boolean) ∈ lw_g := tg_5 (List.mem_of_getElem? (i := 16) rfl) rfl
theorem kw5_17 : Jvm.Cond.methodLink "TransitGateModel" (182 : Nat) ({ cls := "TransitGateModel", name := "sweep", desc := "()I" } : Jvm.MethodName) ∈ lw_g := tg_5 (List.mem_of_getElem? (i := 17) (by decide +kernel)) rfl
theorem kw5_19 : Jvm.Cond.instanceMethod ({ cls := "TransitGateModel", name := "sweep", desc := "()I" } : Jvm.MethodName) ∈ lw_g := tg_5 (List.mem_of_getElem? (i := 19) (by decide +kernel)) rfl
theorem kw5_20 : Jvm.Cond.code ({ cls := "TransitGateModel", name := "sweep", desc := "()I" } : Jvm.MethodName) prog_14_method_40_code (4 : Nat) (Option.some Jvm.ClassFile.FieldType.int) ∈ lw_g := tg_5 (List.mem_of_getElem? (i := 20) rfl) rfl
theorem kw5_21 : Jvm.Cond.methodLink "TransitGateModel" (170 : Nat) ({ cls := "TransitGateModel", name := "sessionsOf", desc := "(I)I" } : Jvm.MethodName) ∈ lw_g := tg_5 (List.mem_of_getElem? (i := 21) (by decide +kernel)) rfl
theorem kw5_23 : Jvm.Cond.instanceMethod ({ cls := "TransitGateModel", name := "sessionsOf", desc := "(I)I" } : Jvm.MethodName) ∈ lw_g := tg_5 (List.mem_of_getElem? (i := 23) (by decide +kernel)) rfl
theorem kw5_24 : Jvm.Cond.code ({ cls := "TransitGateModel", name := "sessionsOf", desc := "(I)I" } : Jvm.MethodName) prog_14_method_29_code (4 : Nat) (Option.some Jvm.ClassFile.FieldType.int) ∈ lw_g := tg_5 (List.mem_of_getElem? (i := 24) rfl) rfl
theorem kw5_25 : Jvm.Cond.methodLink "TransitGateModel" (173 : Nat) ({ cls := "TransitGateModel", name := "dropBinding", desc := "(I)V" } : Jvm.MethodName) ∈ lw_g := tg_5 (List.mem_of_getElem? (i := 25) (by decide +kernel)) rfl
theorem kw5_27 : Jvm.Cond.instanceMethod ({ cls := "TransitGateModel", name := "dropBinding", desc := "(I)V" } : Jvm.MethodName) ∈ lw_g := tg_5 (List.mem_of_getElem? (i := 27) (by decide +kernel)) rfl
theorem kw5_28 : Jvm.Cond.code ({ cls := "TransitGateModel", name := "dropBinding", desc := "(I)V" } : Jvm.MethodName) prog_14_method_41_code (3 : Nat) (Option.none : Option Jvm.ClassFile.FieldType) ∈ lw_g := tg_5 (List.mem_of_getElem? (i := 28) rfl) rfl
theorem kw5_29 : Jvm.Cond.methodLink "TransitGateLaw" (47 : Nat) ({ cls := "TransitGateModel", name := "inside", desc := "(I)I" } : Jvm.MethodName) ∈ lw_g := tg_5 (List.mem_of_getElem? (i := 29) (by decide +kernel)) rfl
theorem kw5_30 : Jvm.Cond.instanceMethod ({ cls := "TransitGateModel", name := "inside", desc := "(I)I" } : Jvm.MethodName) ∈ lw_g := tg_5 (List.mem_of_getElem? (i := 30) (by decide +kernel)) rfl
theorem kw5_31 : Jvm.Cond.selects "TransitGateModel" ({ cls := "TransitGateModel", name := "inside", desc := "(I)I" } : Jvm.MethodName) ({ cls := "TransitGateModel", name := "inside", desc := "(I)I" } : Jvm.MethodName) ∈ lw_g := tg_5 (List.mem_of_getElem? (i := 31) (by decide +kernel)) rfl
theorem kw5_32 : Jvm.Cond.code ({ cls := "TransitGateModel", name := "inside", desc := "(I)I" } : Jvm.MethodName) prog_14_method_46_code (15 : Nat) (Option.some Jvm.ClassFile.FieldType.int) ∈ lw_g := tg_5 (List.mem_of_getElem? (i := 32) rfl) rfl
theorem kw5_33 : Jvm.Cond.methodLink "TransitGateModel" (197 : Nat) ({ cls := "TransitGateModel", name := "begin", desc := "(I)V" } : Jvm.MethodName) ∈ lw_g := tg_5 (List.mem_of_getElem? (i := 33) (by decide +kernel)) rfl
theorem kw5_35 : Jvm.Cond.instanceMethod ({ cls := "TransitGateModel", name := "begin", desc := "(I)V" } : Jvm.MethodName) ∈ lw_g := tg_5 (List.mem_of_getElem? (i := 35) (by decide +kernel)) rfl
theorem kw5_36 : Jvm.Cond.code ({ cls := "TransitGateModel", name := "begin", desc := "(I)V" } : Jvm.MethodName) prog_14_method_17_code (3 : Nat) (Option.none : Option Jvm.ClassFile.FieldType) ∈ lw_g := tg_5 (List.mem_of_getElem? (i := 36) rfl) rfl
theorem kw5_37 : Jvm.Cond.methodLink "TransitGateModel" (200 : Nat) ({ cls := "TransitGateModel", name := "lackOfInside", desc := "()I" } : Jvm.MethodName) ∈ lw_g := tg_5 (List.mem_of_getElem? (i := 37) (by decide +kernel)) rfl
theorem kw5_39 : Jvm.Cond.instanceMethod ({ cls := "TransitGateModel", name := "lackOfInside", desc := "()I" } : Jvm.MethodName) ∈ lw_g := tg_5 (List.mem_of_getElem? (i := 39) (by decide +kernel)) rfl
theorem kw5_40 : Jvm.Cond.code ({ cls := "TransitGateModel", name := "lackOfInside", desc := "()I" } : Jvm.MethodName) prog_14_method_45_code (3 : Nat) (Option.some Jvm.ClassFile.FieldType.int) ∈ lw_g := tg_5 (List.mem_of_getElem? (i := 40) rfl) rfl
theorem kw5_41 : Jvm.Cond.methodLink "TransitGateModel" (124 : Nat) ({ cls := "TransitGateModel", name := "at", desc := "([BI)I" } : Jvm.MethodName) ∈ lw_g := tg_5 (List.mem_of_getElem? (i := 41) (by decide +kernel)) rfl
theorem kw5_42 : Jvm.Cond.static ({ cls := "TransitGateModel", name := "at", desc := "([BI)I" } : Jvm.MethodName) ∈ lw_g := tg_5 (List.mem_of_getElem? (i := 42) (by decide +kernel)) rfl
theorem kw5_43 : Jvm.Cond.code ({ cls := "TransitGateModel", name := "at", desc := "([BI)I" } : Jvm.MethodName) prog_14_method_18_code (2 : Nat) (Option.some Jvm.ClassFile.FieldType.int) ∈ lw_g := tg_5 (List.mem_of_getElem? (i := 43) rfl) rfl
theorem kw5_44 : Jvm.Cond.methodLink "TransitGateModel" (128 : Nat) ({ cls := "TransitGateModel", name := "two", desc := "([BI)I" } : Jvm.MethodName) ∈ lw_g := tg_5 (List.mem_of_getElem? (i := 44) (by decide +kernel)) rfl
theorem kw5_45 : Jvm.Cond.static ({ cls := "TransitGateModel", name := "two", desc := "([BI)I" } : Jvm.MethodName) ∈ lw_g := tg_5 (List.mem_of_getElem? (i := 45) (by decide +kernel)) rfl
theorem kw5_46 : Jvm.Cond.code ({ cls := "TransitGateModel", name := "two", desc := "([BI)I" } : Jvm.MethodName) prog_14_method_19_code (2 : Nat) (Option.some Jvm.ClassFile.FieldType.int) ∈ lw_g := tg_5 (List.mem_of_getElem? (i := 46) rfl) rfl
theorem kw5_47 : Jvm.Cond.methodLink "TransitGateModel" (186 : Nat) ({ cls := "TransitGateModel", name := "isBadPart", desc := "(II)Z" } : Jvm.MethodName) ∈ lw_g := tg_5 (List.mem_of_getElem? (i := 47) (by decide +kernel)) rfl
theorem kw5_49 : Jvm.Cond.instanceMethod ({ cls := "TransitGateModel", name := "isBadPart", desc := "(II)Z" } : Jvm.MethodName) ∈ lw_g := tg_5 (List.mem_of_getElem? (i := 49) (by decide +kernel)) rfl
theorem kw5_50 : Jvm.Cond.code ({ cls := "TransitGateModel", name := "isBadPart", desc := "(II)Z" } : Jvm.MethodName) prog_14_method_44_code (4 : Nat) (Option.some Jvm.ClassFile.FieldType.boolean) ∈ lw_g := tg_5 (List.mem_of_getElem? (i := 50) rfl) rfl
theorem kw5_51 : Jvm.Cond.methodLink "TransitGateModel" (190 : Nat) ({ cls := "TransitGateModel", name := "isRight", desc := "(II)Z" } : Jvm.MethodName) ∈ lw_g := tg_5 (List.mem_of_getElem? (i := 51) (by decide +kernel)) rfl
theorem kw5_53 : Jvm.Cond.instanceMethod ({ cls := "TransitGateModel", name := "isRight", desc := "(II)Z" } : Jvm.MethodName) ∈ lw_g := tg_5 (List.mem_of_getElem? (i := 53) (by decide +kernel)) rfl
theorem kw5_54 : Jvm.Cond.code ({ cls := "TransitGateModel", name := "isRight", desc := "(II)Z" } : Jvm.MethodName) prog_14_method_27_code (4 : Nat) (Option.some Jvm.ClassFile.FieldType.boolean) ∈ lw_g := tg_5 (List.mem_of_getElem? (i := 54) rfl) rfl
theorem kw5_55 : Jvm.Cond.methodLink "TransitGateModel" (145 : Nat) ({ cls := "TransitGateModel", name := "placeOfSum", desc := "(I)I" } : Jvm.MethodName) ∈ lw_g := tg_5 (List.mem_of_getElem? (i := 55) (by decide +kernel)) rfl
theorem kw5_56 : Jvm.Cond.static ({ cls := "TransitGateModel", name := "placeOfSum", desc := "(I)I" } : Jvm.MethodName) ∈ lw_g := tg_5 (List.mem_of_getElem? (i := 56) (by decide +kernel)) rfl
theorem kw5_57 : Jvm.Cond.code ({ cls := "TransitGateModel", name := "placeOfSum", desc := "(I)I" } : Jvm.MethodName) prog_14_method_26_code (1 : Nat) (Option.some Jvm.ClassFile.FieldType.int) ∈ lw_g := tg_5 (List.mem_of_getElem? (i := 57) rfl) rfl
theorem kw5_58 : Jvm.Cond.methodLink "TransitGateModel" (148 : Nat) ({ cls := "TransitGateModel", name := "sumOf", desc := "([BIIII)I" } : Jvm.MethodName) ∈ lw_g := tg_5 (List.mem_of_getElem? (i := 58) (by decide +kernel)) rfl
theorem kw5_59 : Jvm.Cond.static ({ cls := "TransitGateModel", name := "sumOf", desc := "([BIIII)I" } : Jvm.MethodName) ∈ lw_g := tg_5 (List.mem_of_getElem? (i := 59) (by decide +kernel)) rfl
theorem kw5_60 : Jvm.Cond.code ({ cls := "TransitGateModel", name := "sumOf", desc := "([BIIII)I" } : Jvm.MethodName) prog_14_method_25_code (9 : Nat) (Option.some Jvm.ClassFile.FieldType.int) ∈ lw_g := tg_5 (List.mem_of_getElem? (i := 60) rfl) rfl
theorem kw5_61 : Jvm.Cond.methodLink "TransitGateModel" (136 : Nat) ({ cls := "TransitGateModel", name := "words", desc := "([BIII)J" } : Jvm.MethodName) ∈ lw_g := tg_5 (List.mem_of_getElem? (i := 61) (by decide +kernel)) rfl
theorem kw5_62 : Jvm.Cond.static ({ cls := "TransitGateModel", name := "words", desc := "([BIII)J" } : Jvm.MethodName) ∈ lw_g := tg_5 (List.mem_of_getElem? (i := 62) (by decide +kernel)) rfl
theorem kw5_63 : Jvm.Cond.code ({ cls := "TransitGateModel", name := "words", desc := "([BIII)J" } : Jvm.MethodName) prog_14_method_23_code (7 : Nat) (Option.some Jvm.ClassFile.FieldType.long) ∈ lw_g := tg_5 (List.mem_of_getElem? (i := 63) rfl) rfl
theorem kw5_64 : Jvm.Cond.methodLink "TransitGateModel" (140 : Nat) ({ cls := "TransitGateModel", name := "folded", desc := "(J)I" } : Jvm.MethodName) ∈ lw_g := tg_5 (List.mem_of_getElem? (i := 64) (by decide +kernel)) rfl
theorem kw5_65 : Jvm.Cond.static ({ cls := "TransitGateModel", name := "folded", desc := "(J)I" } : Jvm.MethodName) ∈ lw_g := tg_5 (List.mem_of_getElem? (i := 65) (by decide +kernel)) rfl
theorem kw5_66 : Jvm.Cond.code ({ cls := "TransitGateModel", name := "folded", desc := "(J)I" } : Jvm.MethodName) prog_14_method_24_code (4 : Nat) (Option.some Jvm.ClassFile.FieldType.int) ∈ lw_g := tg_5 (List.mem_of_getElem? (i := 66) rfl) rfl
theorem kw5_67 : Jvm.Cond.constantLong "TransitGateModel" (134 : Nat) (65535 : Int64) ∈ lw_g := tg_5 (List.mem_of_getElem? (i := 67) (by decide +kernel)) rfl
theorem kw5_68 : Jvm.Cond.constant "TransitGateModel" (144 : Nat) (65535 : Int32) ∈ lw_g := tg_5 (List.mem_of_getElem? (i := 68) (by decide +kernel)) rfl
theorem kw5_69 : Jvm.Cond.methodLink "TransitGateModel" (193 : Nat) ({ cls := "TransitGateModel", name := "eight", desc := "([BI)J" } : Jvm.MethodName) ∈ lw_g := tg_5 (List.mem_of_getElem? (i := 69) (by decide +kernel)) rfl
theorem kw5_70 : Jvm.Cond.static ({ cls := "TransitGateModel", name := "eight", desc := "([BI)J" } : Jvm.MethodName) ∈ lw_g := tg_5 (List.mem_of_getElem? (i := 70) (by decide +kernel)) rfl
theorem kw5_71 : Jvm.Cond.code ({ cls := "TransitGateModel", name := "eight", desc := "([BI)J" } : Jvm.MethodName) prog_14_method_21_code (2 : Nat) (Option.some Jvm.ClassFile.FieldType.long) ∈ lw_g := tg_5 (List.mem_of_getElem? (i := 71) rfl) rfl
theorem kw5_72 : Jvm.Cond.methodLink "TransitGateModel" (131 : Nat) ({ cls := "TransitGateModel", name := "four", desc := "([BI)I" } : Jvm.MethodName) ∈ lw_g := tg_5 (List.mem_of_getElem? (i := 72) (by decide +kernel)) rfl
theorem kw5_73 : Jvm.Cond.static ({ cls := "TransitGateModel", name := "four", desc := "([BI)I" } : Jvm.MethodName) ∈ lw_g := tg_5 (List.mem_of_getElem? (i := 73) (by decide +kernel)) rfl
theorem kw5_74 : Jvm.Cond.code ({ cls := "TransitGateModel", name := "four", desc := "([BI)I" } : Jvm.MethodName) prog_14_method_20_code (2 : Nat) (Option.some Jvm.ClassFile.FieldType.int) ∈ lw_g := tg_5 (List.mem_of_getElem? (i := 74) rfl) rfl
theorem kw5_75 : Jvm.Cond.methodLink "TransitGateModel" (203 : Nat) ({ cls := "TransitGateModel", name := "drops", desc := "(I)I" } : Jvm.MethodName) ∈ lw_g := tg_5 (List.mem_of_getElem? (i := 75) (by decide +kernel)) rfl
theorem kw5_77 : Jvm.Cond.instanceMethod ({ cls := "TransitGateModel", name := "drops", desc := "(I)I" } : Jvm.MethodName) ∈ lw_g := tg_5 (List.mem_of_getElem? (i := 77) (by decide +kernel)) rfl
theorem kw5_78 : Jvm.Cond.code ({ cls := "TransitGateModel", name := "drops", desc := "(I)I" } : Jvm.MethodName) prog_14_method_43_code (2 : Nat) (Option.some Jvm.ClassFile.FieldType.int) ∈ lw_g := tg_5 (List.mem_of_getElem? (i := 78) rfl) rfl
theorem kw5_79 : Jvm.Cond.methodLink "TransitGateModel" (206 : Nat) ({ cls := "TransitGateModel", name := "kindOf", desc := "([BI)I" } : Jvm.MethodName) ∈ lw_g := tg_5 (List.mem_of_getElem? (i := 79) (by decide +kernel)) rfl
theorem kw5_80 : Jvm.Cond.static ({ cls := "TransitGateModel", name := "kindOf", desc := "([BI)I" } : Jvm.MethodName) ∈ lw_g := tg_5 (List.mem_of_getElem? (i := 80) (by decide +kernel)) rfl
theorem kw5_81 : Jvm.Cond.code ({ cls := "TransitGateModel", name := "kindOf", desc := "([BI)I" } : Jvm.MethodName) prog_14_method_38_code (3 : Nat) (Option.some Jvm.ClassFile.FieldType.int) ∈ lw_g := tg_5 (List.mem_of_getElem? (i := 81) rfl) rfl
theorem kw5_82 : Jvm.Cond.methodLink "TransitGateModel" (209 : Nat) ({ cls := "TransitGateModel", name := "findInner", desc := "(IJJI)I" } : Jvm.MethodName) ∈ lw_g := tg_5 (List.mem_of_getElem? (i := 82) (by decide +kernel)) rfl
theorem kw5_84 : Jvm.Cond.instanceMethod ({ cls := "TransitGateModel", name := "findInner", desc := "(IJJI)I" } : Jvm.MethodName) ∈ lw_g := tg_5 (List.mem_of_getElem? (i := 84) (by decide +kernel)) rfl
theorem kw5_85 : Jvm.Cond.code ({ cls := "TransitGateModel", name := "findInner", desc := "(IJJI)I" } : Jvm.MethodName) prog_14_method_30_code (8 : Nat) (Option.some Jvm.ClassFile.FieldType.int) ∈ lw_g := tg_5 (List.mem_of_getElem? (i := 85) rfl) rfl
theorem kw5_86 : Jvm.Cond.methodLink "TransitGateModel" (213 : Nat) ({ cls := "TransitGateModel", name := "findSession", desc := "(III)I" } : Jvm.MethodName) ∈ lw_g := tg_5 (List.mem_of_getElem? (i := 86) (by decide +kernel)) rfl
theorem kw5_88 : Jvm.Cond.instanceMethod ({ cls := "TransitGateModel", name := "findSession", desc := "(III)I" } : Jvm.MethodName) ∈ lw_g := tg_5 (List.mem_of_getElem? (i := 88) (by decide +kernel)) rfl
theorem kw5_89 : Jvm.Cond.code ({ cls := "TransitGateModel", name := "findSession", desc := "(III)I" } : Jvm.MethodName) prog_14_method_32_code (5 : Nat) (Option.some Jvm.ClassFile.FieldType.int) ∈ lw_g := tg_5 (List.mem_of_getElem? (i := 89) rfl) rfl
theorem kw5_90 : Jvm.Cond.methodLink "TransitGateModel" (216 : Nat) ({ cls := "TransitGateModel", name := "makeBinding", desc := "(IJJI)I" } : Jvm.MethodName) ∈ lw_g := tg_5 (List.mem_of_getElem? (i := 90) (by decide +kernel)) rfl
theorem kw5_92 : Jvm.Cond.instanceMethod ({ cls := "TransitGateModel", name := "makeBinding", desc := "(IJJI)I" } : Jvm.MethodName) ∈ lw_g := tg_5 (List.mem_of_getElem? (i := 92) (by decide +kernel)) rfl
theorem kw5_93 : Jvm.Cond.code ({ cls := "TransitGateModel", name := "makeBinding", desc := "(IJJI)I" } : Jvm.MethodName) prog_14_method_34_code (11 : Nat) (Option.some Jvm.ClassFile.FieldType.int) ∈ lw_g := tg_5 (List.mem_of_getElem? (i := 93) rfl) rfl
theorem kw5_94 : Jvm.Cond.methodLink "TransitGateModel" (152 : Nat) ({ cls := "TransitGateModel", name := "bestPool", desc := "(JJ)I" } : Jvm.MethodName) ∈ lw_g := tg_5 (List.mem_of_getElem? (i := 94) (by decide +kernel)) rfl
theorem kw5_96 : Jvm.Cond.instanceMethod ({ cls := "TransitGateModel", name := "bestPool", desc := "(JJ)I" } : Jvm.MethodName) ∈ lw_g := tg_5 (List.mem_of_getElem? (i := 96) (by decide +kernel)) rfl
theorem kw5_97 : Jvm.Cond.code ({ cls := "TransitGateModel", name := "bestPool", desc := "(JJ)I" } : Jvm.MethodName) prog_14_method_33_code (10 : Nat) (Option.some Jvm.ClassFile.FieldType.int) ∈ lw_g := tg_5 (List.mem_of_getElem? (i := 97) rfl) rfl
theorem kw5_98 : Jvm.Cond.methodLink "TransitGateModel" (155 : Nat) ({ cls := "TransitGateModel", name := "findOuter", desc := "(III)I" } : Jvm.MethodName) ∈ lw_g := tg_5 (List.mem_of_getElem? (i := 98) (by decide +kernel)) rfl
theorem kw5_100 : Jvm.Cond.instanceMethod ({ cls := "TransitGateModel", name := "findOuter", desc := "(III)I" } : Jvm.MethodName) ∈ lw_g := tg_5 (List.mem_of_getElem? (i := 100) (by decide +kernel)) rfl
theorem kw5_101 : Jvm.Cond.code ({ cls := "TransitGateModel", name := "findOuter", desc := "(III)I" } : Jvm.MethodName) prog_14_method_31_code (5 : Nat) (Option.some Jvm.ClassFile.FieldType.int) ∈ lw_g := tg_5 (List.mem_of_getElem? (i := 101) rfl) rfl
theorem kw5_102 : Jvm.Cond.methodLink "TransitGateModel" (219 : Nat) ({ cls := "TransitGateModel", name := "makeSession", desc := "(IIIZ)I" } : Jvm.MethodName) ∈ lw_g := tg_5 (List.mem_of_getElem? (i := 102) (by decide +kernel)) rfl
theorem kw5_104 : Jvm.Cond.instanceMethod ({ cls := "TransitGateModel", name := "makeSession", desc := "(IIIZ)I" } : Jvm.MethodName) ∈ lw_g := tg_5 (List.mem_of_getElem? (i := 104) (by decide +kernel)) rfl
theorem kw5_105 : Jvm.Cond.code ({ cls := "TransitGateModel", name := "makeSession", desc := "(IIIZ)I" } : Jvm.MethodName) prog_14_method_35_code (6 : Nat) (Option.some Jvm.ClassFile.FieldType.int) ∈ lw_g := tg_5 (List.mem_of_getElem? (i := 105) rfl) rfl
theorem kw5_106 : Jvm.Cond.methodLink "TransitGateModel" (159 : Nat) ({ cls := "TransitGateModel", name := "anew", desc := "(I)V" } : Jvm.MethodName) ∈ lw_g := tg_5 (List.mem_of_getElem? (i := 106) (by decide +kernel)) rfl
theorem kw5_108 : Jvm.Cond.instanceMethod ({ cls := "TransitGateModel", name := "anew", desc := "(I)V" } : Jvm.MethodName) ∈ lw_g := tg_5 (List.mem_of_getElem? (i := 108) (by decide +kernel)) rfl
theorem kw5_109 : Jvm.Cond.code ({ cls := "TransitGateModel", name := "anew", desc := "(I)V" } : Jvm.MethodName) prog_14_method_36_code (4 : Nat) (Option.none : Option Jvm.ClassFile.FieldType) ∈ lw_g := tg_5 (List.mem_of_getElem? (i := 109) rfl) rfl
theorem kw5_110 : Jvm.Cond.methodLink "TransitGateModel" (223 : Nat) ({ cls := "TransitGateModel", name := "goesOn", desc := "(IIZ)V" } : Jvm.MethodName) ∈ lw_g := tg_5 (List.mem_of_getElem? (i := 110) (by decide +kernel)) rfl
theorem kw5_112 : Jvm.Cond.instanceMethod ({ cls := "TransitGateModel", name := "goesOn", desc := "(IIZ)V" } : Jvm.MethodName) ∈ lw_g := tg_5 (List.mem_of_getElem? (i := 112) (by decide +kernel)) rfl
theorem kw5_113 : Jvm.Cond.code ({ cls := "TransitGateModel", name := "goesOn", desc := "(IIZ)V" } : Jvm.MethodName) prog_14_method_39_code (5 : Nat) (Option.none : Option Jvm.ClassFile.FieldType) ∈ lw_g := tg_5 (List.mem_of_getElem? (i := 113) rfl) rfl
theorem kw5_114 : Jvm.Cond.methodLink "TransitGateModel" (166 : Nat) ({ cls := "TransitGateModel", name := "becomes", desc := "(II)V" } : Jvm.MethodName) ∈ lw_g := tg_5 (List.mem_of_getElem? (i := 114) (by decide +kernel)) rfl
theorem kw5_116 : Jvm.Cond.instanceMethod ({ cls := "TransitGateModel", name := "becomes", desc := "(II)V" } : Jvm.MethodName) ∈ lw_g := tg_5 (List.mem_of_getElem? (i := 116) (by decide +kernel)) rfl
theorem kw5_117 : Jvm.Cond.code ({ cls := "TransitGateModel", name := "becomes", desc := "(II)V" } : Jvm.MethodName) prog_14_method_37_code (3 : Nat) (Option.none : Option Jvm.ClassFile.FieldType) ∈ lw_g := tg_5 (List.mem_of_getElem? (i := 117) rfl) rfl
theorem kw5_118 : Jvm.Cond.methodLink "TransitGateModel" (227 : Nat) ({ cls := "TransitGateModel", name := "makeInner", desc := "(III)V" } : Jvm.MethodName) ∈ lw_g := tg_5 (List.mem_of_getElem? (i := 118) (by decide +kernel)) rfl
theorem kw5_120 : Jvm.Cond.instanceMethod ({ cls := "TransitGateModel", name := "makeInner", desc := "(III)V" } : Jvm.MethodName) ∈ lw_g := tg_5 (List.mem_of_getElem? (i := 120) (by decide +kernel)) rfl
theorem kw5_121 : Jvm.Cond.code ({ cls := "TransitGateModel", name := "makeInner", desc := "(III)V" } : Jvm.MethodName) prog_14_method_47_code (6 : Nat) (Option.none : Option Jvm.ClassFile.FieldType) ∈ lw_g := tg_5 (List.mem_of_getElem? (i := 121) rfl) rfl
theorem kw5_122 : Jvm.Cond.constantLong "TransitGateModel" (237 : Nat) (69 : Int64) ∈ lw_g := tg_5 (List.mem_of_getElem? (i := 122) (by decide +kernel)) rfl
theorem kw5_123 : Jvm.Cond.methodLink "TransitGateModel" (239 : Nat) ({ cls := "TransitGateModel", name := "put", desc := "([BIIJ)V" } : Jvm.MethodName) ∈ lw_g := tg_5 (List.mem_of_getElem? (i := 123) (by decide +kernel)) rfl
theorem kw5_124 : Jvm.Cond.static ({ cls := "TransitGateModel", name := "put", desc := "([BIIJ)V" } : Jvm.MethodName) ∈ lw_g := tg_5 (List.mem_of_getElem? (i := 124) (by decide +kernel)) rfl
theorem kw5_125 : Jvm.Cond.code ({ cls := "TransitGateModel", name := "put", desc := "([BIIJ)V" } : Jvm.MethodName) prog_14_method_22_code (6 : Nat) (Option.none : Option Jvm.ClassFile.FieldType) ∈ lw_g := tg_5 (List.mem_of_getElem? (i := 125) rfl) rfl
theorem kw5_126 : Jvm.Cond.constantLong "TransitGateModel" (243 : Nat) (16384 : Int64) ∈ lw_g := tg_5 (List.mem_of_getElem? (i := 126) (by decide +kernel)) rfl
theorem kw5_127 : Jvm.Cond.methodLink "TransitGateModel" (245 : Nat) ({ cls := "TransitGateModel", name := "headSum", desc := "([B)I" } : Jvm.MethodName) ∈ lw_g := tg_5 (List.mem_of_getElem? (i := 127) (by decide +kernel)) rfl
theorem kw5_128 : Jvm.Cond.static ({ cls := "TransitGateModel", name := "headSum", desc := "([B)I" } : Jvm.MethodName) ∈ lw_g := tg_5 (List.mem_of_getElem? (i := 128) (by decide +kernel)) rfl
theorem kw5_129 : Jvm.Cond.code ({ cls := "TransitGateModel", name := "headSum", desc := "([B)I" } : Jvm.MethodName) prog_14_method_28_code (1 : Nat) (Option.some Jvm.ClassFile.FieldType.int) ∈ lw_g := tg_5 (List.mem_of_getElem? (i := 129) rfl) rfl
theorem kw5_130 : Jvm.Cond.constantLong "TransitGateModel" (249 : Nat) (8 : Int64) ∈ lw_g := tg_5 (List.mem_of_getElem? (i := 130) (by decide +kernel)) rfl
theorem kw5_131 : Jvm.Cond.methodLink "TransitGateLaw" (51 : Nat) ({ cls := "TransitGateModel", name := "outside", desc := "(I)I" } : Jvm.MethodName) ∈ lw_g := tg_5 (List.mem_of_getElem? (i := 131) (by decide +kernel)) rfl
theorem kw5_132 : Jvm.Cond.instanceMethod ({ cls := "TransitGateModel", name := "outside", desc := "(I)I" } : Jvm.MethodName) ∈ lw_g := tg_5 (List.mem_of_getElem? (i := 132) (by decide +kernel)) rfl
theorem kw5_133 : Jvm.Cond.selects "TransitGateModel" ({ cls := "TransitGateModel", name := "outside", desc := "(I)I" } : Jvm.MethodName) ({ cls := "TransitGateModel", name := "outside", desc := "(I)I" } : Jvm.MethodName) ∈ lw_g := tg_5 (List.mem_of_getElem? (i := 133) (by decide +kernel)) rfl
theorem kw5_134 : Jvm.Cond.code ({ cls := "TransitGateModel", name := "outside", desc := "(I)I" } : Jvm.MethodName) prog_14_method_51_code (10 : Nat) (Option.some Jvm.ClassFile.FieldType.int) ∈ lw_g := tg_5 (List.mem_of_getElem? (i := 134) rfl) rfl
theorem kw5_135 : Jvm.Cond.methodLink "TransitGateModel" (258 : Nat) ({ cls := "TransitGateModel", name := "lackOfOutside", desc := "()I" } : Jvm.MethodName) ∈ lw_g := tg_5 (List.mem_of_getElem? (i := 135) (by decide +kernel)) rfl
theorem kw5_137 : Jvm.Cond.instanceMethod ({ cls := "TransitGateModel", name := "lackOfOutside", desc := "()I" } : Jvm.MethodName) ∈ lw_g := tg_5 (List.mem_of_getElem? (i := 137) (by decide +kernel)) rfl
theorem kw5_138 : Jvm.Cond.code ({ cls := "TransitGateModel", name := "lackOfOutside", desc := "()I" } : Jvm.MethodName) prog_14_method_50_code (3 : Nat) (Option.some Jvm.ClassFile.FieldType.int) ∈ lw_g := tg_5 (List.mem_of_getElem? (i := 138) rfl) rfl
theorem kw5_139 : Jvm.Cond.methodLink "TransitGateModel" (251 : Nat) ({ cls := "TransitGateModel", name := "isError", desc := "()Z" } : Jvm.MethodName) ∈ lw_g := tg_5 (List.mem_of_getElem? (i := 139) (by decide +kernel)) rfl
theorem kw5_141 : Jvm.Cond.instanceMethod ({ cls := "TransitGateModel", name := "isError", desc := "()Z" } : Jvm.MethodName) ∈ lw_g := tg_5 (List.mem_of_getElem? (i := 141) (by decide +kernel)) rfl
theorem kw5_142 : Jvm.Cond.code ({ cls := "TransitGateModel", name := "isError", desc := "()Z" } : Jvm.MethodName) prog_14_method_48_code (1 : Nat) (Option.some Jvm.ClassFile.FieldType.boolean) ∈ lw_g := tg_5 (List.mem_of_getElem? (i := 142) rfl) rfl
theorem kw5_143 : Jvm.Cond.methodLink "TransitGateModel" (255 : Nat) ({ cls := "TransitGateModel", name := "isBadError", desc := "()Z" } : Jvm.MethodName) ∈ lw_g := tg_5 (List.mem_of_getElem? (i := 143) (by decide +kernel)) rfl
theorem kw5_145 : Jvm.Cond.instanceMethod ({ cls := "TransitGateModel", name := "isBadError", desc := "()Z" } : Jvm.MethodName) ∈ lw_g := tg_5 (List.mem_of_getElem? (i := 145) (by decide +kernel)) rfl
theorem kw5_146 : Jvm.Cond.code ({ cls := "TransitGateModel", name := "isBadError", desc := "()Z" } : Jvm.MethodName) prog_14_method_49_code (5 : Nat) (Option.some Jvm.ClassFile.FieldType.boolean) ∈ lw_g := tg_5 (List.mem_of_getElem? (i := 146) rfl) rfl
theorem kw5_147 : Jvm.Cond.methodLink "TransitGateModel" (261 : Nat) ({ cls := "TransitGateModel", name := "errorCame", desc := "()I" } : Jvm.MethodName) ∈ lw_g := tg_5 (List.mem_of_getElem? (i := 147) (by decide +kernel)) rfl
theorem kw5_149 : Jvm.Cond.instanceMethod ({ cls := "TransitGateModel", name := "errorCame", desc := "()I" } : Jvm.MethodName) ∈ lw_g := tg_5 (List.mem_of_getElem? (i := 149) (by decide +kernel)) rfl
theorem kw5_150 : Jvm.Cond.code ({ cls := "TransitGateModel", name := "errorCame", desc := "()I" } : Jvm.MethodName) prog_14_method_54_code (12 : Nat) (Option.some Jvm.ClassFile.FieldType.int) ∈ lw_g := tg_5 (List.mem_of_getElem? (i := 150) rfl) rfl
theorem kw5_151 : Jvm.Cond.methodLink "TransitGateModel" (264 : Nat) ({ cls := "TransitGateModel", name := "head", desc := "(III)V" } : Jvm.MethodName) ∈ lw_g := tg_5 (List.mem_of_getElem? (i := 151) (by decide +kernel)) rfl
theorem kw5_153 : Jvm.Cond.instanceMethod ({ cls := "TransitGateModel", name := "head", desc := "(III)V" } : Jvm.MethodName) ∈ lw_g := tg_5 (List.mem_of_getElem? (i := 153) (by decide +kernel)) rfl
theorem kw5_154 : Jvm.Cond.code ({ cls := "TransitGateModel", name := "head", desc := "(III)V" } : Jvm.MethodName) prog_14_method_52_code (4 : Nat) (Option.none : Option Jvm.ClassFile.FieldType) ∈ lw_g := tg_5 (List.mem_of_getElem? (i := 154) rfl) rfl
theorem kw5_155 : Jvm.Cond.constantLong "TransitGateModel" (274 : Nat) (1610612736 : Int64) ∈ lw_g := tg_5 (List.mem_of_getElem? (i := 155) (by decide +kernel)) rfl
theorem kw5_156 : Jvm.Cond.methodLink "TransitGateModel" (276 : Nat) ({ cls := "TransitGateModel", name := "high", desc := "(I)J" } : Jvm.MethodName) ∈ lw_g := tg_5 (List.mem_of_getElem? (i := 156) (by decide +kernel)) rfl
theorem kw5_157 : Jvm.Cond.methodLink "TransitGateModel" (280 : Nat) ({ cls := "TransitGateModel", name := "low", desc := "(I)J" } : Jvm.MethodName) ∈ lw_g := tg_5 (List.mem_of_getElem? (i := 157) (by decide +kernel)) rfl
theorem kw5_158 : Jvm.Cond.constantLong "TransitGateModel" (283 : Nat) (1280 : Int64) ∈ lw_g := tg_5 (List.mem_of_getElem? (i := 158) (by decide +kernel)) rfl
theorem kw5_159 : Jvm.Cond.constantLong "TransitGateModel" (285 : Nat) (58 : Int64) ∈ lw_g := tg_5 (List.mem_of_getElem? (i := 159) (by decide +kernel)) rfl
theorem kw5_160 : Jvm.Cond.constantLong "TransitGateModel" (267 : Nat) (128 : Int64) ∈ lw_g := tg_5 (List.mem_of_getElem? (i := 160) (by decide +kernel)) rfl
theorem kw5_161 : Jvm.Cond.methodLink "TransitGateModel" (271 : Nat) ({ cls := "TransitGateModel", name := "finish", desc := "(I)V" } : Jvm.MethodName) ∈ lw_g := tg_5 (List.mem_of_getElem? (i := 161) (by decide +kernel)) rfl
theorem kw5_163 : Jvm.Cond.instanceMethod ({ cls := "TransitGateModel", name := "finish", desc := "(I)V" } : Jvm.MethodName) ∈ lw_g := tg_5 (List.mem_of_getElem? (i := 163) (by decide +kernel)) rfl
theorem kw5_164 : Jvm.Cond.code ({ cls := "TransitGateModel", name := "finish", desc := "(I)V" } : Jvm.MethodName) prog_14_method_53_code (3 : Nat) (Option.none : Option Jvm.ClassFile.FieldType) ∈ lw_g := tg_5 (List.mem_of_getElem? (i := 164) rfl) rfl
theorem kw5_165 : Jvm.Cond.constantLong "TransitGateModel" (269 : Nat) (129 : Int64) ∈ lw_g := tg_5 (List.mem_of_getElem? (i := 165) (by decide +kernel)) rfl
theorem kw5_166 : Jvm.Cond.methodLink "TransitGateLaw" (55 : Nat) ({ cls := "TransitGateModel", name := "word", desc := "(I)I" } : Jvm.MethodName) ∈ lw_g := tg_5 (List.mem_of_getElem? (i := 166) (by decide +kernel)) rfl
theorem kw5_167 : Jvm.Cond.instanceMethod ({ cls := "TransitGateModel", name := "word", desc := "(I)I" } : Jvm.MethodName) ∈ lw_g := tg_5 (List.mem_of_getElem? (i := 167) (by decide +kernel)) rfl
theorem kw5_168 : Jvm.Cond.selects "TransitGateModel" ({ cls := "TransitGateModel", name := "word", desc := "(I)I" } : Jvm.MethodName) ({ cls := "TransitGateModel", name := "word", desc := "(I)I" } : Jvm.MethodName) ∈ lw_g := tg_5 (List.mem_of_getElem? (i := 168) (by decide +kernel)) rfl
theorem kw5_169 : Jvm.Cond.code ({ cls := "TransitGateModel", name := "word", desc := "(I)I" } : Jvm.MethodName) prog_14_method_55_code (5 : Nat) (Option.some Jvm.ClassFile.FieldType.int) ∈ lw_g := tg_5 (List.mem_of_getElem? (i := 169) rfl) rfl
theorem kw5_170 : Jvm.Cond.constantLong "TransitGateModel" (287 : Nat) (4 : Int64) ∈ lw_g := tg_5 (List.mem_of_getElem? (i := 170) (by decide +kernel)) rfl
theorem kw5_171 : Jvm.Cond.methodLink "TransitGateLaw" (60 : Nat) ({ cls := "TransitGateModel", name := "take", desc := "()I" } : Jvm.MethodName) ∈ lw_g := tg_5 (List.mem_of_getElem? (i := 171) (by decide +kernel)) rfl
theorem kw5_172 : Jvm.Cond.instanceMethod ({ cls := "TransitGateModel", name := "take", desc := "()I" } : Jvm.MethodName) ∈ lw_g := tg_5 (List.mem_of_getElem? (i := 172) (by decide +kernel)) rfl
theorem kw5_173 : Jvm.Cond.selects "TransitGateModel" ({ cls := "TransitGateModel", name := "take", desc := "()I" } : Jvm.MethodName) ({ cls := "TransitGateModel", name := "take", desc := "()I" } : Jvm.MethodName) ∈ lw_g := tg_5 (List.mem_of_getElem? (i := 173) (by decide +kernel)) rfl
theorem kw5_174 : Jvm.Cond.code ({ cls := "TransitGateModel", name := "take", desc := "()I" } : Jvm.MethodName) prog_14_method_56_code (2 : Nat) (Option.some Jvm.ClassFile.FieldType.int) ∈ lw_g := tg_5 (List.mem_of_getElem? (i := 174) rfl) rfl
theorem kw5_175 : Jvm.Cond.methodLink "TransitGateLaw" (65 : Nat) ({ cls := "TransitGateModel", name := "bend", desc := "(II)I" } : Jvm.MethodName) ∈ lw_g := tg_5 (List.mem_of_getElem? (i := 175) (by decide +kernel)) rfl
theorem kw5_176 : Jvm.Cond.instanceMethod ({ cls := "TransitGateModel", name := "bend", desc := "(II)I" } : Jvm.MethodName) ∈ lw_g := tg_5 (List.mem_of_getElem? (i := 176) (by decide +kernel)) rfl
theorem kw5_177 : Jvm.Cond.selects "TransitGateModel" ({ cls := "TransitGateModel", name := "bend", desc := "(II)I" } : Jvm.MethodName) ({ cls := "TransitGateModel", name := "bend", desc := "(II)I" } : Jvm.MethodName) ∈ lw_g := tg_5 (List.mem_of_getElem? (i := 177) (by decide +kernel)) rfl
theorem kw5_178 : Jvm.Cond.code ({ cls := "TransitGateModel", name := "bend", desc := "(II)I" } : Jvm.MethodName) prog_14_method_57_code (4 : Nat) (Option.some Jvm.ClassFile.FieldType.int) ∈ lw_g := tg_5 (List.mem_of_getElem? (i := 178) rfl) rfl
theorem kw5_179 : Jvm.Cond.methodLink "TransitGateLaw" (69 : Nat) ({ cls := "TransitGateModel", name := "sign", desc := "(II)I" } : Jvm.MethodName) ∈ lw_g := tg_5 (List.mem_of_getElem? (i := 179) (by decide +kernel)) rfl
theorem kw5_180 : Jvm.Cond.instanceMethod ({ cls := "TransitGateModel", name := "sign", desc := "(II)I" } : Jvm.MethodName) ∈ lw_g := tg_5 (List.mem_of_getElem? (i := 180) (by decide +kernel)) rfl
theorem kw5_181 : Jvm.Cond.selects "TransitGateModel" ({ cls := "TransitGateModel", name := "sign", desc := "(II)I" } : Jvm.MethodName) ({ cls := "TransitGateModel", name := "sign", desc := "(II)I" } : Jvm.MethodName) ∈ lw_g := tg_5 (List.mem_of_getElem? (i := 181) (by decide +kernel)) rfl
theorem kw5_182 : Jvm.Cond.code ({ cls := "TransitGateModel", name := "sign", desc := "(II)I" } : Jvm.MethodName) prog_14_method_58_code (6 : Nat) (Option.some Jvm.ClassFile.FieldType.int) ∈ lw_g := tg_5 (List.mem_of_getElem? (i := 182) rfl) rfl
theorem kw5_183 : Jvm.Cond.constantLong "TransitGateModel" (289 : Nat) (20 : Int64) ∈ lw_g := tg_5 (List.mem_of_getElem? (i := 183) (by decide +kernel)) rfl
theorem kw5_184 : Jvm.Cond.constantLong "TransitGateModel" (291 : Nat) (2 : Int64) ∈ lw_g := tg_5 (List.mem_of_getElem? (i := 184) (by decide +kernel)) rfl
theorem kw5_185 : Jvm.Cond.methodLink "TransitGateLaw" (73 : Nat) ({ cls := "TransitGateModel", name := "signHead", desc := "()I" } : Jvm.MethodName) ∈ lw_g := tg_5 (List.mem_of_getElem? (i := 185) (by decide +kernel)) rfl
theorem kw5_186 : Jvm.Cond.instanceMethod ({ cls := "TransitGateModel", name := "signHead", desc := "()I" } : Jvm.MethodName) ∈ lw_g := tg_5 (List.mem_of_getElem? (i := 186) (by decide +kernel)) rfl
theorem kw5_187 : Jvm.Cond.selects "TransitGateModel" ({ cls := "TransitGateModel", name := "signHead", desc := "()I" } : Jvm.MethodName) ({ cls := "TransitGateModel", name := "signHead", desc := "()I" } : Jvm.MethodName) ∈ lw_g := tg_5 (List.mem_of_getElem? (i := 187) (by decide +kernel)) rfl
theorem kw5_188 : Jvm.Cond.code ({ cls := "TransitGateModel", name := "signHead", desc := "()I" } : Jvm.MethodName) prog_14_method_59_code (2 : Nat) (Option.some Jvm.ClassFile.FieldType.int) ∈ lw_g := tg_5 (List.mem_of_getElem? (i := 188) rfl) rfl
theorem kw5_189 : Jvm.Cond.methodLink "TransitGateLaw" (81 : Nat) ({ cls := "TransitGateModel", name := "binding", desc := "(II)I" } : Jvm.MethodName) ∈ lw_g := tg_5 (List.mem_of_getElem? (i := 189) (by decide +kernel)) rfl
theorem kw5_190 : Jvm.Cond.instanceMethod ({ cls := "TransitGateModel", name := "binding", desc := "(II)I" } : Jvm.MethodName) ∈ lw_g := tg_5 (List.mem_of_getElem? (i := 190) (by decide +kernel)) rfl
theorem kw5_191 : Jvm.Cond.selects "TransitGateModel" ({ cls := "TransitGateModel", name := "binding", desc := "(II)I" } : Jvm.MethodName) ({ cls := "TransitGateModel", name := "binding", desc := "(II)I" } : Jvm.MethodName) ∈ lw_g := tg_5 (List.mem_of_getElem? (i := 191) (by decide +kernel)) rfl
theorem kw5_192 : Jvm.Cond.code ({ cls := "TransitGateModel", name := "binding", desc := "(II)I" } : Jvm.MethodName) prog_14_method_60_code (3 : Nat) (Option.some Jvm.ClassFile.FieldType.int) ∈ lw_g := tg_5 (List.mem_of_getElem? (i := 192) rfl) rfl
theorem kw5_193 : Jvm.Cond.methodLink "TransitGateLaw" (86 : Nat) ({ cls := "TransitGateModel", name := "inner", desc := "(IZ)J" } : Jvm.MethodName) ∈ lw_g := tg_5 (List.mem_of_getElem? (i := 193) (by decide +kernel)) rfl
theorem kw5_194 : Jvm.Cond.instanceMethod ({ cls := "TransitGateModel", name := "inner", desc := "(IZ)J" } : Jvm.MethodName) ∈ lw_g := tg_5 (List.mem_of_getElem? (i := 194) (by decide +kernel)) rfl
theorem kw5_195 : Jvm.Cond.selects "TransitGateModel" ({ cls := "TransitGateModel", name := "inner", desc := "(IZ)J" } : Jvm.MethodName) ({ cls := "TransitGateModel", name := "inner", desc := "(IZ)J" } : Jvm.MethodName) ∈ lw_g := tg_5 (List.mem_of_getElem? (i := 195) (by decide +kernel)) rfl
theorem kw5_196 : Jvm.Cond.code ({ cls := "TransitGateModel", name := "inner", desc := "(IZ)J" } : Jvm.MethodName) prog_14_method_61_code (3 : Nat) (Option.some Jvm.ClassFile.FieldType.long) ∈ lw_g := tg_5 (List.mem_of_getElem? (i := 196) rfl) rfl
theorem kw5_197 : Jvm.Cond.methodLink "TransitGateLaw" (90 : Nat) ({ cls := "TransitGateModel", name := "session", desc := "(II)I" } : Jvm.MethodName) ∈ lw_g := tg_5 (List.mem_of_getElem? (i := 197) (by decide +kernel)) rfl
theorem kw5_198 : Jvm.Cond.instanceMethod ({ cls := "TransitGateModel", name := "session", desc := "(II)I" } : Jvm.MethodName) ∈ lw_g := tg_5 (List.mem_of_getElem? (i := 198) (by decide +kernel)) rfl
theorem kw5_199 : Jvm.Cond.selects "TransitGateModel" ({ cls := "TransitGateModel", name := "session", desc := "(II)I" } : Jvm.MethodName) ({ cls := "TransitGateModel", name := "session", desc := "(II)I" } : Jvm.MethodName) ∈ lw_g := tg_5 (List.mem_of_getElem? (i := 199) (by decide +kernel)) rfl
theorem kw5_200 : Jvm.Cond.code ({ cls := "TransitGateModel", name := "session", desc := "(II)I" } : Jvm.MethodName) prog_14_method_62_code (3 : Nat) (Option.some Jvm.ClassFile.FieldType.int) ∈ lw_g := tg_5 (List.mem_of_getElem? (i := 200) rfl) rfl
theorem kw5_201 : Jvm.Cond.methodLink "TransitGateLaw" (94 : Nat) ({ cls := "TransitGateModel", name := "count", desc := "(I)I" } : Jvm.MethodName) ∈ lw_g := tg_5 (List.mem_of_getElem? (i := 201) (by decide +kernel)) rfl
theorem kw5_202 : Jvm.Cond.instanceMethod ({ cls := "TransitGateModel", name := "count", desc := "(I)I" } : Jvm.MethodName) ∈ lw_g := tg_5 (List.mem_of_getElem? (i := 202) (by decide +kernel)) rfl
theorem kw5_203 : Jvm.Cond.selects "TransitGateModel" ({ cls := "TransitGateModel", name := "count", desc := "(I)I" } : Jvm.MethodName) ({ cls := "TransitGateModel", name := "count", desc := "(I)I" } : Jvm.MethodName) ∈ lw_g := tg_5 (List.mem_of_getElem? (i := 203) (by decide +kernel)) rfl
theorem kw5_204 : Jvm.Cond.code ({ cls := "TransitGateModel", name := "count", desc := "(I)I" } : Jvm.MethodName) prog_14_method_63_code (2 : Nat) (Option.some Jvm.ClassFile.FieldType.int) ∈ lw_g := tg_5 (List.mem_of_getElem? (i := 204) rfl) rfl
theorem kw5_205 : Jvm.Cond.constantLong "TransitGateModel" (293 : Nat) (10 : Int64) ∈ lw_g := tg_5 (List.mem_of_getElem? (i := 205) (by decide +kernel)) rfl
theorem kw5_206 : Jvm.Cond.constantLong "TransitGateModel" (295 : Nat) (15 : Int64) ∈ lw_g := tg_5 (List.mem_of_getElem? (i := 206) (by decide +kernel)) rfl
theorem kw5_207 : Jvm.Cond.constantLong "TransitGateLaw" (13 : Nat) (4294967295 : Int64) ∈ lw_g := tg_5 (List.mem_of_getElem? (i := 207) (by decide +kernel)) rfl
theorem kw5_219 : Jvm.Cond.selects "[Ljava/lang/Object;" ({ cls := "java/lang/Object", name := "getClass", desc := "()Ljava/lang/Class;" } : Jvm.MethodName) ({ cls := "java/lang/Object", name := "getClass", desc := "()Ljava/lang/Class;" } : Jvm.MethodName) ∈ lw_g := tg_5 (List.mem_of_getElem? (i := 219) (by decide +kernel)) rfl
end
section
theorem kws_0 : Jvm.Cond.selects "TransitGate$Bytes" ({ cls := "TransitGate$Bytes", name := "putNumber", desc := "(IIJ)V" } : Jvm.MethodName) ({ cls := "TransitGate$Bytes", name := "putNumber", desc := "(IIJ)V" } : Jvm.MethodName) ∈ lw_g := tg_s (List.mem_of_getElem? (i := 0) (by decide +kernel)) rfl
theorem kws_1 : Jvm.Cond.selects "TransitGate" ({ cls := "TransitGate", name := "passFromInside", desc := "()I" } : Jvm.MethodName) ({ cls := "TransitGate", name := "passFromInside", desc := "()I" } : Jvm.MethodName) ∈ lw_g := tg_s (List.mem_of_getElem? (i := 1) (by decide +kernel)) rfl
theorem kws_2 : Jvm.Cond.selects "TransitGate$Bytes" ({ cls := "TransitGate$Bytes", name := "number", desc := "(II)J" } : Jvm.MethodName) ({ cls := "TransitGate$Bytes", name := "number", desc := "(II)J" } : Jvm.MethodName) ∈ lw_g := tg_s (List.mem_of_getElem? (i := 2) (by decide +kernel)) rfl
theorem kws_3 : Jvm.Cond.selects "TransitGate$Table" ({ cls := "TransitGate$Table", name := "byInner", desc := "(LTransitGate$Flow;JJ)LTransitGate$Binding;" } : Jvm.MethodName) ({ cls := "TransitGate$Table", name := "byInner", desc := "(LTransitGate$Flow;JJ)LTransitGate$Binding;" } : Jvm.MethodName) ∈ lw_g := tg_s (List.mem_of_getElem? (i := 3) (by decide +kernel)) rfl
theorem kws_4 : Jvm.Cond.selects "TransitGate$Table" ({ cls := "TransitGate$Table", name := "meetsSession", desc := "(LTransitGate$Binding;LTransitGate$Flow;)Z" } : Jvm.MethodName) ({ cls := "TransitGate$Table", name := "meetsSession", desc := "(LTransitGate$Binding;LTransitGate$Flow;)Z" } : Jvm.MethodName) ∈ lw_g := tg_s (List.mem_of_getElem? (i := 4) (by decide +kernel)) rfl
theorem kws_5 : Jvm.Cond.selects "TransitGate$Session" ({ cls := "TransitGate$Session", name := "stateAfter", desc := "(IZ)I" } : Jvm.MethodName) ({ cls := "TransitGate$Session", name := "stateAfter", desc := "(IZ)I" } : Jvm.MethodName) ∈ lw_g := tg_s (List.mem_of_getElem? (i := 5) (by decide +kernel)) rfl
theorem kws_6 : Jvm.Cond.selects "TransitGate$Table" ({ cls := "TransitGate$Table", name := "mayAddSession", desc := "(LTransitGate$Flow;)Z" } : Jvm.MethodName) ({ cls := "TransitGate$Table", name := "mayAddSession", desc := "(LTransitGate$Flow;)Z" } : Jvm.MethodName) ∈ lw_g := tg_s (List.mem_of_getElem? (i := 6) (by decide +kernel)) rfl
theorem kws_7 : Jvm.Cond.selects "TransitGate$Table" ({ cls := "TransitGate$Table", name := "bind", desc := "(LTransitGate$Flow;JJI)LTransitGate$Binding;" } : Jvm.MethodName) ({ cls := "TransitGate$Table", name := "bind", desc := "(LTransitGate$Flow;JJI)LTransitGate$Binding;" } : Jvm.MethodName) ∈ lw_g := tg_s (List.mem_of_getElem? (i := 7) (by decide +kernel)) rfl
theorem kws_8 : Jvm.Cond.selects "TransitGate$Table" ({ cls := "TransitGate$Table", name := "numberFor", desc := "(JJI)I" } : Jvm.MethodName) ({ cls := "TransitGate$Table", name := "numberFor", desc := "(JJI)I" } : Jvm.MethodName) ∈ lw_g := tg_s (List.mem_of_getElem? (i := 8) (by decide +kernel)) rfl
theorem kws_9 : Jvm.Cond.selects "TransitGate$Table" ({ cls := "TransitGate$Table", name := "bindingsAt", desc := "(I)I" } : Jvm.MethodName) ({ cls := "TransitGate$Table", name := "bindingsAt", desc := "(I)I" } : Jvm.MethodName) ∈ lw_g := tg_s (List.mem_of_getElem? (i := 9) (by decide +kernel)) rfl
theorem kws_10 : Jvm.Cond.selects "TransitGate$Table" ({ cls := "TransitGate$Table", name := "freePort", desc := "(LTransitGate$Flow;I)I" } : Jvm.MethodName) ({ cls := "TransitGate$Table", name := "freePort", desc := "(LTransitGate$Flow;I)I" } : Jvm.MethodName) ∈ lw_g := tg_s (List.mem_of_getElem? (i := 10) (by decide +kernel)) rfl
theorem kws_11 : Jvm.Cond.selects "java/util/ArrayList" ({ cls := "java/util/ArrayList", name := "add", desc := "(Ljava/lang/Object;[Ljava/lang/Object;I)V" } : Jvm.MethodName) ({ cls := "java/util/ArrayList", name := "add", desc := "(Ljava/lang/Object;[Ljava/lang/Object;I)V" } : Jvm.MethodName) ∈ lw_g := tg_s (List.mem_of_getElem? (i := 11) (by decide +kernel)) rfl
theorem kws_12 : Jvm.Cond.selects "java/util/ArrayList" ({ cls := "java/util/ArrayList", name := "grow", desc := "()[Ljava/lang/Object;" } : Jvm.MethodName) ({ cls := "java/util/ArrayList", name := "grow", desc := "()[Ljava/lang/Object;" } : Jvm.MethodName) ∈ lw_g := tg_s (List.mem_of_getElem? (i := 12) (by decide +kernel)) rfl
theorem kws_13 : Jvm.Cond.selects "java/util/ArrayList" ({ cls := "java/util/ArrayList", name := "grow", desc := "(I)[Ljava/lang/Object;" } : Jvm.MethodName) ({ cls := "java/util/ArrayList", name := "grow", desc := "(I)[Ljava/lang/Object;" } : Jvm.MethodName) ∈ lw_g := tg_s (List.mem_of_getElem? (i := 13) (by decide +kernel)) rfl
theorem kws_14 : Jvm.Cond.selects "TransitGate" ({ cls := "TransitGate", name := "closePacket", desc := "(I)I" } : Jvm.MethodName) ({ cls := "TransitGate", name := "closePacket", desc := "(I)I" } : Jvm.MethodName) ∈ lw_g := tg_s (List.mem_of_getElem? (i := 14) (by decide +kernel)) rfl
theorem kws_15 : Jvm.Cond.selects "TransitGate" ({ cls := "TransitGate", name := "passFromOutside", desc := "()I" } : Jvm.MethodName) ({ cls := "TransitGate", name := "passFromOutside", desc := "()I" } : Jvm.MethodName) ∈ lw_g := tg_s (List.mem_of_getElem? (i := 15) (by decide +kernel)) rfl
theorem kws_16 : Jvm.Cond.selects "TransitGate" ({ cls := "TransitGate", name := "passError", desc := "()I" } : Jvm.MethodName) ({ cls := "TransitGate", name := "passError", desc := "()I" } : Jvm.MethodName) ∈ lw_g := tg_s (List.mem_of_getElem? (i := 16) (by decide +kernel)) rfl
theorem kws_17 : Jvm.Cond.selects "java/util/ArrayList" ({ cls := "java/util/ArrayList", name := "fastRemove", desc := "([Ljava/lang/Object;I)V" } : Jvm.MethodName) ({ cls := "java/util/ArrayList", name := "fastRemove", desc := "([Ljava/lang/Object;I)V" } : Jvm.MethodName) ∈ lw_g := tg_s (List.mem_of_getElem? (i := 17) (by decide +kernel)) rfl
theorem kws_18 : Jvm.Cond.selects "TransitGate$Table" ({ cls := "TransitGate$Table", name := "letIdleBindingsGo", desc := "()V" } : Jvm.MethodName) ({ cls := "TransitGate$Table", name := "letIdleBindingsGo", desc := "()V" } : Jvm.MethodName) ∈ lw_g := tg_s (List.mem_of_getElem? (i := 18) (by decide +kernel)) rfl
theorem kws_19 : Jvm.Cond.selects "TransitGateModel" ({ cls := "TransitGateModel", name := "poolOf", desc := "(I)I" } : Jvm.MethodName) ({ cls := "TransitGateModel", name := "poolOf", desc := "(I)I" } : Jvm.MethodName) ∈ lw_g := tg_s (List.mem_of_getElem? (i := 19) (by decide +kernel)) rfl
theorem kws_20 : Jvm.Cond.selects "TransitGateModel" ({ cls := "TransitGateModel", name := "placeOf", desc := "(I)I" } : Jvm.MethodName) ({ cls := "TransitGateModel", name := "placeOf", desc := "(I)I" } : Jvm.MethodName) ∈ lw_g := tg_s (List.mem_of_getElem? (i := 20) (by decide +kernel)) rfl
theorem kws_21 : Jvm.Cond.selects "TransitGateModel" ({ cls := "TransitGateModel", name := "isOfPrefix", desc := "(JJ)Z" } : Jvm.MethodName) ({ cls := "TransitGateModel", name := "isOfPrefix", desc := "(JJ)Z" } : Jvm.MethodName) ∈ lw_g := tg_s (List.mem_of_getElem? (i := 21) (by decide +kernel)) rfl
theorem kws_22 : Jvm.Cond.selects "TransitGateModel" ({ cls := "TransitGateModel", name := "drawnOf", desc := "(JJ)I" } : Jvm.MethodName) ({ cls := "TransitGateModel", name := "drawnOf", desc := "(JJ)I" } : Jvm.MethodName) ∈ lw_g := tg_s (List.mem_of_getElem? (i := 22) (by decide +kernel)) rfl
theorem kws_23 : Jvm.Cond.selects "TransitGateModel" ({ cls := "TransitGateModel", name := "sweep", desc := "()I" } : Jvm.MethodName) ({ cls := "TransitGateModel", name := "sweep", desc := "()I" } : Jvm.MethodName) ∈ lw_g := tg_s (List.mem_of_getElem? (i := 23) (by decide +kernel)) rfl
theorem kws_24 : Jvm.Cond.selects "TransitGateModel" ({ cls := "TransitGateModel", name := "sessionsOf", desc := "(I)I" } : Jvm.MethodName) ({ cls := "TransitGateModel", name := "sessionsOf", desc := "(I)I" } : Jvm.MethodName) ∈ lw_g := tg_s (List.mem_of_getElem? (i := 24) (by decide +kernel)) rfl
theorem kws_25 : Jvm.Cond.selects "TransitGateModel" ({ cls := "TransitGateModel", name := "dropBinding", desc := "(I)V" } : Jvm.MethodName) ({ cls := "TransitGateModel", name := "dropBinding", desc := "(I)V" } : Jvm.MethodName) ∈ lw_g := tg_s (List.mem_of_getElem? (i := 25) (by decide +kernel)) rfl
theorem kws_26 : Jvm.Cond.selects "TransitGateModel" ({ cls := "TransitGateModel", name := "begin", desc := "(I)V" } : Jvm.MethodName) ({ cls := "TransitGateModel", name := "begin", desc := "(I)V" } : Jvm.MethodName) ∈ lw_g := tg_s (List.mem_of_getElem? (i := 26) (by decide +kernel)) rfl
theorem kws_27 : Jvm.Cond.selects "TransitGateModel" ({ cls := "TransitGateModel", name := "lackOfInside", desc := "()I" } : Jvm.MethodName) ({ cls := "TransitGateModel", name := "lackOfInside", desc := "()I" } : Jvm.MethodName) ∈ lw_g := tg_s (List.mem_of_getElem? (i := 27) (by decide +kernel)) rfl
theorem kws_28 : Jvm.Cond.selects "TransitGateModel" ({ cls := "TransitGateModel", name := "isBadPart", desc := "(II)Z" } : Jvm.MethodName) ({ cls := "TransitGateModel", name := "isBadPart", desc := "(II)Z" } : Jvm.MethodName) ∈ lw_g := tg_s (List.mem_of_getElem? (i := 28) (by decide +kernel)) rfl
theorem kws_29 : Jvm.Cond.selects "TransitGateModel" ({ cls := "TransitGateModel", name := "isRight", desc := "(II)Z" } : Jvm.MethodName) ({ cls := "TransitGateModel", name := "isRight", desc := "(II)Z" } : Jvm.MethodName) ∈ lw_g := tg_s (List.mem_of_getElem? (i := 29) (by decide +kernel)) rfl
theorem kws_30 : Jvm.Cond.selects "TransitGateModel" ({ cls := "TransitGateModel", name := "drops", desc := "(I)I" } : Jvm.MethodName) ({ cls := "TransitGateModel", name := "drops", desc := "(I)I" } : Jvm.MethodName) ∈ lw_g := tg_s (List.mem_of_getElem? (i := 30) (by decide +kernel)) rfl
theorem kws_31 : Jvm.Cond.selects "TransitGateModel" ({ cls := "TransitGateModel", name := "findInner", desc := "(IJJI)I" } : Jvm.MethodName) ({ cls := "TransitGateModel", name := "findInner", desc := "(IJJI)I" } : Jvm.MethodName) ∈ lw_g := tg_s (List.mem_of_getElem? (i := 31) (by decide +kernel)) rfl
theorem kws_32 : Jvm.Cond.selects "TransitGateModel" ({ cls := "TransitGateModel", name := "findSession", desc := "(III)I" } : Jvm.MethodName) ({ cls := "TransitGateModel", name := "findSession", desc := "(III)I" } : Jvm.MethodName) ∈ lw_g := tg_s (List.mem_of_getElem? (i := 32) (by decide +kernel)) rfl
theorem kws_33 : Jvm.Cond.selects "TransitGateModel" ({ cls := "TransitGateModel", name := "makeBinding", desc := "(IJJI)I" } : Jvm.MethodName) ({ cls := "TransitGateModel", name := "makeBinding", desc := "(IJJI)I" } : Jvm.MethodName) ∈ lw_g := tg_s (List.mem_of_getElem? (i := 33) (by decide +kernel)) rfl
theorem kws_34 : Jvm.Cond.selects "TransitGateModel" ({ cls := "TransitGateModel", name := "bestPool", desc := "(JJ)I" } : Jvm.MethodName) ({ cls := "TransitGateModel", name := "bestPool", desc := "(JJ)I" } : Jvm.MethodName) ∈ lw_g := tg_s (List.mem_of_getElem? (i := 34) (by decide +kernel)) rfl
theorem kws_35 : Jvm.Cond.selects "TransitGateModel" ({ cls := "TransitGateModel", name := "findOuter", desc := "(III)I" } : Jvm.MethodName) ({ cls := "TransitGateModel", name := "findOuter", desc := "(III)I" } : Jvm.MethodName) ∈ lw_g := tg_s (List.mem_of_getElem? (i := 35) (by decide +kernel)) rfl
theorem kws_36 : Jvm.Cond.selects "TransitGateModel" ({ cls := "TransitGateModel", name := "makeSession", desc := "(IIIZ)I" } : Jvm.MethodName) ({ cls := "TransitGateModel", name := "makeSession", desc := "(IIIZ)I" } : Jvm.MethodName) ∈ lw_g := tg_s (List.mem_of_getElem? (i := 36) (by decide +kernel)) rfl
theorem kws_37 : Jvm.Cond.selects "TransitGateModel" ({ cls := "TransitGateModel", name := "anew", desc := "(I)V" } : Jvm.MethodName) ({ cls := "TransitGateModel", name := "anew", desc := "(I)V" } : Jvm.MethodName) ∈ lw_g := tg_s (List.mem_of_getElem? (i := 37) (by decide +kernel)) rfl
theorem kws_38 : Jvm.Cond.selects "TransitGateModel" ({ cls := "TransitGateModel", name := "goesOn", desc := "(IIZ)V" } : Jvm.MethodName) ({ cls := "TransitGateModel", name := "goesOn", desc := "(IIZ)V" } : Jvm.MethodName) ∈ lw_g := tg_s (List.mem_of_getElem? (i := 38) (by decide +kernel)) rfl
theorem kws_39 : Jvm.Cond.selects "TransitGateModel" ({ cls := "TransitGateModel", name := "becomes", desc := "(II)V" } : Jvm.MethodName) ({ cls := "TransitGateModel", name := "becomes", desc := "(II)V" } : Jvm.MethodName) ∈ lw_g := tg_s (List.mem_of_getElem? (i := 39) (by decide +kernel)) rfl
theorem kws_40 : Jvm.Cond.selects "TransitGateModel" ({ cls := "TransitGateModel", name := "makeInner", desc := "(III)V" } : Jvm.MethodName) ({ cls := "TransitGateModel", name := "makeInner", desc := "(III)V" } : Jvm.MethodName) ∈ lw_g := tg_s (List.mem_of_getElem? (i := 40) (by decide +kernel)) rfl
theorem kws_41 : Jvm.Cond.selects "TransitGateModel" ({ cls := "TransitGateModel", name := "lackOfOutside", desc := "()I" } : Jvm.MethodName) ({ cls := "TransitGateModel", name := "lackOfOutside", desc := "()I" } : Jvm.MethodName) ∈ lw_g := tg_s (List.mem_of_getElem? (i := 41) (by decide +kernel)) rfl
theorem kws_42 : Jvm.Cond.selects "TransitGateModel" ({ cls := "TransitGateModel", name := "isError", desc := "()Z" } : Jvm.MethodName) ({ cls := "TransitGateModel", name := "isError", desc := "()Z" } : Jvm.MethodName) ∈ lw_g := tg_s (List.mem_of_getElem? (i := 42) (by decide +kernel)) rfl
theorem kws_43 : Jvm.Cond.selects "TransitGateModel" ({ cls := "TransitGateModel", name := "isBadError", desc := "()Z" } : Jvm.MethodName) ({ cls := "TransitGateModel", name := "isBadError", desc := "()Z" } : Jvm.MethodName) ∈ lw_g := tg_s (List.mem_of_getElem? (i := 43) (by decide +kernel)) rfl
theorem kws_44 : Jvm.Cond.selects "TransitGateModel" ({ cls := "TransitGateModel", name := "errorCame", desc := "()I" } : Jvm.MethodName) ({ cls := "TransitGateModel", name := "errorCame", desc := "()I" } : Jvm.MethodName) ∈ lw_g := tg_s (List.mem_of_getElem? (i := 44) (by decide +kernel)) rfl
theorem kws_45 : Jvm.Cond.selects "TransitGateModel" ({ cls := "TransitGateModel", name := "head", desc := "(III)V" } : Jvm.MethodName) ({ cls := "TransitGateModel", name := "head", desc := "(III)V" } : Jvm.MethodName) ∈ lw_g := tg_s (List.mem_of_getElem? (i := 45) (by decide +kernel)) rfl
theorem kws_46 : Jvm.Cond.selects "TransitGateModel" ({ cls := "TransitGateModel", name := "finish", desc := "(I)V" } : Jvm.MethodName) ({ cls := "TransitGateModel", name := "finish", desc := "(I)V" } : Jvm.MethodName) ∈ lw_g := tg_s (List.mem_of_getElem? (i := 46) (by decide +kernel)) rfl
theorem iFX0 : ∀ w ∈ u_ws RX0 TX0 6, w ∈ lw_g := by
  have h : ∀ w ∈ u_ws RX0 TX0 6, w ∈ lw_tbl ∧ goodWord w = true := by decide +kernel
  exact fun w hw => List.mem_filter.mpr (h w hw)
theorem iFX1 : ∀ w ∈ u_ws RX1 TX1 2, w ∈ lw_g := by
  have h : ∀ w ∈ u_ws RX1 TX1 2, w ∈ lw_tbl ∧ goodWord w = true := by decide +kernel
  exact fun w hw => List.mem_filter.mpr (h w hw)
theorem iFX2 : ∀ w ∈ u_ws RX2 TX2 6, w ∈ lw_g := by
  have h : ∀ w ∈ u_ws RX2 TX2 6, w ∈ lw_tbl ∧ goodWord w = true := by decide +kernel
  exact fun w hw => List.mem_filter.mpr (h w hw)
theorem iFX5 : ∀ w ∈ u_ws RX5 TX5 2, w ∈ lw_g := by
  have h : ∀ w ∈ u_ws RX5 TX5 2, w ∈ lw_tbl ∧ goodWord w = true := by decide +kernel
  exact fun w hw => List.mem_filter.mpr (h w hw)
theorem iFX7 : ∀ w ∈ u_ws RX7 TX7 5, w ∈ lw_g := by
  have h : ∀ w ∈ u_ws RX7 TX7 5, w ∈ lw_tbl ∧ goodWord w = true := by decide +kernel
  exact fun w hw => List.mem_filter.mpr (h w hw)
theorem iFX8 : ∀ w ∈ u_ws RX8 TX8 4, w ∈ lw_g := by
  have h : ∀ w ∈ u_ws RX8 TX8 4, w ∈ lw_tbl ∧ goodWord w = true := by decide +kernel
  exact fun w hw => List.mem_filter.mpr (h w hw)
theorem iFX10 : ∀ w ∈ u_ws RX10 TX10 3, w ∈ lw_g := by
  have h : ∀ w ∈ u_ws RX10 TX10 3, w ∈ lw_tbl ∧ goodWord w = true := by decide +kernel
  exact fun w hw => List.mem_filter.mpr (h w hw)
theorem iFX11 : ∀ w ∈ u_ws RX11 TX11 8, w ∈ lw_g := by
  have h : ∀ w ∈ u_ws RX11 TX11 8, w ∈ lw_tbl ∧ goodWord w = true := by decide +kernel
  exact fun w hw => List.mem_filter.mpr (h w hw)
theorem iFX12 : ∀ w ∈ u_ws RX12 TX12 28, w ∈ lw_g := by
  have h : ∀ w ∈ u_ws RX12 TX12 28, w ∈ lw_tbl ∧ goodWord w = true := by decide +kernel
  exact fun w hw => List.mem_filter.mpr (h w hw)
theorem iFJx4a65c : ∀ w ∈ u_ws RJx4a65c TJx4a65c 3, w ∈ lw_g := by
  have h : ∀ w ∈ u_ws RJx4a65c TJx4a65c 3, w ∈ lw_tbl ∧ goodWord w = true := by decide +kernel
  exact fun w hw => List.mem_filter.mpr (h w hw)
end
section
/-! BASE: contracts in two forms (RO: nothing is written; WR: the world becomes another), rows over natural numbers, bytes -/
abbrev TYS (cy : Nat → ClassId) : List (ClassId × FieldType) := [(cy 0, .byte), (cy 1, .int), (cy 2, .long), (cy 3, .object "java/lang/Object")]
abbrev rmo (f n : Nat) : Room := { frames := f, cells := 0, slots := 0, locals := n }
abbrev rmw (f mc ms n : Nat) : Room := { frames := f, cells := mc, slots := ms, locals := n }
/-- a method that only reads: with the world ws it answers r, and the heap is as it was -/
def RO (l : Launch) (y : MethodName) (bytes : ByteArray) (maxL : Nat) (ret : Option FieldType) (f n : Nat) (av : List Value) (D : va_G) (cy : Nat → ClassId) (ws : va_W) (r : Value) : Prop :=
  Met l y (Cond.code y bytes maxL ret :: lw_g) (rmo f n) (va_Pc av (fun U => va_P D vwCl ws U.heap ∧ va_K D vwCl (TYS cy) U)) (k2_QcV r) 0 0 (fun _ => False)
/-- how a method that writes ends: with u, an answer, a fact and a world -/
def WQ {S : Type} (D : va_G) (A : Nat → Prop) (r : S → Option Value) (ph : S → Prop) (wf : S → va_W) : Array Value → State → Outcome → State → Prop :=
  fun _ st o t => (∃ u : S, o = .returned (r u) ∧ ph u ∧ va_P D vwCl (wf u) t.heap ∧ va_D A (wf u)) ∧ va_F A st t
def WR {S : Type} (l : Launch) (y : MethodName) (bytes : ByteArray) (maxL : Nat) (ret : Option FieldType) (f mc ms n : Nat) (av : List Value) (D : va_G) (cy : Nat → ClassId) (ws : va_W) (r : S → Option Value) (ph : S → Prop) (wf : S → va_W) : Prop :=
  ∀ sz : Nat, Met l y (Cond.code y bytes maxL ret :: lw_g) (rmw f mc ms n) (va_Pc av (fun U => U.heap.size = sz ∧ va_P D vwCl ws U.heap ∧ va_K D vwCl (TYS cy) U ∧ va_D (fun _ => True) ws)) (WQ D (va_A ws sz) r ph wf) mc ms (va_A ws sz)
/-- what the tables say of a method that is called on an object of the class C -/
def YV (C : String) (y : MethodName) (bytes : ByteArray) (maxL : Nat) (ret : Option FieldType) (n : Nat) : Prop :=
  Cond.instanceMethod y ∈ lw_g ∧ Cond.selects C y y ∈ lw_g ∧ Cond.initialized C ∈ lw_g ∧ Cond.code y bytes maxL ret ∈ lw_g ∧ (y.cls = C ∧ y.cls ≠ "java/lang/invoke/MethodHandle" ∧ y.cls ≠ "java/lang/invoke/VarHandle" ∧ (parseMethodDescriptor y.desc).map (fun d => d.parameters.length) = some n)
def YS (y : MethodName) (bytes : ByteArray) (maxL : Nat) (ret : Option FieldType) (n : Nat) : Prop :=
  Cond.static y ∈ lw_g ∧ Cond.initialized y.cls ∈ lw_g ∧ Cond.code y bytes maxL ret ∈ lw_g ∧ (y.cls ≠ "java/lang/invoke/MethodHandle" ∧ y.cls ≠ "java/lang/invoke/VarHandle" ∧ (parseMethodDescriptor y.desc).map (fun d => d.parameters.length) = some n)
def YI (y : MethodName) (bytes : ByteArray) (maxL : Nat) (n : Nat) : Prop :=
  Cond.instanceMethod y ∈ lw_g ∧ Cond.initialized y.cls ∈ lw_g ∧ Cond.code y bytes maxL none ∈ lw_g ∧ y.name = "<init>" ∧ (y.cls ≠ "java/lang/invoke/MethodHandle" ∧ y.cls ≠ "java/lang/invoke/VarHandle" ∧ (parseMethodDescriptor y.desc).map (fun d => d.parameters.length) = some n)
theorem RO.of {l : Launch} {y : MethodName} {bytes : ByteArray} {maxL : Nat} {ret : Option FieldType} {f n : Nat} {av : List Value} {D : va_G} {cy : Nat → ClassId} {ws : va_W} {r : Value} {lv0 : List (Nat × Value)} (hy : plainName y.cls = true) (h0 : lv_args 0 av = lv0) (hn : (lg_sl av).length ≤ maxL)
    (body : ∀ (p : Program) (e : Env) (s : State) (m : MethodId) (args : Array Value) (below : List Frame) (meth : Method) (c : Code) (ls : Array Slot), CallFix p m c bytes maxL s args (Cond.code y bytes maxL ret :: lw_g) y.cls → meth.sig.returnType = ret → meth.locks = false → va_P D vwCl ws s.heap → va_K D vwCl (TYS cy) s → lv_has ls maxL lv0 → W p l e (rmo f n) s m args below meth c s.heap [] 0 0 (MQ below (k2_QcV r) args s 0 0 (fun _ => False)) (F0 m 0 ls [])) : RO l y bytes maxL ret f n av D cy ws r := by
  refine Met.ofW (cc := bytes) (maxL := maxL) (ret := ret) hy rfl ?_
  intro p e s m args below meth c s₁ B hml hv
  obtain ⟨rfl, hP, hK⟩ := hv
  rw [lg_entry_eq]
  exact body p e s m _ below meth c _ ⟨B.exec, B.bytes, hml, findClass_of_methodNamed B.named, atoms_spec (ws := Cond.code y bytes maxL ret :: lw_g) B.pre⟩ B.returns B.notSynchronized hP hK (h0 ▸ lv_entry av hn)
theorem WR.of {S : Type} {l : Launch} {y : MethodName} {bytes : ByteArray} {maxL : Nat} {ret : Option FieldType} {f mc ms n : Nat} {av : List Value} {D : va_G} {cy : Nat → ClassId} {ws : va_W} {r : S → Option Value} {ph : S → Prop} {wf : S → va_W} {lv0 : List (Nat × Value)} (hy : plainName y.cls = true) (h0 : lv_args 0 av = lv0) (hn : (lg_sl av).length ≤ maxL)
    (body : ∀ (p : Program) (e : Env) (s : State) (m : MethodId) (args : Array Value) (below : List Frame) (meth : Method) (c : Code) (ls : Array Slot) (A : Nat → Prop), CallFix p m c bytes maxL s args (Cond.code y bytes maxL ret :: lw_g) y.cls → meth.sig.returnType = ret → meth.locks = false → meth.name = y.name → va_P D vwCl ws s.heap → va_K D vwCl (TYS cy) s → va_D A ws → va_S A s.heap s.heap [] → (∀ q : Nat, s.heap.size ≤ q → A q) → lv_has ls maxL lv0 → W p l e (rmw f mc ms n) s m args below meth c s.heap [] 0 0 (MQ below (WQ D A r ph wf) args s mc ms A) (F0 m 0 ls [])) : WR l y bytes maxL ret f mc ms n av D cy ws r ph wf := by
  intro sz
  refine Met.ofW (cc := bytes) (maxL := maxL) (ret := ret) hy rfl ?_
  intro p e s m args below meth c s₁ B hml hv
  obtain ⟨rfl, hsz, hP, hK, hD⟩ := hv
  subst hsz
  rw [lg_entry_eq]
  exact body p e s m _ below meth c _ (va_A ws s.heap.size) ⟨B.exec, B.bytes, hml, findClass_of_methodNamed B.named, atoms_spec (ws := Cond.code y bytes maxL ret :: lw_g) B.pre⟩ B.returns B.notSynchronized (name_of_methodNamed B.named B.method).1 hP hK hD.self va_S.rf (fun q h => Or.inr h) (h0 ▸ lv_entry av hn)
section BS
variable {p : Program} {l : Launch} {e : Env} {R : Room} {s : State} {m : MethodId} {args : Array Value} {below : List Frame} {meth : Method} {c : Code} {H : Heap} {locs : List Loc} {cells slots : Nat} {Q : State → Prop}
variable {cc : ByteArray} {pc : Nat} {ls : Array Slot} {rest : List Value} {D : va_G} {cy : Nat → ClassId} {ws : va_W} {A : Nat → Prop} {H0 : Heap}
variable {y : MethodName} {bytes : ByteArray} {maxL nL n index f lo mc ms : Nat} {ret : Option FieldType} {own C : String} {b : Addr} {As st : List Value} {cd : Cond} {r : Value}
/-! calls of what only reads -/
theorem pre_ro {av : List Value} (hK : va_K D vwCl (TYS cy) s) (hP : va_P D vwCl ws H) : PreS s H (va_Pc av (fun U => va_P D vwCl ws U.heap ∧ va_K D vwCl (TYS cy) U)) av :=
  ⟨fun a U g mk q => ⟨q.1, q.2.1, va_K.moved (u := U) (U := U.calling g mk a) (Vm.Alike.refl U.vm) q.2.2⟩, fun U hU hW => ⟨rfl, by rw [hU]; exact hP, va_K.moved hW.alike hK⟩⟩
theorem ro_V (S : CallFix p m c cc nL s args (cd :: lw_g) own) (hM : RO l y bytes maxL ret f lo (.ref b :: As) D cy ws r) (hl : Cond.methodLink own index y ∈ lw_g) (hy : YV C y bytes maxL ret n) (hR : f + 1 ≤ R.frames ∧ 8 + (maxL + 11) + lo ≤ R.locals) (hK : va_K D vwCl (TYS cy) s) (hP : va_P D vwCl ws H)
    (hr : ∃ cell : Cell, H[b]? = some cell ∧ cell.vm.isStatics = false ∧ s.vm.findClass C = some cell.cls) (hn : As.length = n) (hsz : ls.size = nL) (hst : st = As.reverse ++ .ref b :: rest) (hw : (rest.map fun v => v.category).sum ≤ 8) (hdg : decode cc pc = .ok (.invokevirtual index, 3)) (hcs : cells ≤ R.cells ∧ slots ≤ R.slots)
    (kk : W p l e R s m args below meth c H locs cells slots Q (F0 m (pc + 3) ls (r :: rest))) : W p l e R s m args below meth c H locs cells slots Q (F0 m pc ls st) :=
  W.callV (W.runV (C := C) S hM (cwV n S.2.2.2.2 (tb_in (tb_Vm hl hy.1 hy.2.1 hy.2.2.1 hy.2.2.2.1)) rfl rfl rfl hy.2.2.2.2 hR) ⟨(pre_ro hK hP).1, hr, (pre_ro hK hP).2⟩ rfl hn hsz hst (lv_room hw) hdg hcs) kk
theorem ro_S (S : CallFix p m c cc nL s args (cd :: lw_g) own) (hM : RO l y bytes maxL ret f lo As D cy ws r) (hl : Cond.methodLink own index y ∈ lw_g) (hy : YS y bytes maxL ret n) (hR : f + 1 ≤ R.frames ∧ 8 + (maxL + 11) + lo ≤ R.locals) (hK : va_K D vwCl (TYS cy) s) (hP : va_P D vwCl ws H)
    (hn : As.length = n) (hsz : ls.size = nL) (hst : st = As.reverse ++ rest) (hw : (rest.map fun v => v.category).sum ≤ 8) (hdg : decode cc pc = .ok (.invokestatic index, 3)) (hcs : cells ≤ R.cells ∧ slots ≤ R.slots)
    (kk : W p l e R s m args below meth c H locs cells slots Q (F0 m (pc + 3) ls (r :: rest))) : W p l e R s m args below meth c H locs cells slots Q (F0 m pc ls st) :=
  W.callV (W.runS S hM (va_cwS n S.2.2.2.2 (tb_in (tb_Sm hl hy.1 hy.2.1 hy.2.2.1)) rfl rfl rfl hy.2.2.2 hR) (pre_ro hK hP) rfl hn hsz hst (lv_room hw) hdg hcs) kk
/-! calls of what writes -/
theorem pre_wr {av : List Value} {sz : Nat} (hsz : H.size = sz) (hK : va_K D vwCl (TYS cy) s) (hP : va_P D vwCl ws H) (hD : va_D A ws) : PreS s H (va_Pc av (fun U => U.heap.size = sz ∧ va_P D vwCl ws U.heap ∧ va_K D vwCl (TYS cy) U ∧ va_D (fun _ => True) ws)) av :=
  ⟨fun a U g mk q => ⟨q.1, q.2.1, q.2.2.1, va_K.moved (u := U) (U := U.calling g mk a) (Vm.Alike.refl U.vm) q.2.2.2.1, q.2.2.2.2⟩, fun U hU hW => ⟨rfl, by rw [hU]; exact hsz, by rw [hU]; exact hP, va_K.moved hW.alike hK, hD.weaken (fun _ _ _ _ => trivial)⟩⟩
theorem wr_free (hD : va_D A ws) (hS : va_S A H0 H locs) (hA : ∀ q : Nat, H0.size ≤ q → A q) : ∀ q, va_A ws H.size q → A q := fun q h => h.elim (fun ⟨k, e, he⟩ => hD.2 k (q, e) he) (fun h => hA q (Nat.le_trans hS.1 h))
theorem wr_D {A1 : Nat → Prop} {w : va_W} (h : va_D A1 w) (hA : ∀ q, A1 q → A q) : va_D A w := ⟨h.1, fun k q hk => hA _ (h.2 k q hk)⟩
theorem wr_run {S : Type} {a : Array Value} {rr : S → Option Value} {ph : S → Prop} {wf : S → va_W} (hr : va_Run p l e R s m args below meth c H locs cells slots mc ms (F0 m pc ls st) rest (WQ D (va_A ws H.size) rr ph wf a) (va_A ws H.size)) (hS : va_S A H0 H locs) (hF : ∀ q, va_A ws H.size q → A q)
    (kk : ∀ (u : S) (H1 : Heap) (locs1 : List Loc), ph u → va_P D vwCl (wf u) H1 → va_D A (wf u) → va_S A H0 H1 locs1 → W p l e R s m args below meth c H1 locs1 (cells + mc) (slots + ms) Q (F0 m (pc + 3) ls ((rr u).toList ++ rest))) : W p l e R s m args below meth c H locs cells slots Q (F0 m pc ls st) := by
  intro T hT X
  obtain ⟨v, st₀, t, T', L, h0, X', hL, e1, e2, ⟨⟨u, hv, hp, hb, hd⟩, hz, hk⟩, stp⟩ := hr T hT X
  cases hv
  rw [h0] at hz hk
  obtain ⟨t2, a1, b1⟩ := kk u T'.heap (locs ++ L) hp (by rw [e1]; exact hb) (wr_D hd hF)
    ⟨Nat.le_trans hS.1 (by rw [e1]; exact hz), fun q h1 h2 => by rw [e1, hk q (Nat.lt_of_lt_of_le h1 hS.1) (fun z => h2 (hF q z))]; exact hS.2.1 q h1 h2, fun q hq => by
      rcases List.mem_append.mp hq with h | h
      · exact hS.2.2 q h
      · exact hF _ (hL q h)⟩ T' rfl X'
  exact ⟨t2, stp t2 a1, b1⟩
theorem wr_V {S0 : Type} {rr : S0 → Option Value} {ph : S0 → Prop} {wf : S0 → va_W} (S : CallFix p m c cc nL s args (cd :: lw_g) own) (hM : WR l y bytes maxL ret f mc ms lo (.ref b :: As) D cy ws rr ph wf) (hl : Cond.methodLink own index y ∈ lw_g) (hy : YV C y bytes maxL ret n) (hR : f + 1 ≤ R.frames ∧ 8 + (maxL + 11) + lo ≤ R.locals) (hK : va_K D vwCl (TYS cy) s) (hP : va_P D vwCl ws H) (hD : va_D A ws) (hS : va_S A H0 H locs) (hA : ∀ q : Nat, H0.size ≤ q → A q)
    (hr : ∃ cell : Cell, H[b]? = some cell ∧ cell.vm.isStatics = false ∧ s.vm.findClass C = some cell.cls) (hn : As.length = n) (hsz : ls.size = nL) (hst : st = As.reverse ++ .ref b :: rest) (hw : (rest.map fun v => v.category).sum ≤ 8) (hdg : decode cc pc = .ok (.invokevirtual index, 3)) (hcs : cells + mc ≤ R.cells ∧ slots + ms ≤ R.slots)
    (kk : ∀ (u : S0) (H1 : Heap) (locs1 : List Loc), ph u → va_P D vwCl (wf u) H1 → va_D A (wf u) → va_S A H0 H1 locs1 → W p l e R s m args below meth c H1 locs1 (cells + mc) (slots + ms) Q (F0 m (pc + 3) ls ((rr u).toList ++ rest))) : W p l e R s m args below meth c H locs cells slots Q (F0 m pc ls st) :=
  wr_run (va_runV (C := C) S (hM H.size) (cwV n S.2.2.2.2 (tb_in (tb_Vm hl hy.1 hy.2.1 hy.2.2.1 hy.2.2.2.1)) rfl rfl rfl hy.2.2.2.2 hR) ⟨(pre_wr rfl hK hP hD).1, hr, (pre_wr rfl hK hP hD).2⟩ rfl hn hsz hst (lv_room hw) hdg hcs) hS (wr_free hD hS hA) kk
theorem wr_S {S0 : Type} {rr : S0 → Option Value} {ph : S0 → Prop} {wf : S0 → va_W} (S : CallFix p m c cc nL s args (cd :: lw_g) own) (hM : WR l y bytes maxL ret f mc ms lo As D cy ws rr ph wf) (hl : Cond.methodLink own index y ∈ lw_g) (hy : YS y bytes maxL ret n) (hR : f + 1 ≤ R.frames ∧ 8 + (maxL + 11) + lo ≤ R.locals) (hK : va_K D vwCl (TYS cy) s) (hP : va_P D vwCl ws H) (hD : va_D A ws) (hS : va_S A H0 H locs) (hA : ∀ q : Nat, H0.size ≤ q → A q)
    (hn : As.length = n) (hsz : ls.size = nL) (hst : st = As.reverse ++ rest) (hw : (rest.map fun v => v.category).sum ≤ 8) (hdg : decode cc pc = .ok (.invokestatic index, 3)) (hcs : cells + mc ≤ R.cells ∧ slots + ms ≤ R.slots)
    (kk : ∀ (u : S0) (H1 : Heap) (locs1 : List Loc), ph u → va_P D vwCl (wf u) H1 → va_D A (wf u) → va_S A H0 H1 locs1 → W p l e R s m args below meth c H1 locs1 (cells + mc) (slots + ms) Q (F0 m (pc + 3) ls ((rr u).toList ++ rest))) : W p l e R s m args below meth c H locs cells slots Q (F0 m pc ls st) :=
  wr_run (va_runS S (hM H.size) (va_cwS n S.2.2.2.2 (tb_in (tb_Sm hl hy.1 hy.2.1 hy.2.2.1)) rfl rfl rfl hy.2.2.2 hR) (pre_wr rfl hK hP hD) rfl hn hsz hst (lv_room hw) hdg hcs) hS (wr_free hD hS hA) kk
theorem wr_I {S0 : Type} {rr : S0 → Option Value} {ph : S0 → Prop} {wf : S0 → va_W} (S : CallFix p m c cc nL s args (cd :: lw_g) own) (hM : WR l y bytes maxL none f mc ms lo (.ref b :: As) D cy ws rr ph wf) (hl : Cond.methodLink own index y ∈ lw_g) (hy : YI y bytes maxL n) (hR : f + 1 ≤ R.frames ∧ 8 + (maxL + 11) + lo ≤ R.locals) (hK : va_K D vwCl (TYS cy) s) (hP : va_P D vwCl ws H) (hD : va_D A ws) (hS : va_S A H0 H locs) (hA : ∀ q : Nat, H0.size ≤ q → A q)
    (hn : As.length = n) (hsz : ls.size = nL) (hst : st = As.reverse ++ .ref b :: rest) (hw : (rest.map fun v => v.category).sum ≤ 8) (hdg : decode cc pc = .ok (.invokespecial index, 3)) (hcs : cells + mc ≤ R.cells ∧ slots + ms ≤ R.slots)
    (kk : ∀ (u : S0) (H1 : Heap) (locs1 : List Loc), ph u → va_P D vwCl (wf u) H1 → va_D A (wf u) → va_S A H0 H1 locs1 → W p l e R s m args below meth c H1 locs1 (cells + mc) (slots + ms) Q (F0 m (pc + 3) ls ((rr u).toList ++ rest))) : W p l e R s m args below meth c H locs cells slots Q (F0 m pc ls st) :=
  wr_run (va_runI S (hM H.size) (cwI n S.2.2.2.2 (tb_in (tb_Cm hy.2.2.1)) rfl rfl rfl (S.2.2.2.2 _ (List.mem_cons_of_mem _ hy.2.1)) (S.2.2.2.2 _ (List.mem_cons_of_mem _ hl)) (S.2.2.2.2 _ (List.mem_cons_of_mem _ hy.1)) hy.2.2.2.1 hy.2.2.2.2 hR) (pre_wr rfl hK hP hD) rfl hn hsz hst (lv_room hw) hdg hcs) hS (wr_free hD hS hA) kk
/-! ends -/
theorem ro_i {v X : Int32} (hx : p.tables.exec = Jvm.exec) (hb : c.code = cc) (hr : meth.sig.returnType = some .int) (hlk : meth.locks = false) (hv : v = X) (hdg : decode cc pc = .ok (.ireturn, 1)) : W p l e R s m args below meth c s.heap [] 0 0 (MQ below (k2_QcV (.int X)) args s 0 0 (fun _ => False)) (F0 m pc ls [.int v]) :=
  W.iret hx hb hr (fun t ht _ => ⟨by rw [hv], ht⟩) (fun q h => absurd h List.not_mem_nil) hdg hlk
theorem ro_l {v X : Int64} (hx : p.tables.exec = Jvm.exec) (hb : c.code = cc) (hr : meth.sig.returnType = some .long) (hlk : meth.locks = false) (hv : v = X) (hdg : decode cc pc = .ok (.lreturn, 1)) : W p l e R s m args below meth c s.heap [] 0 0 (MQ below (k2_QcV (.long X)) args s 0 0 (fun _ => False)) (F0 m pc ls [.long v]) :=
  W.lret hx hb hr (fun t ht _ => ⟨by rw [hv], ht⟩) (fun q h => absurd h List.not_mem_nil) hdg hlk
def bI (b : Bool) : Int32 := if b = true then nI 1 else nI 0
theorem bI_t {b : Bool} (h : b = true) : nI 1 = bI b := by rw [bI, if_pos h]
theorem bI_f {b : Bool} (h : b = false) : nI 0 = bI b := by rw [bI, h]; rfl
theorem bI_nar (b : Bool) : narrow .boolean (.int (bI b)) = .int (bI b) := by cases b <;> decide
theorem ro_z {v : Int32} {X : Bool} (hx : p.tables.exec = Jvm.exec) (hb : c.code = cc) (hr : meth.sig.returnType = some .boolean) (hlk : meth.locks = false) (hv : v = bI X) (hdg : decode cc pc = .ok (.ireturn, 1)) : W p l e R s m args below meth c s.heap [] 0 0 (MQ below (k2_QcV (.int (bI X))) args s 0 0 (fun _ => False)) (F0 m pc ls [.int v]) := by
  subst hv
  exact W.zret hx hb hr (bI_nar X) (fun t ht _ => ⟨rfl, ht⟩) (fun q h => absurd h List.not_mem_nil) hdg hlk
theorem wr_v {S : Type} {rr : S → Option Value} {ph : S → Prop} {wf : S → va_W} (hx : p.tables.exec = Jvm.exec) (hb : c.code = cc) (hr : meth.sig.returnType = none) (hlk : meth.locks = false) (u : S) (hu : rr u = none) (hp : ph u) (hP : va_P D vwCl (wf u) H) (hD : va_D A (wf u)) (hS : va_S A s.heap H locs) (hdg : decode cc pc = .ok (.return_, 1)) : W p l e R s m args below meth c H locs cells slots (MQ below (WQ D A rr ph wf) args s cells slots A) (F0 m pc ls []) :=
  W.vret hx hb hr (fun t ht _ => ⟨⟨u, by rw [hu], hp, by rw [ht]; exact hP, hD⟩, hS.F ht⟩) hS.2.2 hdg hlk
theorem wr_i {S : Type} {v : Int32} {rr : S → Option Value} {ph : S → Prop} {wf : S → va_W} (hx : p.tables.exec = Jvm.exec) (hb : c.code = cc) (hr : meth.sig.returnType = some .int) (hlk : meth.locks = false) (u : S) (hu : rr u = some (.int v)) (hp : ph u) (hP : va_P D vwCl (wf u) H) (hD : va_D A (wf u)) (hS : va_S A s.heap H locs) (hdg : decode cc pc = .ok (.ireturn, 1)) : W p l e R s m args below meth c H locs cells slots (MQ below (WQ D A rr ph wf) args s cells slots A) (F0 m pc ls [.int v]) :=
  W.iret hx hb hr (fun t ht _ => ⟨⟨u, by rw [hu], hp, by rw [ht]; exact hP, hD⟩, hS.F ht⟩) hS.2.2 hdg hlk
theorem wr_z {S : Type} {v : Bool} {rr : S → Option Value} {ph : S → Prop} {wf : S → va_W} (hx : p.tables.exec = Jvm.exec) (hb : c.code = cc) (hr : meth.sig.returnType = some .boolean) (hlk : meth.locks = false) (u : S) (hu : rr u = some (.int (bI v))) (hp : ph u) (hP : va_P D vwCl (wf u) H) (hD : va_D A (wf u)) (hS : va_S A s.heap H locs) (hdg : decode cc pc = .ok (.ireturn, 1)) : W p l e R s m args below meth c H locs cells slots (MQ below (WQ D A rr ph wf) args s cells slots A) (F0 m pc ls [.int (bI v)]) :=
  W.zret hx hb hr (bI_nar v) (fun t ht _ => ⟨⟨u, by rw [hu], hp, by rw [ht]; exact hP, hD⟩, hS.F ht⟩) hS.2.2 hdg hlk
end BS
theorem ROi {l : Launch} {y : MethodName} {bytes : ByteArray} {maxL : Nat} {f n : Nat} {av : List Value} {D : va_G} {cy : Nat → ClassId} {ws : va_W} {X : Int32} {lv0 : List (Nat × Value)} (hy : plainName y.cls = true) (h0 : lv_args 0 av = lv0) (hn : (lg_sl av).length ≤ maxL)
    (body : ∀ (p : Program) (e : Env) (s : State) (m : MethodId) (args : Array Value) (below : List Frame) (meth : Method) (c : Code) (ls : Array Slot) (Q : State → Prop), CallFix p m c bytes maxL s args (Cond.code y bytes maxL (some .int) :: lw_g) y.cls → va_P D vwCl ws s.heap → va_K D vwCl (TYS cy) s → (∀ {pc : Nat} {ls : Array Slot} {v : Int32}, v = X → decode bytes pc = .ok (.ireturn, 1) → W p l e (rmo f n) s m args below meth c s.heap [] 0 0 Q (F0 m pc ls [.int v])) → lv_has ls maxL lv0 → W p l e (rmo f n) s m args below meth c s.heap [] 0 0 Q (F0 m 0 ls [])) : RO l y bytes maxL (some .int) f n av D cy ws (.int X) :=
  RO.of hy h0 hn (fun p e s m args below meth c ls S hr hlk hP hK hl => body p e s m args below meth c ls _ S hP hK (fun hv hd => ro_i S.1 S.2.1 hr hlk hv hd) hl)
theorem ROz {l : Launch} {y : MethodName} {bytes : ByteArray} {maxL : Nat} {f n : Nat} {av : List Value} {D : va_G} {cy : Nat → ClassId} {ws : va_W} {X : Bool} {lv0 : List (Nat × Value)} (hy : plainName y.cls = true) (h0 : lv_args 0 av = lv0) (hn : (lg_sl av).length ≤ maxL)
    (body : ∀ (p : Program) (e : Env) (s : State) (m : MethodId) (args : Array Value) (below : List Frame) (meth : Method) (c : Code) (ls : Array Slot) (Q : State → Prop), CallFix p m c bytes maxL s args (Cond.code y bytes maxL (some .boolean) :: lw_g) y.cls → va_P D vwCl ws s.heap → va_K D vwCl (TYS cy) s → (∀ {pc : Nat} {ls : Array Slot} {v : Int32}, v = bI X → decode bytes pc = .ok (.ireturn, 1) → W p l e (rmo f n) s m args below meth c s.heap [] 0 0 Q (F0 m pc ls [.int v])) → lv_has ls maxL lv0 → W p l e (rmo f n) s m args below meth c s.heap [] 0 0 Q (F0 m 0 ls [])) : RO l y bytes maxL (some .boolean) f n av D cy ws (.int (bI X)) :=
  RO.of hy h0 hn (fun p e s m args below meth c ls S hr hlk hP hK hl => body p e s m args below meth c ls _ S hP hK (fun hv hd => ro_z S.1 S.2.1 hr hlk hv hd) hl)
theorem ROl {l : Launch} {y : MethodName} {bytes : ByteArray} {maxL : Nat} {f n : Nat} {av : List Value} {D : va_G} {cy : Nat → ClassId} {ws : va_W} {X : Int64} {lv0 : List (Nat × Value)} (hy : plainName y.cls = true) (h0 : lv_args 0 av = lv0) (hn : (lg_sl av).length ≤ maxL)
    (body : ∀ (p : Program) (e : Env) (s : State) (m : MethodId) (args : Array Value) (below : List Frame) (meth : Method) (c : Code) (ls : Array Slot) (Q : State → Prop), CallFix p m c bytes maxL s args (Cond.code y bytes maxL (some .long) :: lw_g) y.cls → va_P D vwCl ws s.heap → va_K D vwCl (TYS cy) s → (∀ {pc : Nat} {ls : Array Slot} {v : Int64}, v = X → decode bytes pc = .ok (.lreturn, 1) → W p l e (rmo f n) s m args below meth c s.heap [] 0 0 Q (F0 m pc ls [.long v])) → lv_has ls maxL lv0 → W p l e (rmo f n) s m args below meth c s.heap [] 0 0 Q (F0 m 0 ls [])) : RO l y bytes maxL (some .long) f n av D cy ws (.long X) :=
  RO.of hy h0 hn (fun p e s m args below meth c ls S hr hlk hP hK hl => body p e s m args below meth c ls _ S hP hK (fun hv hd => ro_l S.1 S.2.1 hr hlk hv hd) hl)
theorem WRv {S0 : Type} {l : Launch} {y : MethodName} {bytes : ByteArray} {maxL : Nat} {f mc ms n : Nat} {av : List Value} {D : va_G} {cy : Nat → ClassId} {ws : va_W} {ph : S0 → Prop} {wf : S0 → va_W} {lv0 : List (Nat × Value)} (hy : plainName y.cls = true) (h0 : lv_args 0 av = lv0) (hn : (lg_sl av).length ≤ maxL)
    (body : ∀ (p : Program) (e : Env) (s : State) (m : MethodId) (args : Array Value) (below : List Frame) (meth : Method) (c : Code) (ls : Array Slot) (A : Nat → Prop) (Q : State → Prop), CallFix p m c bytes maxL s args (Cond.code y bytes maxL none :: lw_g) y.cls → meth.name = y.name → va_P D vwCl ws s.heap → va_K D vwCl (TYS cy) s → va_D A ws → va_S A s.heap s.heap [] → (∀ q : Nat, s.heap.size ≤ q → A q) → (∀ {pc : Nat} {ls : Array Slot} {H : Heap} {locs : List Loc} (u : S0), ph u → va_P D vwCl (wf u) H → va_D A (wf u) → va_S A s.heap H locs → decode bytes pc = .ok (.return_, 1) → W p l e (rmw f mc ms n) s m args below meth c H locs mc ms Q (F0 m pc ls [])) → lv_has ls maxL lv0 → W p l e (rmw f mc ms n) s m args below meth c s.heap [] 0 0 Q (F0 m 0 ls [])) : WR l y bytes maxL none f mc ms n av D cy ws (fun _ => none) ph wf :=
  WR.of hy h0 hn (fun p e s m args below meth c ls A S hr hlk hnm hP hK hD hS hA hl => body p e s m args below meth c ls A _ S hnm hP hK hD hS hA (fun u hp hP hD hS hd => wr_v S.1 S.2.1 hr hlk u rfl hp hP hD hS hd) hl)
theorem WRi {S0 : Type} {l : Launch} {y : MethodName} {bytes : ByteArray} {maxL : Nat} {f mc ms n : Nat} {av : List Value} {D : va_G} {cy : Nat → ClassId} {ws : va_W} {X : S0 → Int32} {ph : S0 → Prop} {wf : S0 → va_W} {lv0 : List (Nat × Value)} (hy : plainName y.cls = true) (h0 : lv_args 0 av = lv0) (hn : (lg_sl av).length ≤ maxL)
    (body : ∀ (p : Program) (e : Env) (s : State) (m : MethodId) (args : Array Value) (below : List Frame) (meth : Method) (c : Code) (ls : Array Slot) (A : Nat → Prop) (Q : State → Prop), CallFix p m c bytes maxL s args (Cond.code y bytes maxL (some .int) :: lw_g) y.cls → meth.name = y.name → va_P D vwCl ws s.heap → va_K D vwCl (TYS cy) s → va_D A ws → va_S A s.heap s.heap [] → (∀ q : Nat, s.heap.size ≤ q → A q) → (∀ {pc : Nat} {ls : Array Slot} {H : Heap} {locs : List Loc} {v : Int32} (u : S0), v = X u → ph u → va_P D vwCl (wf u) H → va_D A (wf u) → va_S A s.heap H locs → decode bytes pc = .ok (.ireturn, 1) → W p l e (rmw f mc ms n) s m args below meth c H locs mc ms Q (F0 m pc ls [.int v])) → lv_has ls maxL lv0 → W p l e (rmw f mc ms n) s m args below meth c s.heap [] 0 0 Q (F0 m 0 ls [])) : WR l y bytes maxL (some .int) f mc ms n av D cy ws (fun u => some (.int (X u))) ph wf :=
  WR.of hy h0 hn (fun p e s m args below meth c ls A S hr hlk hnm hP hK hD hS hA hl => body p e s m args below meth c ls A _ S hnm hP hK hD hS hA (fun u hv hp hP hD hS hd => wr_i S.1 S.2.1 hr hlk u (by rw [hv]) hp hP hD hS hd) hl)
theorem WRz {S0 : Type} {l : Launch} {y : MethodName} {bytes : ByteArray} {maxL : Nat} {f mc ms n : Nat} {av : List Value} {D : va_G} {cy : Nat → ClassId} {ws : va_W} {X : S0 → Bool} {ph : S0 → Prop} {wf : S0 → va_W} {lv0 : List (Nat × Value)} (hy : plainName y.cls = true) (h0 : lv_args 0 av = lv0) (hn : (lg_sl av).length ≤ maxL)
    (body : ∀ (p : Program) (e : Env) (s : State) (m : MethodId) (args : Array Value) (below : List Frame) (meth : Method) (c : Code) (ls : Array Slot) (A : Nat → Prop) (Q : State → Prop), CallFix p m c bytes maxL s args (Cond.code y bytes maxL (some .boolean) :: lw_g) y.cls → meth.name = y.name → va_P D vwCl ws s.heap → va_K D vwCl (TYS cy) s → va_D A ws → va_S A s.heap s.heap [] → (∀ q : Nat, s.heap.size ≤ q → A q) → (∀ {pc : Nat} {ls : Array Slot} {H : Heap} {locs : List Loc} {v : Int32} (u : S0), v = bI (X u) → ph u → va_P D vwCl (wf u) H → va_D A (wf u) → va_S A s.heap H locs → decode bytes pc = .ok (.ireturn, 1) → W p l e (rmw f mc ms n) s m args below meth c H locs mc ms Q (F0 m pc ls [.int v])) → lv_has ls maxL lv0 → W p l e (rmw f mc ms n) s m args below meth c s.heap [] 0 0 Q (F0 m 0 ls [])) : WR l y bytes maxL (some .boolean) f mc ms n av D cy ws (fun u => some (.int (bI (X u)))) ph wf :=
  WR.of hy h0 hn (fun p e s m args below meth c ls A S hr hlk hnm hP hK hD hS hA hl => body p e s m args below meth c ls A _ S hnm hP hK hD hS hA (fun u hv hp hP hD hS hd => by subst hv; exact wr_z S.1 S.2.1 hr hlk u rfl hp hP hD hS hd) hl)
end
section
/-! NUMBERS AND BYTES: rows whose ints are natural numbers; bytes as UInt8 -/
def bt (f : Nat → UInt8) : Nat → Int32 := fun i => (f i).toInt8.toInt32
def by8 (x : Int32) : UInt8 := x.toInt8.toUInt8
theorem u8_all {P : UInt8 → Prop} (h : ∀ n : Nat, n < 256 → P (UInt8.ofNat n)) (u : UInt8) : P u := by
  have h1 := h u.toNat u.toNat_lt
  rwa [UInt8.ofNat_toNat] at h1
theorem u8_and (u : UInt8) : u.toInt8.toInt32 &&& nI 255 = nI u.toNat := u8_all (P := fun u => u.toInt8.toInt32 &&& nI 255 = nI u.toNat) (by decide +kernel) u
theorem u8_fit (u : UInt8) : fits .byte (.int u.toInt8.toInt32) = true := u8_all (P := fun u => fits .byte (.int u.toInt8.toInt32) = true) (by decide +kernel) u
theorem u8_rt (u : UInt8) : by8 u.toInt8.toInt32 = u := u8_all (P := fun u => by8 u.toInt8.toInt32 = u) (by decide +kernel) u
theorem by8_bt (x : Int32) : (by8 x).toInt8.toInt32 = x.toInt8.toInt32 := rfl
theorem bt_upd (f : Nat → UInt8) (k : Nat) (x : Int32) : upd (bt f) k (vp_nar .byte x) = bt (va_up f k (by8 x)) := by
  rw [vp_nar_byte]
  funext i
  unfold upd bt va_up
  by_cases h : i = k
  · simp only [h, if_true]; rfl
  · simp only [h, if_false]
theorem by8_nI (a : Nat) : by8 (nI a) = UInt8.ofNat a := by
  apply UInt8.toBitVec_inj.mp
  show ((BitVec.ofNat 32 a).signExtend 8) = BitVec.ofNat 8 a
  apply BitVec.eq_of_toNat_eq
  rw [BitVec.signExtend_eq_setWidth_of_le _ (by decide)]
  simp
section NV
variable {p : Program} {l : Launch} {e : Env} {R : Room} {s : State} {m : MethodId} {args : Array Value} {below : List Frame} {meth : Method} {c : Code} {H : Heap} {locs : List Loc} {cells slots : Nat} {Q : State → Prop}
variable {cc : ByteArray} {pc : Nat} {ls : Array Slot} {rest : List Value} {D : va_G} {cy : Nat → ClassId} {ws : va_W} {A : Nat → Prop} {H0 : Heap} {a b : Nat} {off : Int} {tgt : Nat}
theorem nv_iconst {n : Int} {k : Nat} (hx : p.tables.exec = Jvm.exec) (hb : c.code = cc) (hdg : decode cc pc = .ok (.iconst n, 1)) (hn : n = (k : Int)) (kk : W p l e R s m args below meth c H locs cells slots Q (F0 m (pc + 1) ls (.int (nI k) :: rest))) : W p l e R s m args below meth c H locs cells slots Q (F0 m pc ls rest) :=
  lv_iconst hx hb hdg (by subst hn; rfl) kk
theorem nv_bipush {n : Int} {k : Nat} (hx : p.tables.exec = Jvm.exec) (hb : c.code = cc) (hdg : decode cc pc = .ok (.bipush n, 2)) (hn : (Int8.ofInt n).toInt32 = nI k) (kk : W p l e R s m args below meth c H locs cells slots Q (F0 m (pc + 2) ls (.int (nI k) :: rest))) : W p l e R s m args below meth c H locs cells slots Q (F0 m pc ls rest) :=
  lv_bipush hx hb hdg hn kk
theorem nv_sipush {n : Int} {k : Nat} (hx : p.tables.exec = Jvm.exec) (hb : c.code = cc) (hdg : decode cc pc = .ok (.sipush n, 3)) (hn : (Int16.ofInt n).toInt32 = nI k) (kk : W p l e R s m args below meth c H locs cells slots Q (F0 m (pc + 3) ls (.int (nI k) :: rest))) : W p l e R s m args below meth c H locs cells slots Q (F0 m pc ls rest) :=
  lv_sipush hx hb hdg hn kk
theorem nv_iadd (hx : p.tables.exec = Jvm.exec) (hb : c.code = cc) (hdg : decode cc pc = .ok (.iadd, 1)) (kk : W p l e R s m args below meth c H locs cells slots Q (F0 m (pc + 1) ls (.int (nI (a + b)) :: rest))) : W p l e R s m args below meth c H locs cells slots Q (F0 m pc ls (.int (nI b) :: .int (nI a) :: rest)) :=
  lv_iadd hx hb hdg (by rw [nI_add]; exact kk)
theorem nv_isub (hx : p.tables.exec = Jvm.exec) (hb : c.code = cc) (h : b ≤ a) (hdg : decode cc pc = .ok (.isub, 1)) (kk : W p l e R s m args below meth c H locs cells slots Q (F0 m (pc + 1) ls (.int (nI (a - b)) :: rest))) : W p l e R s m args below meth c H locs cells slots Q (F0 m pc ls (.int (nI b) :: .int (nI a) :: rest)) :=
  lv_isub hx hb hdg (by rw [pk_sub h]; exact kk)
theorem nv_imul (hx : p.tables.exec = Jvm.exec) (hb : c.code = cc) (hdg : decode cc pc = .ok (.imul, 1)) (kk : W p l e R s m args below meth c H locs cells slots Q (F0 m (pc + 1) ls (.int (nI (a * b)) :: rest))) : W p l e R s m args below meth c H locs cells slots Q (F0 m pc ls (.int (nI b) :: .int (nI a) :: rest)) :=
  lv_imul hx hb hdg (by rw [pk_mul]; exact kk)
theorem nv_irem (hx : p.tables.exec = Jvm.exec) (hb : c.code = cc) (ha : a < 2 ^ 31) (h0 : 0 < b) (h : b < 2 ^ 31) (hdg : decode cc pc = .ok (.irem, 1)) (kk : W p l e R s m args below meth c H locs cells slots Q (F0 m (pc + 1) ls (.int (nI (a % b)) :: rest))) : W p l e R s m args below meth c H locs cells slots Q (F0 m pc ls (.int (nI b) :: .int (nI a) :: rest)) :=
  lv_irem hx hb hdg (nI_ne0 h0 h) (by rw [pk_rem ha h0 h]; exact kk)
theorem nv_idiv (hx : p.tables.exec = Jvm.exec) (hb : c.code = cc) (ha : a < 2 ^ 31) (h0 : 0 < b) (h : b < 2 ^ 31) (hdg : decode cc pc = .ok (.idiv, 1)) (kk : W p l e R s m args below meth c H locs cells slots Q (F0 m (pc + 1) ls (.int (nI (a / b)) :: rest))) : W p l e R s m args below meth c H locs cells slots Q (F0 m pc ls (.int (nI b) :: .int (nI a) :: rest)) :=
  lv_idiv hx hb hdg (nI_ne0 h0 h) (by rw [pk_div ha h0 h]; exact kk)
theorem nv_iand (k : Nat) (hx : p.tables.exec = Jvm.exec) (hb : c.code = cc) (ha : a < 2 ^ 32) (hk : (nI b).toBitVec.toNat = 2 ^ k - 1) (hdg : decode cc pc = .ok (.iand, 1)) (kk : W p l e R s m args below meth c H locs cells slots Q (F0 m (pc + 1) ls (.int (nI (a % 2 ^ k)) :: rest))) : W p l e R s m args below meth c H locs cells slots Q (F0 m pc ls (.int (nI b) :: .int (nI a) :: rest)) :=
  lv_iand hx hb hdg (by rw [pk_andN ha k hk]; exact kk)
theorem nv_iandb {f : Nat → UInt8} {i : Nat} (hx : p.tables.exec = Jvm.exec) (hb : c.code = cc) (hdg : decode cc pc = .ok (.iand, 1)) (kk : W p l e R s m args below meth c H locs cells slots Q (F0 m (pc + 1) ls (.int (nI (f i).toNat) :: rest))) : W p l e R s m args below meth c H locs cells slots Q (F0 m pc ls (.int (nI 255) :: .int (bt f i) :: rest)) :=
  lv_iand hx hb hdg (by rw [show bt f i &&& nI 255 = nI (f i).toNat from u8_and (f i)]; exact kk)
theorem nI_or {k : Nat} (h : b < 2 ^ k) : nI (a * 2 ^ k) ||| nI b = nI (a * 2 ^ k + b) := by
  apply Int32.toBitVec_inj.mp
  show BitVec.ofNat 32 (a * 2 ^ k) ||| BitVec.ofNat 32 b = BitVec.ofNat 32 (a * 2 ^ k + b)
  rw [← Nat.shiftLeft_eq, Nat.shiftLeft_add_eq_or_of_lt h]
  apply BitVec.eq_of_toNat_eq
  simp [BitVec.toNat_or, Nat.or_mod_two_pow]
theorem lN_or {k : Nat} (h : b < 2 ^ k) : lN (a * 2 ^ k) ||| lN b = lN (a * 2 ^ k + b) := by
  apply Int64.toBitVec_inj.mp
  show BitVec.ofNat 64 (a * 2 ^ k) ||| BitVec.ofNat 64 b = BitVec.ofNat 64 (a * 2 ^ k + b)
  rw [← Nat.shiftLeft_eq, Nat.shiftLeft_add_eq_or_of_lt h]
  apply BitVec.eq_of_toNat_eq
  simp [BitVec.toNat_or, Nat.or_mod_two_pow]
theorem nv_ior (k : Nat) (hx : p.tables.exec = Jvm.exec) (hb : c.code = cc) (h : b < 2 ^ k) (hdg : decode cc pc = .ok (.ior, 1)) (kk : W p l e R s m args below meth c H locs cells slots Q (F0 m (pc + 1) ls (.int (nI (a * 2 ^ k + b)) :: rest))) : W p l e R s m args below meth c H locs cells slots Q (F0 m pc ls (.int (nI b) :: .int (nI (a * 2 ^ k)) :: rest)) :=
  lv_ior hx hb hdg (by rw [nI_or h]; exact kk)
theorem nv_lor (k : Nat) (hx : p.tables.exec = Jvm.exec) (hb : c.code = cc) (h : b < 2 ^ k) (hdg : decode cc pc = .ok (.lor, 1)) (kk : W p l e R s m args below meth c H locs cells slots Q (F0 m (pc + 1) ls (.long (lN (a * 2 ^ k + b)) :: rest))) : W p l e R s m args below meth c H locs cells slots Q (F0 m pc ls (.long (lN b) :: .long (lN (a * 2 ^ k)) :: rest)) :=
  lv_lor hx hb hdg (by rw [lN_or h]; exact kk)
theorem nI_shl {k : Nat} (hk : k < 32) : nI a <<< (nI k &&& 31) = nI (a * 2 ^ k) := by
  have h1 : ((nI k &&& 31 : Int32).toBitVec.smod 32).toNat = k := by
    have h : ∀ k : Nat, k < 32 → ((nI k &&& 31 : Int32).toBitVec.smod 32).toNat = k := by decide +kernel
    exact h k hk
  apply Int32.toBitVec_inj.mp
  apply BitVec.eq_of_toNat_eq
  rw [pk_shl _ _ k h1]
  show (BitVec.ofNat 32 a).toNat * 2 ^ k % 2 ^ 32 = (BitVec.ofNat 32 (a * 2 ^ k)).toNat
  simp [Nat.mod_mul_mod]
theorem nv_ishl (hx : p.tables.exec = Jvm.exec) (hb : c.code = cc) (hk : b < 32) (hdg : decode cc pc = .ok (.ishl, 1)) (kk : W p l e R s m args below meth c H locs cells slots Q (F0 m (pc + 1) ls (.int (nI (a * 2 ^ b)) :: rest))) : W p l e R s m args below meth c H locs cells slots Q (F0 m pc ls (.int (nI b) :: .int (nI a) :: rest)) :=
  lv_ishl hx hb hdg (by rw [nI_shl hk]; exact kk)
theorem nv_ishr (hx : p.tables.exec = Jvm.exec) (hb : c.code = cc) (ha : a < 2 ^ 31) (hk : b < 32) (hdg : decode cc pc = .ok (.ishr, 1)) (kk : W p l e R s m args below meth c H locs cells slots Q (F0 m (pc + 1) ls (.int (nI (a / 2 ^ b)) :: rest))) : W p l e R s m args below meth c H locs cells slots Q (F0 m pc ls (.int (nI b) :: .int (nI a) :: rest)) :=
  lv_ishr hx hb hdg (by
    have h : ∀ k : Nat, k < 32 → ((nI k &&& 31 : Int32).toBitVec.smod 32).toNat = k := by decide +kernel
    rw [pk_shrN ha _ b (h b hk)]; exact kk)
theorem nv_iushr (hx : p.tables.exec = Jvm.exec) (hb : c.code = cc) (ha : a < 2 ^ 32) (hk : b < 32) (hdg : decode cc pc = .ok (.iushr, 1)) (kk : W p l e R s m args below meth c H locs cells slots Q (F0 m (pc + 1) ls (.int (nI (a / 2 ^ b)) :: rest))) : W p l e R s m args below meth c H locs cells slots Q (F0 m pc ls (.int (nI b) :: .int (nI a) :: rest)) :=
  lv_iushr hx hb hdg (by
    have h : ∀ k : Nat, k < 32 → (((nI k).toUInt32 &&& Int32.toUInt32 31).toBitVec % 32).toNat = k := by decide +kernel
    exact pk_ushrN ha _ b (h b hk)) kk
theorem nv_i2l (hx : p.tables.exec = Jvm.exec) (hb : c.code = cc) (ha : a < 2 ^ 31) (hdg : decode cc pc = .ok (.i2l, 1)) (kk : W p l e R s m args below meth c H locs cells slots Q (F0 m (pc + 1) ls (.long (lN a) :: rest))) : W p l e R s m args below meth c H locs cells slots Q (F0 m pc ls (.int (nI a) :: rest)) :=
  lv_i2l hx hb hdg (nI_l ha) kk
theorem nv_l2i (hx : p.tables.exec = Jvm.exec) (hb : c.code = cc) (hdg : decode cc pc = .ok (.l2i, 1)) (kk : W p l e R s m args below meth c H locs cells slots Q (F0 m (pc + 1) ls (.int (nI a) :: rest))) : W p l e R s m args below meth c H locs cells slots Q (F0 m pc ls (.long (lN a) :: rest)) :=
  lv_l2i hx hb hdg (lN_i a) kk
/-! comparisons -/
theorem nv_icmp_lt (hx : p.tables.exec = Jvm.exec) (hb : c.code = cc) (hdg : decode cc pc = .ok (.if_icmp .lt off, 3)) (ht : (pc : Int) + off = (tgt : Int)) (h1 : a < 2 ^ 31) (h2 : b < 2 ^ 31)
    (kt : a < b → W p l e R s m args below meth c H locs cells slots Q (F0 m tgt ls rest)) (kf : b ≤ a → W p l e R s m args below meth c H locs cells slots Q (F0 m (pc + 3) ls rest)) : W p l e R s m args below meth c H locs cells slots Q (F0 m pc ls (.int (nI b) :: .int (nI a) :: rest)) :=
  lv_icmp_lt hx hb hdg ht (fun h => kt ((nI_ltI h1 h2).mp h)) (fun h => kf (Nat.le_of_not_lt (fun z => h ((nI_ltI h1 h2).mpr z))))
theorem nv_icmp_ge (hx : p.tables.exec = Jvm.exec) (hb : c.code = cc) (hdg : decode cc pc = .ok (.if_icmp .ge off, 3)) (ht : (pc : Int) + off = (tgt : Int)) (h1 : a < 2 ^ 31) (h2 : b < 2 ^ 31)
    (kt : b ≤ a → W p l e R s m args below meth c H locs cells slots Q (F0 m tgt ls rest)) (kf : a < b → W p l e R s m args below meth c H locs cells slots Q (F0 m (pc + 3) ls rest)) : W p l e R s m args below meth c H locs cells slots Q (F0 m pc ls (.int (nI b) :: .int (nI a) :: rest)) :=
  lv_icmp_ge hx hb hdg ht (fun h => kt ((nI_leI h2 h1).mp h)) (fun h => kf (Nat.lt_of_not_le (fun z => h ((nI_leI h2 h1).mpr z))))
theorem nv_icmp_gt (hx : p.tables.exec = Jvm.exec) (hb : c.code = cc) (hdg : decode cc pc = .ok (.if_icmp .gt off, 3)) (ht : (pc : Int) + off = (tgt : Int)) (h1 : a < 2 ^ 31) (h2 : b < 2 ^ 31)
    (kt : b < a → W p l e R s m args below meth c H locs cells slots Q (F0 m tgt ls rest)) (kf : a ≤ b → W p l e R s m args below meth c H locs cells slots Q (F0 m (pc + 3) ls rest)) : W p l e R s m args below meth c H locs cells slots Q (F0 m pc ls (.int (nI b) :: .int (nI a) :: rest)) :=
  lv_icmp_gt hx hb hdg ht (fun h => kt ((nI_ltI h2 h1).mp h)) (fun h => kf (Nat.le_of_not_lt (fun z => h ((nI_ltI h2 h1).mpr z))))
theorem nv_icmp_le (hx : p.tables.exec = Jvm.exec) (hb : c.code = cc) (hdg : decode cc pc = .ok (.if_icmp .le off, 3)) (ht : (pc : Int) + off = (tgt : Int)) (h1 : a < 2 ^ 31) (h2 : b < 2 ^ 31)
    (kt : a ≤ b → W p l e R s m args below meth c H locs cells slots Q (F0 m tgt ls rest)) (kf : b < a → W p l e R s m args below meth c H locs cells slots Q (F0 m (pc + 3) ls rest)) : W p l e R s m args below meth c H locs cells slots Q (F0 m pc ls (.int (nI b) :: .int (nI a) :: rest)) :=
  lv_icmp_le hx hb hdg ht (fun h => kt ((nI_leI h1 h2).mp h)) (fun h => kf (Nat.lt_of_not_le (fun z => h ((nI_leI h1 h2).mpr z))))
theorem nv_icmp_eq (hx : p.tables.exec = Jvm.exec) (hb : c.code = cc) (hdg : decode cc pc = .ok (.if_icmp .eq off, 3)) (ht : (pc : Int) + off = (tgt : Int)) (h1 : a < 2 ^ 31) (h2 : b < 2 ^ 31)
    (kt : a = b → W p l e R s m args below meth c H locs cells slots Q (F0 m tgt ls rest)) (kf : a ≠ b → W p l e R s m args below meth c H locs cells slots Q (F0 m (pc + 3) ls rest)) : W p l e R s m args below meth c H locs cells slots Q (F0 m pc ls (.int (nI b) :: .int (nI a) :: rest)) :=
  lv_icmp_eq hx hb hdg ht (fun h => kt ((nI_eq h1 h2).mp h)) (fun h => kf (fun z => h ((nI_eq h1 h2).mpr z)))
theorem nv_icmp_ne (hx : p.tables.exec = Jvm.exec) (hb : c.code = cc) (hdg : decode cc pc = .ok (.if_icmp .ne off, 3)) (ht : (pc : Int) + off = (tgt : Int)) (h1 : a < 2 ^ 31) (h2 : b < 2 ^ 31)
    (kt : a ≠ b → W p l e R s m args below meth c H locs cells slots Q (F0 m tgt ls rest)) (kf : a = b → W p l e R s m args below meth c H locs cells slots Q (F0 m (pc + 3) ls rest)) : W p l e R s m args below meth c H locs cells slots Q (F0 m pc ls (.int (nI b) :: .int (nI a) :: rest)) :=
  lv_icmp_ne hx hb hdg ht (fun h => kt (fun z => h ((nI_eq h1 h2).mpr z))) (fun h => kf ((nI_eq h1 h2).mp h))
theorem nv_if_eq (hx : p.tables.exec = Jvm.exec) (hb : c.code = cc) (hdg : decode cc pc = .ok (.ifCond .eq off, 3)) (ht : (pc : Int) + off = (tgt : Int)) (h1 : a < 2 ^ 31)
    (kt : a = 0 → W p l e R s m args below meth c H locs cells slots Q (F0 m tgt ls rest)) (kf : a ≠ 0 → W p l e R s m args below meth c H locs cells slots Q (F0 m (pc + 3) ls rest)) : W p l e R s m args below meth c H locs cells slots Q (F0 m pc ls (.int (nI a) :: rest)) :=
  lv_if_eq hx hb hdg ht (fun h => kt ((nI_eq (b := 0) h1 (by decide)).mp h)) (fun h => kf (fun z => h ((nI_eq (b := 0) h1 (by decide)).mpr z)))
theorem nv_if_ne (hx : p.tables.exec = Jvm.exec) (hb : c.code = cc) (hdg : decode cc pc = .ok (.ifCond .ne off, 3)) (ht : (pc : Int) + off = (tgt : Int)) (h1 : a < 2 ^ 31)
    (kt : a ≠ 0 → W p l e R s m args below meth c H locs cells slots Q (F0 m tgt ls rest)) (kf : a = 0 → W p l e R s m args below meth c H locs cells slots Q (F0 m (pc + 3) ls rest)) : W p l e R s m args below meth c H locs cells slots Q (F0 m pc ls (.int (nI a) :: rest)) :=
  lv_if_ne hx hb hdg ht (fun h => kt (fun z => h ((nI_eq (b := 0) h1 (by decide)).mpr z))) (fun h => kf ((nI_eq (b := 0) h1 (by decide)).mp h))
theorem nv_if_lt (hx : p.tables.exec = Jvm.exec) (hb : c.code = cc) (hdg : decode cc pc = .ok (.ifCond .lt off, 3)) (ht : (pc : Int) + off = (tgt : Int)) (h1 : a < 2 ^ 31)
    (kf : W p l e R s m args below meth c H locs cells slots Q (F0 m (pc + 3) ls rest)) : W p l e R s m args below meth c H locs cells slots Q (F0 m pc ls (.int (nI a) :: rest)) :=
  lv_if_lt hx hb hdg ht (fun h => absurd h (nI_pos h1)) (fun _ => kf)
theorem nv_if_ge (hx : p.tables.exec = Jvm.exec) (hb : c.code = cc) (hdg : decode cc pc = .ok (.ifCond .ge off, 3)) (ht : (pc : Int) + off = (tgt : Int)) (h1 : a < 2 ^ 31)
    (kt : W p l e R s m args below meth c H locs cells slots Q (F0 m tgt ls rest)) : W p l e R s m args below meth c H locs cells slots Q (F0 m pc ls (.int (nI a) :: rest)) :=
  lv_if_ge hx hb hdg ht (fun _ => kt) (fun h => absurd (nI_pos' h1) h)
theorem nv_if_le (hx : p.tables.exec = Jvm.exec) (hb : c.code = cc) (hdg : decode cc pc = .ok (.ifCond .le off, 3)) (ht : (pc : Int) + off = (tgt : Int)) (h1 : a < 2 ^ 31)
    (kt : a = 0 → W p l e R s m args below meth c H locs cells slots Q (F0 m tgt ls rest)) (kf : 0 < a → W p l e R s m args below meth c H locs cells slots Q (F0 m (pc + 3) ls rest)) : W p l e R s m args below meth c H locs cells slots Q (F0 m pc ls (.int (nI a) :: rest)) :=
  lv_if_le hx hb hdg ht (fun h => kt (Nat.le_zero.mp ((nI_leI (b := 0) h1 (by decide)).mp h))) (fun h => kf (Nat.pos_of_ne_zero (fun z => h (by subst z; decide))))
theorem nv_if_gt (hx : p.tables.exec = Jvm.exec) (hb : c.code = cc) (hdg : decode cc pc = .ok (.ifCond .gt off, 3)) (ht : (pc : Int) + off = (tgt : Int)) (h1 : a < 2 ^ 31)
    (kt : 0 < a → W p l e R s m args below meth c H locs cells slots Q (F0 m tgt ls rest)) (kf : a = 0 → W p l e R s m args below meth c H locs cells slots Q (F0 m (pc + 3) ls rest)) : W p l e R s m args below meth c H locs cells slots Q (F0 m pc ls (.int (nI a) :: rest)) :=
  lv_if_gt hx hb hdg ht (fun h => kt ((nI_ltI (a := 0) (by decide) h1).mp h)) (fun h => kf (Nat.eq_zero_of_not_pos (fun z => h ((nI_ltI (a := 0) (by decide) h1).mpr z))))
theorem nv_if_eqb {v : Bool} (hx : p.tables.exec = Jvm.exec) (hb : c.code = cc) (hdg : decode cc pc = .ok (.ifCond .eq off, 3)) (ht : (pc : Int) + off = (tgt : Int))
    (kt : v = false → W p l e R s m args below meth c H locs cells slots Q (F0 m tgt ls rest)) (kf : v = true → W p l e R s m args below meth c H locs cells slots Q (F0 m (pc + 3) ls rest)) : W p l e R s m args below meth c H locs cells slots Q (F0 m pc ls (.int (bI v) :: rest)) :=
  lv_if_eq hx hb hdg ht (fun h => kt (by cases v; rfl; exact absurd h (by decide))) (fun h => kf (by cases v; exact absurd rfl h; rfl))
theorem nv_if_neb {v : Bool} (hx : p.tables.exec = Jvm.exec) (hb : c.code = cc) (hdg : decode cc pc = .ok (.ifCond .ne off, 3)) (ht : (pc : Int) + off = (tgt : Int))
    (kt : v = true → W p l e R s m args below meth c H locs cells slots Q (F0 m tgt ls rest)) (kf : v = false → W p l e R s m args below meth c H locs cells slots Q (F0 m (pc + 3) ls rest)) : W p l e R s m args below meth c H locs cells slots Q (F0 m pc ls (.int (bI v) :: rest)) :=
  lv_if_ne hx hb hdg ht (fun h => kt (by cases v; exact absurd rfl h; rfl)) (fun h => kf (by cases v; rfl; exact absurd h (by decide)))
/-! arrays -/
theorem nv_bald {ar N : Nat} {f : Nat → UInt8} (hx : p.tables.exec = Jvm.exec) (hb : c.code = cc) (hK : va_K D vwCl (TYS cy) s) (hP : va_P D vwCl ws H) (q0 : Nat) (ha : ws[q0]? = some (ar, .inl (cy 0, N, .inl (bt f)))) (hk : a < N) (hN : N < 2 ^ 31) (hdg : decode cc pc = .ok (.baload, 1))
    (kk : W p l e R s m args below meth c H locs cells slots Q (F0 m (pc + 1) ls (.int (bt f a) :: rest))) : W p l e R s m args below meth c H locs cells slots Q (F0 m pc ls (.int (nI a) :: .ref ar :: rest)) :=
  va_bald hx hb hK hP q0 0 ha rfl (vp_in_nI hk hN) hdg (by rw [nI_clamp (Nat.lt_trans hk hN)]; exact kk)
theorem nv_bast {ar N : Nat} {f : Nat → UInt8} {x : Int32} (hx : p.tables.exec = Jvm.exec) (hb : c.code = cc) (hK : va_K D vwCl (TYS cy) s) (hP : va_P D vwCl ws H) (hD : va_D A ws) (hS : va_S A H0 H locs) (q0 : Nat) (ha : ws[q0]? = some (ar, .inl (cy 0, N, .inl (bt f)))) (hk : a < N) (hN : N < 2 ^ 31) (hdg : decode cc pc = .ok (.bastore, 1))
    (kk : ∀ (H1 : Heap) (locs1 : List Loc), va_P D vwCl (ws.set q0 (ar, .inl (cy 0, N, .inl (bt (va_up f a (by8 x)))))) H1 → va_D A (ws.set q0 (ar, .inl (cy 0, N, .inl (bt (va_up f a (by8 x)))))) → va_S A H0 H1 locs1 → W p l e R s m args below meth c H1 locs1 cells slots Q (F0 m (pc + 1) ls rest)) : W p l e R s m args below meth c H locs cells slots Q (F0 m pc ls (.int x :: .int (nI a) :: .ref ar :: rest)) :=
  va_bast hx hb hK hP hD hS q0 0 ha rfl (vp_in_nI hk hN) hdg (by rw [nI_clamp (Nat.lt_trans hk hN), bt_upd]; exact kk)
theorem nv_iald {ar N : Nat} {f : Nat → Int32} (hx : p.tables.exec = Jvm.exec) (hb : c.code = cc) (hK : va_K D vwCl (TYS cy) s) (hP : va_P D vwCl ws H) (q0 : Nat) (ha : ws[q0]? = some (ar, .inl (cy 1, N, .inl f))) (hk : a < N) (hN : N < 2 ^ 31) (hdg : decode cc pc = .ok (.iaload, 1))
    (kk : W p l e R s m args below meth c H locs cells slots Q (F0 m (pc + 1) ls (.int (f a) :: rest))) : W p l e R s m args below meth c H locs cells slots Q (F0 m pc ls (.int (nI a) :: .ref ar :: rest)) :=
  va_iald hx hb hK hP q0 1 ha rfl (vp_in_nI hk hN) hdg (by rw [nI_clamp (Nat.lt_trans hk hN)]; exact kk)
theorem nv_iast {ar N : Nat} {f : Nat → Int32} {x : Int32} (hx : p.tables.exec = Jvm.exec) (hb : c.code = cc) (hK : va_K D vwCl (TYS cy) s) (hP : va_P D vwCl ws H) (hD : va_D A ws) (hS : va_S A H0 H locs) (q0 : Nat) (ha : ws[q0]? = some (ar, .inl (cy 1, N, .inl f))) (hk : a < N) (hN : N < 2 ^ 31) (hdg : decode cc pc = .ok (.iastore, 1))
    (kk : ∀ (H1 : Heap) (locs1 : List Loc), va_P D vwCl (ws.set q0 (ar, .inl (cy 1, N, .inl (upd f a x)))) H1 → va_D A (ws.set q0 (ar, .inl (cy 1, N, .inl (upd f a x)))) → va_S A H0 H1 locs1 → W p l e R s m args below meth c H1 locs1 cells slots Q (F0 m (pc + 1) ls rest)) : W p l e R s m args below meth c H locs cells slots Q (F0 m pc ls (.int x :: .int (nI a) :: .ref ar :: rest)) :=
  va_iast hx hb hK hP hD hS q0 1 ha rfl (vp_in_nI hk hN) hdg (by rw [nI_clamp (Nat.lt_trans hk hN)]; exact kk)
theorem nv_lald {ar N : Nat} {f : Nat → Int64} (hx : p.tables.exec = Jvm.exec) (hb : c.code = cc) (hK : va_K D vwCl (TYS cy) s) (hP : va_P D vwCl ws H) (q0 : Nat) (ha : ws[q0]? = some (ar, .inl (cy 2, N, .inr (.inl f)))) (hk : a < N) (hN : N < 2 ^ 31) (hdg : decode cc pc = .ok (.laload, 1))
    (kk : W p l e R s m args below meth c H locs cells slots Q (F0 m (pc + 1) ls (.long (f a) :: rest))) : W p l e R s m args below meth c H locs cells slots Q (F0 m pc ls (.int (nI a) :: .ref ar :: rest)) :=
  va_lald hx hb hK hP q0 2 ha rfl (vp_in_nI hk hN) hdg (by rw [nI_clamp (Nat.lt_trans hk hN)]; exact kk)
end NV
end
section
theorem nI_inc (a n : Nat) : nI a + Int32.ofInt (n : Int) = nI (a + n) := nI_add a n
theorem nI_dec {a : Nat} (h : 1 ≤ a) : nI a + Int32.ofInt (-1) = nI (a - 1) := by
  obtain ⟨b, rfl⟩ : ∃ b, a = b + 1 := ⟨a - 1, by omega⟩
  exact pk_m1 b
theorem lN_shl {a k : Nat} (hk : k < 64) : lN a <<< ((nI k).toInt64 &&& 63) = lN (a * 2 ^ k) := by
  have h : ∀ k : Nat, k < 64 → (((nI k).toInt64 &&& 63 : Int64).toBitVec.smod 64).toNat = k := by decide +kernel
  apply Int64.toBitVec_inj.mp
  apply BitVec.eq_of_toNat_eq
  have h2 : (lN a <<< ((nI k).toInt64 &&& 63)).toBitVec = (lN a).toBitVec <<< (((nI k).toInt64 &&& 63 : Int64).toBitVec.smod 64) := rfl
  rw [h2, BitVec.shiftLeft_eq', BitVec.toNat_shiftLeft, h k hk, Nat.shiftLeft_eq]
  show (BitVec.ofNat 64 a).toNat * 2 ^ k % 2 ^ 64 = (BitVec.ofNat 64 (a * 2 ^ k)).toNat
  simp [Nat.mod_mul_mod]
section NV2
variable {p : Program} {l : Launch} {e : Env} {R : Room} {s : State} {m : MethodId} {args : Array Value} {below : List Frame} {meth : Method} {c : Code} {H : Heap} {locs : List Loc} {cells slots : Nat} {Q : State → Prop}
variable {cc : ByteArray} {pc : Nat} {ls : Array Slot} {rest : List Value} {a b : Nat} {off : Int} {tgt : Nat} {x y : Int64}
theorem nv_iandN (hx : p.tables.exec = Jvm.exec) (hb : c.code = cc) (hdg : decode cc pc = .ok (.iand, 1)) (kk : W p l e R s m args below meth c H locs cells slots Q (F0 m (pc + 1) ls (.int (nI (a &&& b)) :: rest))) : W p l e R s m args below meth c H locs cells slots Q (F0 m pc ls (.int (nI b) :: .int (nI a) :: rest)) :=
  lv_iand hx hb hdg (by
    have h : nI a &&& nI b = nI (a &&& b) := by
      apply Int32.toBitVec_inj.mp
      show BitVec.ofNat 32 a &&& BitVec.ofNat 32 b = BitVec.ofNat 32 (a &&& b)
      apply BitVec.eq_of_toNat_eq
      simp [BitVec.toNat_and, Nat.and_mod_two_pow]
    rw [h]; exact kk)
theorem nv_ladd (hx : p.tables.exec = Jvm.exec) (hb : c.code = cc) (hdg : decode cc pc = .ok (.ladd, 1)) (kk : W p l e R s m args below meth c H locs cells slots Q (F0 m (pc + 1) ls (.long (lN (a + b)) :: rest))) : W p l e R s m args below meth c H locs cells slots Q (F0 m pc ls (.long (lN b) :: .long (lN a) :: rest)) :=
  lv_ladd hx hb hdg (by rw [lN_add]; exact kk)
theorem nv_lshl (hx : p.tables.exec = Jvm.exec) (hb : c.code = cc) (hk : b < 64) (hdg : decode cc pc = .ok (.lshl, 1)) (kk : W p l e R s m args below meth c H locs cells slots Q (F0 m (pc + 1) ls (.long (lN (a * 2 ^ b)) :: rest))) : W p l e R s m args below meth c H locs cells slots Q (F0 m pc ls (.int (nI b) :: .long (lN a) :: rest)) :=
  lv_lshl hx hb hdg (lN_shl hk) kk
theorem nv_lcmp_eq (hx : p.tables.exec = Jvm.exec) (hb : c.code = cc) (hd1 : decode cc pc = .ok (.lcmp, 1)) (hd2 : decode cc (pc + 1) = .ok (.ifCond .eq off, 3)) (ht : ((pc + 1 : Nat) : Int) + off = (tgt : Int))
    (kt : x = y → W p l e R s m args below meth c H locs cells slots Q (F0 m tgt ls rest)) (kf : ¬ x = y → W p l e R s m args below meth c H locs cells slots Q (F0 m (pc + 4) ls rest)) : W p l e R s m args below meth c H locs cells slots Q (F0 m pc ls (.long y :: .long x :: rest)) :=
  W.lcmp hx hb hd1 (lv_if_eq hx hb hd2 ht (fun h => kt ((lg_cmp_eq x y).mp h)) (fun h => kf (fun z => h ((lg_cmp_eq x y).mpr z))))
theorem nv_lcmp_lt (hx : p.tables.exec = Jvm.exec) (hb : c.code = cc) (hd1 : decode cc pc = .ok (.lcmp, 1)) (hd2 : decode cc (pc + 1) = .ok (.ifCond .lt off, 3)) (ht : ((pc + 1 : Nat) : Int) + off = (tgt : Int))
    (kt : x < y → W p l e R s m args below meth c H locs cells slots Q (F0 m tgt ls rest)) (kf : ¬ x < y → W p l e R s m args below meth c H locs cells slots Q (F0 m (pc + 4) ls rest)) : W p l e R s m args below meth c H locs cells slots Q (F0 m pc ls (.long y :: .long x :: rest)) :=
  W.lcmp hx hb hd1 (lv_if_lt hx hb hd2 ht (fun h => kt ((lg_cmp_lt x y).mp h)) (fun h => kf (fun z => h ((lg_cmp_lt x y).mpr z))))
theorem nv_lcmp_ge (hx : p.tables.exec = Jvm.exec) (hb : c.code = cc) (hd1 : decode cc pc = .ok (.lcmp, 1)) (hd2 : decode cc (pc + 1) = .ok (.ifCond .ge off, 3)) (ht : ((pc + 1 : Nat) : Int) + off = (tgt : Int))
    (kt : y ≤ x → W p l e R s m args below meth c H locs cells slots Q (F0 m tgt ls rest)) (kf : ¬ y ≤ x → W p l e R s m args below meth c H locs cells slots Q (F0 m (pc + 4) ls rest)) : W p l e R s m args below meth c H locs cells slots Q (F0 m pc ls (.long y :: .long x :: rest)) :=
  W.lcmp hx hb hd1 (lv_if_ge hx hb hd2 ht (fun h => kt ((lg_cmp_ge x y).mp h)) (fun h => kf (fun z => h ((lg_cmp_ge x y).mpr z))))
theorem nv_lcmp_gt (hx : p.tables.exec = Jvm.exec) (hb : c.code = cc) (hd1 : decode cc pc = .ok (.lcmp, 1)) (hd2 : decode cc (pc + 1) = .ok (.ifCond .gt off, 3)) (ht : ((pc + 1 : Nat) : Int) + off = (tgt : Int))
    (kt : y < x → W p l e R s m args below meth c H locs cells slots Q (F0 m tgt ls rest)) (kf : ¬ y < x → W p l e R s m args below meth c H locs cells slots Q (F0 m (pc + 4) ls rest)) : W p l e R s m args below meth c H locs cells slots Q (F0 m pc ls (.long y :: .long x :: rest)) :=
  W.lcmp hx hb hd1 (lv_if_gt hx hb hd2 ht (fun h => kt ((lg_cmp_gt x y).mp h)) (fun h => kf (fun z => h ((lg_cmp_gt x y).mpr z))))
theorem nv_lcmp_le (hx : p.tables.exec = Jvm.exec) (hb : c.code = cc) (hd1 : decode cc pc = .ok (.lcmp, 1)) (hd2 : decode cc (pc + 1) = .ok (.ifCond .le off, 3)) (ht : ((pc + 1 : Nat) : Int) + off = (tgt : Int))
    (kt : x ≤ y → W p l e R s m args below meth c H locs cells slots Q (F0 m tgt ls rest)) (kf : ¬ x ≤ y → W p l e R s m args below meth c H locs cells slots Q (F0 m (pc + 4) ls rest)) : W p l e R s m args below meth c H locs cells slots Q (F0 m pc ls (.long y :: .long x :: rest)) :=
  W.lcmp hx hb hd1 (lv_if_le hx hb hd2 ht (fun h => kt ((lg_cmp_le x y).mp h)) (fun h => kf (fun z => h ((lg_cmp_le x y).mpr z))))
theorem nv_lcmp_ne (hx : p.tables.exec = Jvm.exec) (hb : c.code = cc) (hd1 : decode cc pc = .ok (.lcmp, 1)) (hd2 : decode cc (pc + 1) = .ok (.ifCond .ne off, 3)) (ht : ((pc + 1 : Nat) : Int) + off = (tgt : Int))
    (kt : ¬ x = y → W p l e R s m args below meth c H locs cells slots Q (F0 m tgt ls rest)) (kf : x = y → W p l e R s m args below meth c H locs cells slots Q (F0 m (pc + 4) ls rest)) : W p l e R s m args below meth c H locs cells slots Q (F0 m pc ls (.long y :: .long x :: rest)) :=
  W.lcmp hx hb hd1 (lv_if_ne hx hb hd2 ht (fun h => kt (fun z => h ((lg_cmp_eq x y).mpr z))) (fun h => kf ((lg_cmp_eq x y).mp h)))
end NV2
/-! packets: bytes that are read through a length -/
def tg_rd (f : Nat → UInt8) (n i : Nat) : Nat := if i < n then (f i).toNat else 0
theorem tg_rd_lt (f : Nat → UInt8) (n i : Nat) : tg_rd f n i < 256 := by
  unfold tg_rd
  split
  · exact UInt8.toNat_lt _
  · decide
theorem tg_rd_in {f : Nat → UInt8} {n i : Nat} (h : i < n) : tg_rd f n i = (f i).toNat := if_pos h
theorem tg_rd_out {f : Nat → UInt8} {n i : Nat} (h : n ≤ i) : tg_rd f n i = 0 := if_neg (Nat.not_lt.mpr h)
def tg_pr (h : Nat → Nat) (i : Nat) : Nat := h i * 256 + h (i + 1)
def tg_qd (h : Nat → Nat) (i : Nat) : Nat := tg_pr h i * 65536 + tg_pr h (i + 2)
def tg_ei (h : Nat → Nat) (i : Nat) : Nat := tg_qd h i * 4294967296 + tg_qd h (i + 4)
def tg_nb (h : Nat → Nat) (i : Nat) : Nat → Nat
  | 0 => 0
  | k + 1 => tg_nb h i k * 256 + h (i + k)
theorem tg_nb_2 (h : Nat → Nat) (i : Nat) : tg_nb h i 2 = tg_pr h i := by simp [tg_nb, tg_pr]
theorem tg_nb_4 (h : Nat → Nat) (i : Nat) : tg_nb h i 4 = tg_qd h i := by simp only [tg_nb, tg_pr, tg_qd, Nat.add_assoc, Nat.add_zero, Nat.reduceAdd]; omega
theorem tg_nb_8 (h : Nat → Nat) (i : Nat) : tg_nb h i 8 = tg_ei h i := by simp only [tg_nb, tg_pr, tg_qd, tg_ei, Nat.add_assoc, Nat.add_zero, Nat.reduceAdd]; omega
theorem tg_pr_lt (f : Nat → UInt8) (n i : Nat) : tg_pr (tg_rd f n) i < 65536 := by
  have h1 := tg_rd_lt f n i
  have h2 := tg_rd_lt f n (i + 1)
  unfold tg_pr
  omega
theorem tg_qd_lt (f : Nat → UInt8) (n i : Nat) : tg_qd (tg_rd f n) i < 4294967296 := by
  have h1 := tg_pr_lt f n i
  have h2 := tg_pr_lt f n (i + 2)
  unfold tg_qd
  omega
theorem tg_ei_lt (f : Nat → UInt8) (n i : Nat) : tg_ei (tg_rd f n) i < 18446744073709551616 := by
  have h1 := tg_qd_lt f n i
  have h2 := tg_qd_lt f n (i + 4)
  unfold tg_ei
  omega
/-- a Bytes object at b in the world: its bytes f, its length n -/
def PK (cy : Nat → ClassId) (ws : va_W) (b : Nat) (f : Nat → UInt8) (n : Nat) : Prop := ∃ kb ka ar N : Nat, ws[kb]? = some (b, .inr (2, [.ref ar, .int (nI n)])) ∧ ws[ka]? = some (ar, .inl (cy 0, N, .inl (bt f))) ∧ n ≤ N ∧ N ≤ 1700
end
section
theorem dX1_length_0 : decode cX1_length 0 = .ok (.aload_n 0, 1) := by decide +kernel
theorem dX1_length_1 : decode cX1_length 1 = .ok (.getfield 19, 3) := by decide +kernel
theorem dX1_length_4 : decode cX1_length 4 = .ok (.ireturn, 1) := by decide +kernel
theorem yv_X1_length : YV RX1 yX1_length cX1_length 1 (some .int) 0 := ⟨kw1_221, kw1_222, kw1_2, kw1_223, by decide +kernel⟩
set_option maxHeartbeats 4000000 in
set_option maxRecDepth 100000 in
theorem c_X1_length {l : Launch} {D : va_G} {cy : Nat → ClassId} {ws : va_W} {b n : Nat} {f : Nat → UInt8} (hB : PK cy ws b f n) : RO l yX1_length cX1_length 1 (some .int) 0 0 [.ref b] D cy ws (.int (nI n)) := by
  refine ROi (by decide) (lv0 := [(0, .ref b)]) rfl (Nat.le_of_ble_eq_true rfl) ?_
  intro p e s m args below meth c ls Q S hP hK hend hl
  have hx := S.1
  have hb := S.2.1
  have hown : s.vm.findClass RX1 = some m.cls := S.2.2.2.1
  have ht : ∀ w ∈ lw_g, w.before args s = true := fun w h => S.2.2.2.2 w (List.mem_cons_of_mem _ h)
  obtain ⟨kb, ka, ar, N, hb0, ha0, hnN, hN⟩ := hB
  refine lv_aload_n hx hb dX1_length_0 rfl (lv_at hl 0 rfl) ?_
  refine va_get (ci := 2) (C := RX1) (T := TX1) (N := 2) hx hb ht iFX1 hown hK hP kb hb0 rfl 1 (by decide) (ht _ kw1_41) (fun _ h9 => h9) rfl dX1_length_1 ?_
  exact hend (rfl) dX1_length_4
theorem dX1_octet_0 : decode cX1_octet 0 = .ok (.iload_n 1, 1) := by decide +kernel
theorem dX1_octet_1 : decode cX1_octet 1 = .ok (.ifCond .lt 24, 3) := by decide +kernel
theorem dX1_octet_4 : decode cX1_octet 4 = .ok (.iload_n 1, 1) := by decide +kernel
theorem dX1_octet_5 : decode cX1_octet 5 = .ok (.aload_n 0, 1) := by decide +kernel
theorem dX1_octet_6 : decode cX1_octet 6 = .ok (.getfield 19, 3) := by decide +kernel
theorem dX1_octet_9 : decode cX1_octet 9 = .ok (.if_icmp .ge 16, 3) := by decide +kernel
theorem dX1_octet_12 : decode cX1_octet 12 = .ok (.aload_n 0, 1) := by decide +kernel
theorem dX1_octet_13 : decode cX1_octet 13 = .ok (.getfield 13, 3) := by decide +kernel
theorem dX1_octet_16 : decode cX1_octet 16 = .ok (.iload_n 1, 1) := by decide +kernel
theorem dX1_octet_17 : decode cX1_octet 17 = .ok (.baload, 1) := by decide +kernel
theorem dX1_octet_18 : decode cX1_octet 18 = .ok (.sipush 255, 3) := by decide +kernel
theorem dX1_octet_21 : decode cX1_octet 21 = .ok (.iand, 1) := by decide +kernel
theorem dX1_octet_22 : decode cX1_octet 22 = .ok (.goto 4, 3) := by decide +kernel
theorem dX1_octet_25 : decode cX1_octet 25 = .ok (.iconst 0, 1) := by decide +kernel
theorem dX1_octet_26 : decode cX1_octet 26 = .ok (.ireturn, 1) := by decide +kernel
theorem yv_X1_octet : YV RX1 yX1_octet cX1_octet 2 (some .int) 1 := ⟨kw2_15, kw2_16, kw1_2, kw2_17, by decide +kernel⟩
set_option maxHeartbeats 4000000 in
set_option maxRecDepth 100000 in
theorem c_X1_octet {l : Launch} {D : va_G} {cy : Nat → ClassId} {ws : va_W} {b n : Nat} {f : Nat → UInt8} (hB : PK cy ws b f n) {k : Nat} (hk : k < 2 ^ 31) : RO l yX1_octet cX1_octet 2 (some .int) 0 0 [.ref b, .int (nI k)] D cy ws (.int (nI (tg_rd f n k))) := by
  refine ROi (by decide) (lv0 := [(0, .ref b), (1, .int (nI k))]) rfl (Nat.le_of_ble_eq_true rfl) ?_
  intro p e s m args below meth c ls Q S hP hK hend hl
  have hx := S.1
  have hb := S.2.1
  have hown : s.vm.findClass RX1 = some m.cls := S.2.2.2.1
  have ht : ∀ w ∈ lw_g, w.before args s = true := fun w h => S.2.2.2.2 w (List.mem_cons_of_mem _ h)
  obtain ⟨kb, ka, ar, N, hb0, ha0, hnN, hN⟩ := hB
  refine lv_iload_n hx hb dX1_octet_0 rfl (lv_at hl 1 rfl) ?_
  refine nv_if_lt (tgt := 25) hx hb dX1_octet_1 (by decide) (by omega) ?_
  refine lv_iload_n hx hb dX1_octet_4 rfl (lv_at hl 1 rfl) ?_
  refine lv_aload_n hx hb dX1_octet_5 rfl (lv_at hl 0 rfl) ?_
  refine va_get (ci := 2) (C := RX1) (T := TX1) (N := 2) hx hb ht iFX1 hown hK hP kb hb0 rfl 1 (by decide) (ht _ kw1_41) (fun _ h9 => h9) rfl dX1_octet_6 ?_
  refine nv_icmp_ge (tgt := 25) hx hb dX1_octet_9 (by decide) (by omega) (by omega) (fun h9 => ?_) (fun h9 => ?_)
  · skip
    refine nv_iconst (k := 0) hx hb dX1_octet_25 rfl ?_
    exact hend ((congrArg nI (tg_rd_out (by omega)).symm)) dX1_octet_26
  refine lv_aload_n hx hb dX1_octet_12 rfl (lv_at hl 0 rfl) ?_
  refine va_get (ci := 2) (C := RX1) (T := TX1) (N := 2) hx hb ht iFX1 hown hK hP kb hb0 rfl 0 (by decide) (ht _ kw1_40) (fun _ h9 => h9) rfl dX1_octet_13 ?_
  refine lv_iload_n hx hb dX1_octet_16 rfl (lv_at hl 1 rfl) ?_
  refine nv_bald hx hb hK hP ka ha0 (by omega) (by omega) dX1_octet_17 ?_
  refine nv_sipush (k := 255) hx hb dX1_octet_18 (by decide) ?_
  refine nv_iandb hx hb dX1_octet_21 ?_
  have hq21 := UInt8.toNat_lt (f (k))
  refine lv_goto (tgt := 26) hx hb dX1_octet_22 (by decide) ?_
  exact hend ((congrArg nI (tg_rd_in (by omega)).symm)) dX1_octet_26
theorem dX1_number_0 : decode cX1_number 0 = .ok (.lconst 0, 1) := by decide +kernel
theorem dX1_number_1 : decode cX1_number 1 = .ok (.lstore_n 3, 1) := by decide +kernel
theorem dX1_number_2 : decode cX1_number 2 = .ok (.iconst 0, 1) := by decide +kernel
theorem dX1_number_3 : decode cX1_number 3 = .ok (.istore 5, 2) := by decide +kernel
theorem dX1_number_5 : decode cX1_number 5 = .ok (.iload 5, 2) := by decide +kernel
theorem dX1_number_7 : decode cX1_number 7 = .ok (.iload_n 2, 1) := by decide +kernel
theorem dX1_number_8 : decode cX1_number 8 = .ok (.if_icmp .ge 51, 3) := by decide +kernel
theorem dX1_number_11 : decode cX1_number 11 = .ok (.iload_n 1, 1) := by decide +kernel
theorem dX1_number_12 : decode cX1_number 12 = .ok (.iload 5, 2) := by decide +kernel
theorem dX1_number_14 : decode cX1_number 14 = .ok (.iadd, 1) := by decide +kernel
theorem dX1_number_15 : decode cX1_number 15 = .ok (.istore 6, 2) := by decide +kernel
theorem dX1_number_17 : decode cX1_number 17 = .ok (.lload_n 3, 1) := by decide +kernel
theorem dX1_number_18 : decode cX1_number 18 = .ok (.bipush 8, 2) := by decide +kernel
theorem dX1_number_20 : decode cX1_number 20 = .ok (.lshl, 1) := by decide +kernel
theorem dX1_number_21 : decode cX1_number 21 = .ok (.iload 6, 2) := by decide +kernel
theorem dX1_number_23 : decode cX1_number 23 = .ok (.ifCond .lt 26, 3) := by decide +kernel
theorem dX1_number_26 : decode cX1_number 26 = .ok (.iload 6, 2) := by decide +kernel
theorem dX1_number_28 : decode cX1_number 28 = .ok (.aload_n 0, 1) := by decide +kernel
theorem dX1_number_29 : decode cX1_number 29 = .ok (.getfield 19, 3) := by decide +kernel
theorem dX1_number_32 : decode cX1_number 32 = .ok (.if_icmp .ge 17, 3) := by decide +kernel
theorem dX1_number_35 : decode cX1_number 35 = .ok (.aload_n 0, 1) := by decide +kernel
theorem dX1_number_36 : decode cX1_number 36 = .ok (.getfield 13, 3) := by decide +kernel
theorem dX1_number_39 : decode cX1_number 39 = .ok (.iload 6, 2) := by decide +kernel
theorem dX1_number_41 : decode cX1_number 41 = .ok (.baload, 1) := by decide +kernel
theorem dX1_number_42 : decode cX1_number 42 = .ok (.sipush 255, 3) := by decide +kernel
theorem dX1_number_45 : decode cX1_number 45 = .ok (.iand, 1) := by decide +kernel
theorem dX1_number_46 : decode cX1_number 46 = .ok (.goto 4, 3) := by decide +kernel
theorem dX1_number_49 : decode cX1_number 49 = .ok (.iconst 0, 1) := by decide +kernel
theorem dX1_number_50 : decode cX1_number 50 = .ok (.i2l, 1) := by decide +kernel
theorem dX1_number_51 : decode cX1_number 51 = .ok (.lor, 1) := by decide +kernel
theorem dX1_number_52 : decode cX1_number 52 = .ok (.lstore_n 3, 1) := by decide +kernel
theorem dX1_number_53 : decode cX1_number 53 = .ok (.iinc 5 1, 3) := by decide +kernel
theorem dX1_number_56 : decode cX1_number 56 = .ok (.goto (-51), 3) := by decide +kernel
theorem dX1_number_59 : decode cX1_number 59 = .ok (.lload_n 3, 1) := by decide +kernel
theorem dX1_number_60 : decode cX1_number 60 = .ok (.lreturn, 1) := by decide +kernel
theorem yv_X1_number : YV RX1 yX1_number cX1_number 7 (some .long) 2 := ⟨kw2_24, kws_2, kw1_2, kw2_25, by decide +kernel⟩
set_option maxHeartbeats 4000000 in
set_option maxRecDepth 100000 in
theorem c_X1_number {l : Launch} {D : va_G} {cy : Nat → ClassId} {ws : va_W} {b n : Nat} {f : Nat → UInt8} (hB : PK cy ws b f n) {a many : Nat} (ha : a < 2 ^ 30) (hm : many ≤ 8) : RO l yX1_number cX1_number 7 (some .long) 0 0 [.ref b, .int (nI a), .int (nI many)] D cy ws (.long (lN (tg_nb (tg_rd f n) a many))) := by
  refine ROl (by decide) (lv0 := [(0, .ref b), (1, .int (nI a)), (2, .int (nI many))]) rfl (Nat.le_of_ble_eq_true rfl) ?_
  intro p e s m args below meth c ls Q S hP hK hend hl
  have hx := S.1
  have hb := S.2.1
  have hown : s.vm.findClass RX1 = some m.cls := S.2.2.2.1
  have ht : ∀ w ∈ lw_g, w.before args s = true := fun w h => S.2.2.2.2 w (List.mem_cons_of_mem _ h)
  obtain ⟨kb, ka, ar, N, hb0, ha0, hnN, hN⟩ := hB
  refine lv_lconst (v := lN 0) hx hb dX1_number_0 (by decide) ?_
  refine lv_lstore_n (lv' := [(3, .long (lN (0))), (0, .ref b), (1, .int (nI a)), (2, .int (nI many))]) hx hb dX1_number_1 rfl hl (by decide) rfl (fun ls hl => ?_)
  refine nv_iconst (k := 0) hx hb dX1_number_2 rfl ?_
  refine lv_istore (lv' := [(5, .int (nI 0)), (3, .long (lN (0))), (0, .ref b), (1, .int (nI a)), (2, .int (nI many))]) hx hb dX1_number_3 hl (by decide) rfl (fun ls hl => ?_)
  have L5 : ∀ (fu i v : Nat), many - i < fu → i ≤ many → v = tg_nb (tg_rd f n) a i → ∀ ls : Array Slot, lv_has ls 7 [(0, .ref b), (1, .int (nI a)), (2, .int (nI many)), (3, .long (lN v)), (5, .int (nI i))] → W p l e (rmo 0 0) s m args below meth c s.heap [] 0 0 Q (F0 m 5 ls []) := by
    intro fu
    induction fu with
    | zero => intro i v h; omega
    | succ fu ih =>
      intro i v hfu hi hv ls hl
      refine lv_iload hx hb dX1_number_5 (lv_at hl 4 rfl) ?_
      refine lv_iload_n hx hb dX1_number_7 rfl (lv_at hl 2 rfl) ?_
      refine nv_icmp_ge (tgt := 59) hx hb dX1_number_8 (by decide) (by omega) (by omega) (fun h8 => ?_) (fun h8 => ?_)
      · skip
        refine lv_lload_n hx hb dX1_number_59 rfl (lv_at hl 3 rfl) ?_
        exact hend ((by rw [hv, show i = many by omega])) dX1_number_60
      refine lv_iload_n hx hb dX1_number_11 rfl (lv_at hl 1 rfl) ?_
      refine lv_iload hx hb dX1_number_12 (lv_at hl 4 rfl) ?_
      refine nv_iadd hx hb dX1_number_14 ?_
      refine lv_istore (lv' := [(6, .int (nI (a + i))), (0, .ref b), (1, .int (nI a)), (2, .int (nI many)), (3, .long (lN (v))), (5, .int (nI i))]) hx hb dX1_number_15 hl (by decide) rfl (fun ls hl => ?_)
      refine lv_lload_n hx hb dX1_number_17 rfl (lv_at hl 4 rfl) ?_
      refine nv_bipush (k := 8) hx hb dX1_number_18 (by decide) ?_
      refine nv_lshl hx hb (by omega) dX1_number_20 ?_
      refine lv_iload hx hb dX1_number_21 (lv_at hl 0 rfl) ?_
      refine nv_if_lt (tgt := 49) hx hb dX1_number_23 (by decide) (by omega) ?_
      refine lv_iload hx hb dX1_number_26 (lv_at hl 0 rfl) ?_
      refine lv_aload_n hx hb dX1_number_28 rfl (lv_at hl 1 rfl) ?_
      refine va_get (ci := 2) (C := RX1) (T := TX1) (N := 2) hx hb ht iFX1 hown hK hP kb hb0 rfl 1 (by decide) (ht _ kw1_41) (fun _ h9 => h9) rfl dX1_number_29 ?_
      refine nv_icmp_ge (tgt := 49) hx hb dX1_number_32 (by decide) (by omega) (by omega) (fun h32 => ?_) (fun h32 => ?_)
      · skip
        refine nv_iconst (k := 0) hx hb dX1_number_49 rfl ?_
        refine nv_i2l hx hb (by omega) dX1_number_50 ?_
        refine nv_lor 8 hx hb (by omega) dX1_number_51 ?_
        refine lv_lstore_n (lv' := [(3, .long (lN ((v) * 2 ^ 8 + 0))), (6, .int (nI (a + i))), (0, .ref b), (1, .int (nI a)), (2, .int (nI many)), (5, .int (nI i))]) hx hb dX1_number_52 rfl hl (by decide) rfl (fun ls hl => ?_)
        refine lv_iinc (v := (nI (i + 1))) (lv' := [(5, .int (nI (i + 1))), (3, .long (lN ((v) * 2 ^ 8 + 0))), (6, .int (nI (a + i))), (0, .ref b), (1, .int (nI a)), (2, .int (nI many))]) hx hb dX1_number_53 hl (k := 5) rfl (nI_inc _ _) (by decide) rfl (fun ls hl => ?_)
        refine lv_goto (tgt := 5) hx hb dX1_number_56 (by decide) ?_
        exact ih (i + 1) ((v) * 2 ^ 8 + 0) (by omega) (by omega) (by rw [hv]; simp only [tg_nb]; first | rw [tg_rd_in h32] | rw [tg_rd_out h32]) ls (lv_sub hl [3, 4, 5, 1, 0] rfl)
      refine lv_aload_n hx hb dX1_number_35 rfl (lv_at hl 1 rfl) ?_
      refine va_get (ci := 2) (C := RX1) (T := TX1) (N := 2) hx hb ht iFX1 hown hK hP kb hb0 rfl 0 (by decide) (ht _ kw1_40) (fun _ h9 => h9) rfl dX1_number_36 ?_
      refine lv_iload hx hb dX1_number_39 (lv_at hl 0 rfl) ?_
      refine nv_bald hx hb hK hP ka ha0 (by omega) (by omega) dX1_number_41 ?_
      refine nv_sipush (k := 255) hx hb dX1_number_42 (by decide) ?_
      refine nv_iandb hx hb dX1_number_45 ?_
      have hq45 := UInt8.toNat_lt (f (a + i))
      refine lv_goto (tgt := 50) hx hb dX1_number_46 (by decide) ?_
      refine nv_i2l hx hb (by omega) dX1_number_50 ?_
      refine nv_lor 8 hx hb (by omega) dX1_number_51 ?_
      refine lv_lstore_n (lv' := [(3, .long (lN ((v) * 2 ^ 8 + (f (a + i)).toNat))), (6, .int (nI (a + i))), (0, .ref b), (1, .int (nI a)), (2, .int (nI many)), (5, .int (nI i))]) hx hb dX1_number_52 rfl hl (by decide) rfl (fun ls hl => ?_)
      refine lv_iinc (v := (nI (i + 1))) (lv' := [(5, .int (nI (i + 1))), (3, .long (lN ((v) * 2 ^ 8 + (f (a + i)).toNat))), (6, .int (nI (a + i))), (0, .ref b), (1, .int (nI a)), (2, .int (nI many))]) hx hb dX1_number_53 hl (k := 5) rfl (nI_inc _ _) (by decide) rfl (fun ls hl => ?_)
      refine lv_goto (tgt := 5) hx hb dX1_number_56 (by decide) ?_
      exact ih (i + 1) ((v) * 2 ^ 8 + (f (a + i)).toNat) (by omega) (by omega) (by rw [hv]; simp only [tg_nb]; first | rw [tg_rd_in h32] | rw [tg_rd_out h32]) ls (lv_sub hl [3, 4, 5, 1, 0] rfl)
  exact L5 (many + 1) 0 0 (by omega) (by omega) rfl ls (lv_sub hl [2, 3, 4, 1, 0] rfl)
theorem dX1_pair_0 : decode cX1_pair 0 = .ok (.aload_n 0, 1) := by decide +kernel
theorem dX1_pair_1 : decode cX1_pair 1 = .ok (.iload_n 1, 1) := by decide +kernel
theorem dX1_pair_2 : decode cX1_pair 2 = .ok (.iconst 2, 1) := by decide +kernel
theorem dX1_pair_3 : decode cX1_pair 3 = .ok (.invokevirtual 26, 3) := by decide +kernel
theorem dX1_pair_6 : decode cX1_pair 6 = .ok (.l2i, 1) := by decide +kernel
theorem dX1_pair_7 : decode cX1_pair 7 = .ok (.ireturn, 1) := by decide +kernel
theorem yv_X1_pair : YV RX1 yX1_pair cX1_pair 2 (some .int) 1 := ⟨kw2_19, kw2_20, kw1_2, kw2_21, by decide +kernel⟩
set_option maxHeartbeats 4000000 in
set_option maxRecDepth 100000 in
theorem c_X1_pair {l : Launch} {D : va_G} {cy : Nat → ClassId} {ws : va_W} {b n : Nat} {f : Nat → UInt8} (hB : PK cy ws b f n) {a : Nat} (ha : a < 2 ^ 30) : RO l yX1_pair cX1_pair 2 (some .int) 1 26 [.ref b, .int (nI a)] D cy ws (.int (nI (tg_pr (tg_rd f n) a))) := by
  refine ROi (by decide) (lv0 := [(0, .ref b), (1, .int (nI a))]) rfl (Nat.le_of_ble_eq_true rfl) ?_
  intro p e s m args below meth c ls Q S hP hK hend hl
  have hx := S.1
  have hb := S.2.1
  have hown : s.vm.findClass RX1 = some m.cls := S.2.2.2.1
  have ht : ∀ w ∈ lw_g, w.before args s = true := fun w h => S.2.2.2.2 w (List.mem_cons_of_mem _ h)
  obtain ⟨kb, ka, ar, N, hb0, ha0, hnN, hN⟩ := id hB
  refine lv_aload_n hx hb dX1_pair_0 rfl (lv_at hl 0 rfl) ?_
  refine lv_iload_n hx hb dX1_pair_1 rfl (lv_at hl 1 rfl) ?_
  refine nv_iconst (k := 2) hx hb dX1_pair_2 rfl ?_
  refine ro_V S (c_X1_number hB (a := a) (many := 2) (by omega) (by omega)) kw2_22 yv_X1_number ⟨Nat.le_of_ble_eq_true rfl, Nat.le_of_ble_eq_true rfl⟩ hK hP (va_recv hK hP (ci := 2) (q0 := kb) rfl hb0) rfl hl.1 rfl (Nat.le_of_ble_eq_true rfl) dX1_pair_3 ⟨Nat.le_refl _, Nat.le_refl _⟩ ?_
  refine nv_l2i hx hb dX1_pair_6 ?_
  exact hend ((by rw [tg_nb_2])) dX1_pair_7
theorem dX1_quad_0 : decode cX1_quad 0 = .ok (.aload_n 0, 1) := by decide +kernel
theorem dX1_quad_1 : decode cX1_quad 1 = .ok (.iload_n 1, 1) := by decide +kernel
theorem dX1_quad_2 : decode cX1_quad 2 = .ok (.iconst 4, 1) := by decide +kernel
theorem dX1_quad_3 : decode cX1_quad 3 = .ok (.invokevirtual 26, 3) := by decide +kernel
theorem dX1_quad_6 : decode cX1_quad 6 = .ok (.l2i, 1) := by decide +kernel
theorem dX1_quad_7 : decode cX1_quad 7 = .ok (.ireturn, 1) := by decide +kernel
theorem yv_X1_quad : YV RX1 yX1_quad cX1_quad 2 (some .int) 1 := ⟨kw3_182, kw3_183, kw1_2, kw3_184, by decide +kernel⟩
set_option maxHeartbeats 4000000 in
set_option maxRecDepth 100000 in
theorem c_X1_quad {l : Launch} {D : va_G} {cy : Nat → ClassId} {ws : va_W} {b n : Nat} {f : Nat → UInt8} (hB : PK cy ws b f n) {a : Nat} (ha : a < 2 ^ 30) : RO l yX1_quad cX1_quad 2 (some .int) 1 26 [.ref b, .int (nI a)] D cy ws (.int (nI (tg_qd (tg_rd f n) a))) := by
  refine ROi (by decide) (lv0 := [(0, .ref b), (1, .int (nI a))]) rfl (Nat.le_of_ble_eq_true rfl) ?_
  intro p e s m args below meth c ls Q S hP hK hend hl
  have hx := S.1
  have hb := S.2.1
  have hown : s.vm.findClass RX1 = some m.cls := S.2.2.2.1
  have ht : ∀ w ∈ lw_g, w.before args s = true := fun w h => S.2.2.2.2 w (List.mem_cons_of_mem _ h)
  obtain ⟨kb, ka, ar, N, hb0, ha0, hnN, hN⟩ := id hB
  refine lv_aload_n hx hb dX1_quad_0 rfl (lv_at hl 0 rfl) ?_
  refine lv_iload_n hx hb dX1_quad_1 rfl (lv_at hl 1 rfl) ?_
  refine nv_iconst (k := 4) hx hb dX1_quad_2 rfl ?_
  refine ro_V S (c_X1_number hB (a := a) (many := 4) (by omega) (by omega)) kw2_22 yv_X1_number ⟨Nat.le_of_ble_eq_true rfl, Nat.le_of_ble_eq_true rfl⟩ hK hP (va_recv hK hP (ci := 2) (q0 := kb) rfl hb0) rfl hl.1 rfl (Nat.le_of_ble_eq_true rfl) dX1_quad_3 ⟨Nat.le_refl _, Nat.le_refl _⟩ ?_
  refine nv_l2i hx hb dX1_quad_6 ?_
  exact hend ((by rw [tg_nb_4])) dX1_quad_7
theorem dX1_eight_0 : decode cX1_eight 0 = .ok (.aload_n 0, 1) := by decide +kernel
theorem dX1_eight_1 : decode cX1_eight 1 = .ok (.iload_n 1, 1) := by decide +kernel
theorem dX1_eight_2 : decode cX1_eight 2 = .ok (.bipush 8, 2) := by decide +kernel
theorem dX1_eight_4 : decode cX1_eight 4 = .ok (.invokevirtual 26, 3) := by decide +kernel
theorem dX1_eight_7 : decode cX1_eight 7 = .ok (.lreturn, 1) := by decide +kernel
theorem yv_X1_eight : YV RX1 yX1_eight cX1_eight 2 (some .long) 1 := ⟨kw2_78, kw2_79, kw1_2, kw2_80, by decide +kernel⟩
set_option maxHeartbeats 4000000 in
set_option maxRecDepth 100000 in
theorem c_X1_eight {l : Launch} {D : va_G} {cy : Nat → ClassId} {ws : va_W} {b n : Nat} {f : Nat → UInt8} (hB : PK cy ws b f n) {a : Nat} (ha : a < 2 ^ 30) : RO l yX1_eight cX1_eight 2 (some .long) 1 26 [.ref b, .int (nI a)] D cy ws (.long (lN (tg_ei (tg_rd f n) a))) := by
  refine ROl (by decide) (lv0 := [(0, .ref b), (1, .int (nI a))]) rfl (Nat.le_of_ble_eq_true rfl) ?_
  intro p e s m args below meth c ls Q S hP hK hend hl
  have hx := S.1
  have hb := S.2.1
  have hown : s.vm.findClass RX1 = some m.cls := S.2.2.2.1
  have ht : ∀ w ∈ lw_g, w.before args s = true := fun w h => S.2.2.2.2 w (List.mem_cons_of_mem _ h)
  obtain ⟨kb, ka, ar, N, hb0, ha0, hnN, hN⟩ := id hB
  refine lv_aload_n hx hb dX1_eight_0 rfl (lv_at hl 0 rfl) ?_
  refine lv_iload_n hx hb dX1_eight_1 rfl (lv_at hl 1 rfl) ?_
  refine nv_bipush (k := 8) hx hb dX1_eight_2 (by decide) ?_
  refine ro_V S (c_X1_number hB (a := a) (many := 8) (by omega) (by omega)) kw2_22 yv_X1_number ⟨Nat.le_of_ble_eq_true rfl, Nat.le_of_ble_eq_true rfl⟩ hK hP (va_recv hK hP (ci := 2) (q0 := kb) rfl hb0) rfl hl.1 rfl (Nat.le_of_ble_eq_true rfl) dX1_eight_4 ⟨Nat.le_refl _, Nat.le_refl _⟩ ?_
  exact hend ((by rw [tg_nb_8])) dX1_eight_7
end
section
/-! WHAT THE PARTS OF A PACKET SAY: h reads its bytes (0 beyond its end), n is how many it has -/
theorem nv_top {p : Program} {l : Launch} {e : Env} {R : Room} {s : State} {m : MethodId} {args : Array Value} {below : List Frame} {meth : Method} {c : Code} {H : Heap} {locs : List Loc} {cells slots : Nat} {Q : State → Prop} {pc : Nat} {ls : Array Slot} {rest : List Value} {a : Nat} (k : ∀ y : Nat, y = a → W p l e R s m args below meth c H locs cells slots Q (F0 m pc ls (.int (nI y) :: rest))) : W p l e R s m args below meth c H locs cells slots Q (F0 m pc ls (.int (nI a) :: rest)) := k a rfl
theorem nv_topL {p : Program} {l : Launch} {e : Env} {R : Room} {s : State} {m : MethodId} {args : Array Value} {below : List Frame} {meth : Method} {c : Code} {H : Heap} {locs : List Loc} {cells slots : Nat} {Q : State → Prop} {pc : Nat} {ls : Array Slot} {rest : List Value} {a : Nat} (k : ∀ y : Nat, y = a → W p l e R s m args below meth c H locs cells slots Q (F0 m pc ls (.long (lN y) :: rest))) : W p l e R s m args below meth c H locs cells slots Q (F0 m pc ls (.long (lN a) :: rest)) := k a rfl
theorem nv_ldc {p : Program} {l : Launch} {e : Env} {R : Room} {s : State} {m : MethodId} {args : Array Value} {below : List Frame} {meth : Method} {c : Code} {H : Heap} {locs : List Loc} {cells slots : Nat} {Q : State → Prop} {cc : ByteArray} {pc : Nat} {ls : Array Slot} {rest : List Value} {own : String} {index k : Nat} {v : Int32} (hx : p.tables.exec = Jvm.exec) (hb : c.code = cc) (hown : s.vm.findClass own = some m.cls) (hconst : (Jvm.Cond.constant own index v).before args s = true) (hv : v = nI k) (hdg : decode cc pc = .ok (.ldc index, 2)) (kk : W p l e R s m args below meth c H locs cells slots Q (F0 m (pc + 2) ls (.int (nI k) :: rest))) : W p l e R s m args below meth c H locs cells slots Q (F0 m pc ls rest) :=
  lv_ldc hx hb hown hconst hdg (by rw [hv]; exact kk)
theorem nI_not {a : Nat} (h : a ≤ 65535) : (nI a ^^^ (-1)) &&& nI 65535 = nI (65535 - a) := by
  rw [pk_and (nI a ^^^ (-1)) 16 (by decide)]
  congr 1
  have h1 : (nI a ^^^ (-1)).toBitVec = ~~~ (BitVec.ofNat 32 a) := by
    show BitVec.ofNat 32 a ^^^ BitVec.allOnes 32 = ~~~ (BitVec.ofNat 32 a)
    exact BitVec.xor_allOnes
  rw [h1, BitVec.toNat_not, BitVec.toNat_ofNat]
  omega
def tg_head (h : Nat → Nat) : Nat := if h 0 / 16 = 4 then 20 else if h 0 / 16 = 6 then 40 else 0
def tg_proto (h : Nat → Nat) (hd : Nat) : Nat := if hd = 40 then h 6 else h 9
def tg_sumAt (q : Nat) : Nat := if q = 6 then 16 else if q = 17 then 6 else 2
def tg_ports (q : Nat) : Bool := decide (q = 6 ∨ q = 17)
def tg_spa (q : Nat) : Nat := if q = 6 ∨ q = 17 then 0 else 4
def tg_dpa (q : Nat) : Nat := if q = 6 ∨ q = 17 then 2 else 4
def tg_tcp (h : Nat → Nat) (n hd : Nat) : Bool := decide (20 ≤ n - hd ∧ 5 ≤ h (hd + 12) / 16 ∧ 4 * (h (hd + 12) / 16) ≤ n - hd)
def tg_udp (h : Nat → Nat) (n hd : Nat) : Bool := decide (8 ≤ n - hd ∧ tg_pr h (hd + 4) = n - hd)
def tg_icmp (n hd : Nat) : Bool := decide (8 ≤ n - hd)
def tg_isErr (h : Nat → Nat) : Bool := decide (h 9 = 1 ∧ (h 20 = 3 ∨ h 20 = 11))
def tg_event (h : Nat → Nat) (hd q : Nat) : Nat := if q ≠ 6 then 0 else if h (hd + 13) &&& 4 ≠ 0 then 3 else if h (hd + 13) &&& 2 ≠ 0 then 2 else if h (hd + 13) % 2 ≠ 0 then 1 else 0
def tg_ws (h : Nat → Nat) (a z : Nat) : Nat → Nat
  | 0 => 0
  | k + 1 => tg_ws h a z k + (if a + k = z ∨ a + k = z + 1 then 0 else if k % 2 = 0 then h (a + k) * 256 else h (a + k))
theorem tg_ws_le (f : Nat → UInt8) (n a z : Nat) : ∀ k, tg_ws (tg_rd f n) a z k ≤ 65280 * k
  | 0 => Nat.le_refl _
  | k + 1 => by
    have h1 := tg_ws_le f n a z k
    have h2 := tg_rd_lt f n (a + k)
    unfold tg_ws
    (repeat' split) <;> omega
def tg_cl (t : Nat) : Nat := 65535 - ((t % 65536 + t / 65536) % 65536 + (t % 65536 + t / 65536) / 65536)
def tg_pre (h : Nat → Nat) (hd n q : Nat) : Nat := if hd = 40 then tg_ws h 8 40 32 + (n - hd) + q else if q = 1 then 0 else tg_ws h 12 20 8 + (n - hd) + q
def tg_sum (h : Nat → Nat) (hd n z q : Nat) : Nat := if q = 17 ∧ tg_cl (tg_ws h hd z (n - hd) + tg_pre h hd n q) = 0 then 65535 else tg_cl (tg_ws h hd z (n - hd) + tg_pre h hd n q)
def tg_headOk (h : Nat → Nat) : Bool := decide (tg_pr h 10 = tg_cl (tg_ws h 0 10 20))
def tg_place (h : Nat → Nat) (hd : Nat) : Nat := hd + tg_sumAt (tg_proto h hd)
def tg_partOk (h : Nat → Nat) (n hd : Nat) : Bool := decide (tg_pr h (tg_place h hd) = tg_sum h hd n (tg_place h hd) (tg_proto h hd))
theorem tg_cl_le (t : Nat) : tg_cl t ≤ 65535 := Nat.sub_le _ _
theorem tg_proto_lt (f : Nat → UInt8) (n hd : Nat) : tg_proto (tg_rd f n) hd < 256 := by
  have h1 := tg_rd_lt f n 6
  have h2 := tg_rd_lt f n 9
  unfold tg_proto
  split <;> omega
theorem tg_sumAt_le (q : Nat) : tg_sumAt q ≤ 16 := by unfold tg_sumAt; (repeat' split) <;> omega
theorem tg_spa_le (q : Nat) : tg_spa q ≤ 4 := by unfold tg_spa; (repeat' split) <;> omega
theorem tg_dpa_le (q : Nat) : tg_dpa q ≤ 4 := by unfold tg_dpa; (repeat' split) <;> omega
theorem tg_sum_le (h : Nat → Nat) (hd n z q : Nat) : tg_sum h hd n z q ≤ 65535 := by
  have h1 := tg_cl_le (tg_ws h hd z (n - hd) + tg_pre h hd n q)
  unfold tg_sum
  split <;> omega
theorem tg_event_le (h : Nat → Nat) (hd q : Nat) : tg_event h hd q ≤ 3 := by unfold tg_event; (repeat' split) <;> omega
end
section
theorem dX4_headOf_0 : decode cX4_headOf 0 = .ok (.aload_n 0, 1) := by decide +kernel
theorem dX4_headOf_1 : decode cX4_headOf 1 = .ok (.iconst 0, 1) := by decide +kernel
theorem dX4_headOf_2 : decode cX4_headOf 2 = .ok (.invokevirtual 9, 3) := by decide +kernel
theorem dX4_headOf_5 : decode cX4_headOf 5 = .ok (.iconst 4, 1) := by decide +kernel
theorem dX4_headOf_6 : decode cX4_headOf 6 = .ok (.iushr, 1) := by decide +kernel
theorem dX4_headOf_7 : decode cX4_headOf 7 = .ok (.istore_n 1, 1) := by decide +kernel
theorem dX4_headOf_8 : decode cX4_headOf 8 = .ok (.iload_n 1, 1) := by decide +kernel
theorem dX4_headOf_9 : decode cX4_headOf 9 = .ok (.iconst 4, 1) := by decide +kernel
theorem dX4_headOf_10 : decode cX4_headOf 10 = .ok (.if_icmp .ne 6, 3) := by decide +kernel
theorem dX4_headOf_13 : decode cX4_headOf 13 = .ok (.bipush 20, 2) := by decide +kernel
theorem dX4_headOf_15 : decode cX4_headOf 15 = .ok (.ireturn, 1) := by decide +kernel
theorem dX4_headOf_16 : decode cX4_headOf 16 = .ok (.iload_n 1, 1) := by decide +kernel
theorem dX4_headOf_17 : decode cX4_headOf 17 = .ok (.bipush 6, 2) := by decide +kernel
theorem dX4_headOf_19 : decode cX4_headOf 19 = .ok (.if_icmp .ne 8, 3) := by decide +kernel
theorem dX4_headOf_22 : decode cX4_headOf 22 = .ok (.bipush 40, 2) := by decide +kernel
theorem dX4_headOf_24 : decode cX4_headOf 24 = .ok (.goto 4, 3) := by decide +kernel
theorem dX4_headOf_27 : decode cX4_headOf 27 = .ok (.iconst 0, 1) := by decide +kernel
theorem dX4_headOf_28 : decode cX4_headOf 28 = .ok (.ireturn, 1) := by decide +kernel
theorem yv_X4_headOf : YS yX4_headOf cX4_headOf 2 (some .int) 1 := ⟨kw4_21, kw1_12, kw4_22, by decide +kernel⟩
set_option maxHeartbeats 4000000 in
set_option maxRecDepth 100000 in
theorem c_X4_headOf {l : Launch} {D : va_G} {cy : Nat → ClassId} {ws : va_W} {b n : Nat} {f : Nat → UInt8} (hB : PK cy ws b f n)  : RO l yX4_headOf cX4_headOf 2 (some .int) 1 21 [.ref b] D cy ws (.int (nI (tg_head (tg_rd f n)))) := by
  refine ROi (by decide) (lv0 := [(0, .ref b)]) rfl (Nat.le_of_ble_eq_true rfl) ?_
  intro p e s m args below meth c ls Q S hP hK hend hl
  have hx := S.1
  have hb := S.2.1
  have hown : s.vm.findClass RX4 = some m.cls := S.2.2.2.1
  have ht : ∀ w ∈ lw_g, w.before args s = true := fun w h => S.2.2.2.2 w (List.mem_cons_of_mem _ h)
  obtain ⟨kb, ka, ar, N, hb0, ha0, hnN, hN⟩ := id hB
  refine lv_aload_n hx hb dX4_headOf_0 rfl (lv_at hl 0 rfl) ?_
  refine nv_iconst (k := 0) hx hb dX4_headOf_1 rfl ?_
  refine ro_V S (c_X1_octet hB (k := 0) (by omega)) kw2_33 yv_X1_octet ⟨Nat.le_of_ble_eq_true rfl, Nat.le_of_ble_eq_true rfl⟩ hK hP (va_recv hK hP (ci := 2) (q0 := kb) rfl hb0) rfl hl.1 rfl (Nat.le_of_ble_eq_true rfl) dX4_headOf_2 ⟨Nat.le_refl _, Nat.le_refl _⟩ ?_
  have hq2 := tg_rd_lt f n 0
  refine nv_iconst (k := 4) hx hb dX4_headOf_5 rfl ?_
  refine nv_iushr hx hb (by omega) (by omega) dX4_headOf_6 ?_
  refine lv_istore_n (lv' := [(1, .int (nI ((tg_rd f n 0) / 2 ^ 4))), (0, .ref b)]) hx hb dX4_headOf_7 rfl hl (by decide) rfl (fun ls hl => ?_)
  refine lv_iload_n hx hb dX4_headOf_8 rfl (lv_at hl 0 rfl) ?_
  refine nv_iconst (k := 4) hx hb dX4_headOf_9 rfl ?_
  refine nv_icmp_ne (tgt := 16) hx hb dX4_headOf_10 (by decide) (by omega) (by omega) (fun h10 => ?_) (fun h10 => ?_)
  · skip
    refine lv_iload_n hx hb dX4_headOf_16 rfl (lv_at hl 0 rfl) ?_
    refine nv_bipush (k := 6) hx hb dX4_headOf_17 (by decide) ?_
    refine nv_icmp_ne (tgt := 27) hx hb dX4_headOf_19 (by decide) (by omega) (by omega) (fun h19 => ?_) (fun h19 => ?_)
    · skip
      refine nv_iconst (k := 0) hx hb dX4_headOf_27 rfl ?_
      exact hend ((congrArg nI (by simp only [tg_head]; (repeat' split) <;> omega))) dX4_headOf_28
    refine nv_bipush (k := 40) hx hb dX4_headOf_22 (by decide) ?_
    refine lv_goto (tgt := 28) hx hb dX4_headOf_24 (by decide) ?_
    exact hend ((congrArg nI (by simp only [tg_head]; (repeat' split) <;> omega))) dX4_headOf_28
  refine nv_bipush (k := 20) hx hb dX4_headOf_13 (by decide) ?_
  exact hend ((congrArg nI (by simp only [tg_head]; (repeat' split) <;> omega))) dX4_headOf_15
theorem dX4_protocolOf_0 : decode cX4_protocolOf 0 = .ok (.aload_n 0, 1) := by decide +kernel
theorem dX4_protocolOf_1 : decode cX4_protocolOf 1 = .ok (.iload_n 1, 1) := by decide +kernel
theorem dX4_protocolOf_2 : decode cX4_protocolOf 2 = .ok (.bipush 40, 2) := by decide +kernel
theorem dX4_protocolOf_4 : decode cX4_protocolOf 4 = .ok (.if_icmp .ne 8, 3) := by decide +kernel
theorem dX4_protocolOf_7 : decode cX4_protocolOf 7 = .ok (.bipush 6, 2) := by decide +kernel
theorem dX4_protocolOf_9 : decode cX4_protocolOf 9 = .ok (.goto 5, 3) := by decide +kernel
theorem dX4_protocolOf_12 : decode cX4_protocolOf 12 = .ok (.bipush 9, 2) := by decide +kernel
theorem dX4_protocolOf_14 : decode cX4_protocolOf 14 = .ok (.invokevirtual 9, 3) := by decide +kernel
theorem dX4_protocolOf_17 : decode cX4_protocolOf 17 = .ok (.ireturn, 1) := by decide +kernel
theorem yv_X4_protocolOf : YS yX4_protocolOf cX4_protocolOf 2 (some .int) 2 := ⟨kw2_48, kw1_12, kw2_49, by decide +kernel⟩
set_option maxHeartbeats 4000000 in
set_option maxRecDepth 100000 in
theorem c_X4_protocolOf {l : Launch} {D : va_G} {cy : Nat → ClassId} {ws : va_W} {b n : Nat} {f : Nat → UInt8} (hB : PK cy ws b f n) {hd : Nat} (hh : hd < 2 ^ 20) : RO l yX4_protocolOf cX4_protocolOf 2 (some .int) 1 21 [.ref b, .int (nI hd)] D cy ws (.int (nI (tg_proto (tg_rd f n) hd))) := by
  refine ROi (by decide) (lv0 := [(0, .ref b), (1, .int (nI hd))]) rfl (Nat.le_of_ble_eq_true rfl) ?_
  intro p e s m args below meth c ls Q S hP hK hend hl
  have hx := S.1
  have hb := S.2.1
  have hown : s.vm.findClass RX4 = some m.cls := S.2.2.2.1
  have ht : ∀ w ∈ lw_g, w.before args s = true := fun w h => S.2.2.2.2 w (List.mem_cons_of_mem _ h)
  obtain ⟨kb, ka, ar, N, hb0, ha0, hnN, hN⟩ := id hB
  refine lv_aload_n hx hb dX4_protocolOf_0 rfl (lv_at hl 0 rfl) ?_
  refine lv_iload_n hx hb dX4_protocolOf_1 rfl (lv_at hl 1 rfl) ?_
  refine nv_bipush (k := 40) hx hb dX4_protocolOf_2 (by decide) ?_
  refine nv_icmp_ne (tgt := 12) hx hb dX4_protocolOf_4 (by decide) (by omega) (by omega) (fun h4 => ?_) (fun h4 => ?_)
  · skip
    refine nv_bipush (k := 9) hx hb dX4_protocolOf_12 (by decide) ?_
    refine ro_V S (c_X1_octet hB (k := 9) (by omega)) kw2_33 yv_X1_octet ⟨Nat.le_of_ble_eq_true rfl, Nat.le_of_ble_eq_true rfl⟩ hK hP (va_recv hK hP (ci := 2) (q0 := kb) rfl hb0) rfl hl.1 rfl (Nat.le_of_ble_eq_true rfl) dX4_protocolOf_14 ⟨Nat.le_refl _, Nat.le_refl _⟩ ?_
    have hq14 := tg_rd_lt f n 9
    exact hend ((congrArg nI (by simp only [tg_proto]; (repeat' split) <;> omega))) dX4_protocolOf_17
  refine nv_bipush (k := 6) hx hb dX4_protocolOf_7 (by decide) ?_
  refine lv_goto (tgt := 14) hx hb dX4_protocolOf_9 (by decide) ?_
  refine ro_V S (c_X1_octet hB (k := 6) (by omega)) kw2_33 yv_X1_octet ⟨Nat.le_of_ble_eq_true rfl, Nat.le_of_ble_eq_true rfl⟩ hK hP (va_recv hK hP (ci := 2) (q0 := kb) rfl hb0) rfl hl.1 rfl (Nat.le_of_ble_eq_true rfl) dX4_protocolOf_14 ⟨Nat.le_refl _, Nat.le_refl _⟩ ?_
  have hq14 := tg_rd_lt f n 6
  exact hend ((congrArg nI (by simp only [tg_proto]; (repeat' split) <;> omega))) dX4_protocolOf_17
theorem dX4_sumAt_0 : decode cX4_sumAt 0 = .ok (.iload_n 0, 1) := by decide +kernel
theorem dX4_sumAt_1 : decode cX4_sumAt 1 = .ok (.bipush 6, 2) := by decide +kernel
theorem dX4_sumAt_3 : decode cX4_sumAt 3 = .ok (.if_icmp .ne 6, 3) := by decide +kernel
theorem dX4_sumAt_6 : decode cX4_sumAt 6 = .ok (.bipush 16, 2) := by decide +kernel
theorem dX4_sumAt_8 : decode cX4_sumAt 8 = .ok (.ireturn, 1) := by decide +kernel
theorem dX4_sumAt_9 : decode cX4_sumAt 9 = .ok (.iload_n 0, 1) := by decide +kernel
theorem dX4_sumAt_10 : decode cX4_sumAt 10 = .ok (.bipush 17, 2) := by decide +kernel
theorem dX4_sumAt_12 : decode cX4_sumAt 12 = .ok (.if_icmp .ne 8, 3) := by decide +kernel
theorem dX4_sumAt_15 : decode cX4_sumAt 15 = .ok (.bipush 6, 2) := by decide +kernel
theorem dX4_sumAt_17 : decode cX4_sumAt 17 = .ok (.goto 4, 3) := by decide +kernel
theorem dX4_sumAt_20 : decode cX4_sumAt 20 = .ok (.iconst 2, 1) := by decide +kernel
theorem dX4_sumAt_21 : decode cX4_sumAt 21 = .ok (.ireturn, 1) := by decide +kernel
theorem yv_X4_sumAt : YS yX4_sumAt cX4_sumAt 1 (some .int) 1 := ⟨kw2_51, kw1_12, kw2_52, by decide +kernel⟩
set_option maxHeartbeats 4000000 in
set_option maxRecDepth 100000 in
theorem c_X4_sumAt {l : Launch} {D : va_G} {cy : Nat → ClassId} {ws : va_W} {q : Nat} (hq : q < 2 ^ 31) : RO l yX4_sumAt cX4_sumAt 1 (some .int) 0 0 [.int (nI q)] D cy ws (.int (nI (tg_sumAt q))) := by
  refine ROi (by decide) (lv0 := [(0, .int (nI q))]) rfl (Nat.le_of_ble_eq_true rfl) ?_
  intro p e s m args below meth c ls Q S hP hK hend hl
  have hx := S.1
  have hb := S.2.1
  have hown : s.vm.findClass RX4 = some m.cls := S.2.2.2.1
  have ht : ∀ w ∈ lw_g, w.before args s = true := fun w h => S.2.2.2.2 w (List.mem_cons_of_mem _ h)
  refine lv_iload_n hx hb dX4_sumAt_0 rfl (lv_at hl 0 rfl) ?_
  refine nv_bipush (k := 6) hx hb dX4_sumAt_1 (by decide) ?_
  refine nv_icmp_ne (tgt := 9) hx hb dX4_sumAt_3 (by decide) (by omega) (by omega) (fun h3 => ?_) (fun h3 => ?_)
  · skip
    refine lv_iload_n hx hb dX4_sumAt_9 rfl (lv_at hl 0 rfl) ?_
    refine nv_bipush (k := 17) hx hb dX4_sumAt_10 (by decide) ?_
    refine nv_icmp_ne (tgt := 20) hx hb dX4_sumAt_12 (by decide) (by omega) (by omega) (fun h12 => ?_) (fun h12 => ?_)
    · skip
      refine nv_iconst (k := 2) hx hb dX4_sumAt_20 rfl ?_
      exact hend ((congrArg nI (by simp only [tg_sumAt]; (repeat' split) <;> omega))) dX4_sumAt_21
    refine nv_bipush (k := 6) hx hb dX4_sumAt_15 (by decide) ?_
    refine lv_goto (tgt := 21) hx hb dX4_sumAt_17 (by decide) ?_
    exact hend ((congrArg nI (by simp only [tg_sumAt]; (repeat' split) <;> omega))) dX4_sumAt_21
  refine nv_bipush (k := 16) hx hb dX4_sumAt_6 (by decide) ?_
  exact hend ((congrArg nI (by simp only [tg_sumAt]; (repeat' split) <;> omega))) dX4_sumAt_8
theorem dX4_hasPorts_0 : decode cX4_hasPorts 0 = .ok (.iload_n 0, 1) := by decide +kernel
theorem dX4_hasPorts_1 : decode cX4_hasPorts 1 = .ok (.bipush 6, 2) := by decide +kernel
theorem dX4_hasPorts_3 : decode cX4_hasPorts 3 = .ok (.if_icmp .eq 9, 3) := by decide +kernel
theorem dX4_hasPorts_6 : decode cX4_hasPorts 6 = .ok (.iload_n 0, 1) := by decide +kernel
theorem dX4_hasPorts_7 : decode cX4_hasPorts 7 = .ok (.bipush 17, 2) := by decide +kernel
theorem dX4_hasPorts_9 : decode cX4_hasPorts 9 = .ok (.if_icmp .ne 7, 3) := by decide +kernel
theorem dX4_hasPorts_12 : decode cX4_hasPorts 12 = .ok (.iconst 1, 1) := by decide +kernel
theorem dX4_hasPorts_13 : decode cX4_hasPorts 13 = .ok (.goto 4, 3) := by decide +kernel
theorem dX4_hasPorts_16 : decode cX4_hasPorts 16 = .ok (.iconst 0, 1) := by decide +kernel
theorem dX4_hasPorts_17 : decode cX4_hasPorts 17 = .ok (.ireturn, 1) := by decide +kernel
theorem yv_X4_hasPorts : YS yX4_hasPorts cX4_hasPorts 1 (some .boolean) 1 := ⟨kw2_100, kw1_12, kw2_101, by decide +kernel⟩
set_option maxHeartbeats 4000000 in
set_option maxRecDepth 100000 in
theorem c_X4_hasPorts {l : Launch} {D : va_G} {cy : Nat → ClassId} {ws : va_W} {q : Nat} (hq : q < 2 ^ 31) : RO l yX4_hasPorts cX4_hasPorts 1 (some .boolean) 0 0 [.int (nI q)] D cy ws (.int (bI (tg_ports q))) := by
  refine ROz (by decide) (lv0 := [(0, .int (nI q))]) rfl (Nat.le_of_ble_eq_true rfl) ?_
  intro p e s m args below meth c ls Q S hP hK hend hl
  have hx := S.1
  have hb := S.2.1
  have hown : s.vm.findClass RX4 = some m.cls := S.2.2.2.1
  have ht : ∀ w ∈ lw_g, w.before args s = true := fun w h => S.2.2.2.2 w (List.mem_cons_of_mem _ h)
  refine lv_iload_n hx hb dX4_hasPorts_0 rfl (lv_at hl 0 rfl) ?_
  refine nv_bipush (k := 6) hx hb dX4_hasPorts_1 (by decide) ?_
  refine nv_icmp_eq (tgt := 12) hx hb dX4_hasPorts_3 (by decide) (by omega) (by omega) (fun h3 => ?_) (fun h3 => ?_)
  · skip
    refine nv_iconst (k := 1) hx hb dX4_hasPorts_12 rfl ?_
    refine lv_goto (tgt := 17) hx hb dX4_hasPorts_13 (by decide) ?_
    exact hend ((bI_t (by simp only [tg_ports]; exact decide_eq_true (by omega)))) dX4_hasPorts_17
  refine lv_iload_n hx hb dX4_hasPorts_6 rfl (lv_at hl 0 rfl) ?_
  refine nv_bipush (k := 17) hx hb dX4_hasPorts_7 (by decide) ?_
  refine nv_icmp_ne (tgt := 16) hx hb dX4_hasPorts_9 (by decide) (by omega) (by omega) (fun h9 => ?_) (fun h9 => ?_)
  · skip
    refine nv_iconst (k := 0) hx hb dX4_hasPorts_16 rfl ?_
    exact hend ((bI_f (by simp only [tg_ports]; exact decide_eq_false (by omega)))) dX4_hasPorts_17
  refine nv_iconst (k := 1) hx hb dX4_hasPorts_12 rfl ?_
  refine lv_goto (tgt := 17) hx hb dX4_hasPorts_13 (by decide) ?_
  exact hend ((bI_t (by simp only [tg_ports]; exact decide_eq_true (by omega)))) dX4_hasPorts_17
theorem dX4_sourcePortAt_0 : decode cX4_sourcePortAt 0 = .ok (.iload_n 0, 1) := by decide +kernel
theorem dX4_sourcePortAt_1 : decode cX4_sourcePortAt 1 = .ok (.invokestatic 15, 3) := by decide +kernel
theorem dX4_sourcePortAt_4 : decode cX4_sourcePortAt 4 = .ok (.ifCond .eq 7, 3) := by decide +kernel
theorem dX4_sourcePortAt_7 : decode cX4_sourcePortAt 7 = .ok (.iconst 0, 1) := by decide +kernel
theorem dX4_sourcePortAt_8 : decode cX4_sourcePortAt 8 = .ok (.goto 4, 3) := by decide +kernel
theorem dX4_sourcePortAt_11 : decode cX4_sourcePortAt 11 = .ok (.iconst 4, 1) := by decide +kernel
theorem dX4_sourcePortAt_12 : decode cX4_sourcePortAt 12 = .ok (.ireturn, 1) := by decide +kernel
theorem yv_X4_sourcePortAt : YS yX4_sourcePortAt cX4_sourcePortAt 1 (some .int) 1 := ⟨kw2_97, kw1_12, kw2_98, by decide +kernel⟩
set_option maxHeartbeats 4000000 in
set_option maxRecDepth 100000 in
theorem c_X4_sourcePortAt {l : Launch} {D : va_G} {cy : Nat → ClassId} {ws : va_W} {q : Nat} (hq : q < 2 ^ 31) : RO l yX4_sourcePortAt cX4_sourcePortAt 1 (some .int) 1 20 [.int (nI q)] D cy ws (.int (nI (tg_spa q))) := by
  refine ROi (by decide) (lv0 := [(0, .int (nI q))]) rfl (Nat.le_of_ble_eq_true rfl) ?_
  intro p e s m args below meth c ls Q S hP hK hend hl
  have hx := S.1
  have hb := S.2.1
  have hown : s.vm.findClass RX4 = some m.cls := S.2.2.2.1
  have ht : ∀ w ∈ lw_g, w.before args s = true := fun w h => S.2.2.2.2 w (List.mem_cons_of_mem _ h)
  refine lv_iload_n hx hb dX4_sourcePortAt_0 rfl (lv_at hl 0 rfl) ?_
  refine ro_S S (c_X4_hasPorts (q := q) (by omega)) kw2_99 yv_X4_hasPorts ⟨Nat.le_of_ble_eq_true rfl, Nat.le_of_ble_eq_true rfl⟩ hK hP rfl hl.1 rfl (Nat.le_of_ble_eq_true rfl) dX4_sourcePortAt_1 ⟨Nat.le_refl _, Nat.le_refl _⟩ ?_
  refine nv_if_eqb (tgt := 11) hx hb dX4_sourcePortAt_4 (by decide) (fun h4 => ?_) (fun h4 => ?_)
  · skip
    refine nv_iconst (k := 4) hx hb dX4_sourcePortAt_11 rfl ?_
    exact hend ((congrArg nI (by simp only [tg_ports, tg_spa, decide_eq_true_eq, decide_eq_false_iff_not] at *; (repeat' split) <;> omega))) dX4_sourcePortAt_12
  refine nv_iconst (k := 0) hx hb dX4_sourcePortAt_7 rfl ?_
  refine lv_goto (tgt := 12) hx hb dX4_sourcePortAt_8 (by decide) ?_
  exact hend ((congrArg nI (by simp only [tg_ports, tg_spa, decide_eq_true_eq, decide_eq_false_iff_not] at *; (repeat' split) <;> omega))) dX4_sourcePortAt_12
theorem dX4_destinationPortAt_0 : decode cX4_destinationPortAt 0 = .ok (.iload_n 0, 1) := by decide +kernel
theorem dX4_destinationPortAt_1 : decode cX4_destinationPortAt 1 = .ok (.invokestatic 15, 3) := by decide +kernel
theorem dX4_destinationPortAt_4 : decode cX4_destinationPortAt 4 = .ok (.ifCond .eq 7, 3) := by decide +kernel
theorem dX4_destinationPortAt_7 : decode cX4_destinationPortAt 7 = .ok (.iconst 2, 1) := by decide +kernel
theorem dX4_destinationPortAt_8 : decode cX4_destinationPortAt 8 = .ok (.goto 4, 3) := by decide +kernel
theorem dX4_destinationPortAt_11 : decode cX4_destinationPortAt 11 = .ok (.iconst 4, 1) := by decide +kernel
theorem dX4_destinationPortAt_12 : decode cX4_destinationPortAt 12 = .ok (.ireturn, 1) := by decide +kernel
theorem yv_X4_destinationPortAt : YS yX4_destinationPortAt cX4_destinationPortAt 1 (some .int) 1 := ⟨kw2_106, kw1_12, kw2_107, by decide +kernel⟩
set_option maxHeartbeats 4000000 in
set_option maxRecDepth 100000 in
theorem c_X4_destinationPortAt {l : Launch} {D : va_G} {cy : Nat → ClassId} {ws : va_W} {q : Nat} (hq : q < 2 ^ 31) : RO l yX4_destinationPortAt cX4_destinationPortAt 1 (some .int) 1 20 [.int (nI q)] D cy ws (.int (nI (tg_dpa q))) := by
  refine ROi (by decide) (lv0 := [(0, .int (nI q))]) rfl (Nat.le_of_ble_eq_true rfl) ?_
  intro p e s m args below meth c ls Q S hP hK hend hl
  have hx := S.1
  have hb := S.2.1
  have hown : s.vm.findClass RX4 = some m.cls := S.2.2.2.1
  have ht : ∀ w ∈ lw_g, w.before args s = true := fun w h => S.2.2.2.2 w (List.mem_cons_of_mem _ h)
  refine lv_iload_n hx hb dX4_destinationPortAt_0 rfl (lv_at hl 0 rfl) ?_
  refine ro_S S (c_X4_hasPorts (q := q) (by omega)) kw2_99 yv_X4_hasPorts ⟨Nat.le_of_ble_eq_true rfl, Nat.le_of_ble_eq_true rfl⟩ hK hP rfl hl.1 rfl (Nat.le_of_ble_eq_true rfl) dX4_destinationPortAt_1 ⟨Nat.le_refl _, Nat.le_refl _⟩ ?_
  refine nv_if_eqb (tgt := 11) hx hb dX4_destinationPortAt_4 (by decide) (fun h4 => ?_) (fun h4 => ?_)
  · skip
    refine nv_iconst (k := 4) hx hb dX4_destinationPortAt_11 rfl ?_
    exact hend ((congrArg nI (by simp only [tg_ports, tg_dpa, decide_eq_true_eq, decide_eq_false_iff_not] at *; (repeat' split) <;> omega))) dX4_destinationPortAt_12
  refine nv_iconst (k := 2) hx hb dX4_destinationPortAt_7 rfl ?_
  refine lv_goto (tgt := 12) hx hb dX4_destinationPortAt_8 (by decide) ?_
  exact hend ((congrArg nI (by simp only [tg_ports, tg_dpa, decide_eq_true_eq, decide_eq_false_iff_not] at *; (repeat' split) <;> omega))) dX4_destinationPortAt_12
theorem dX4_sourcePort_0 : decode cX4_sourcePort 0 = .ok (.aload_n 0, 1) := by decide +kernel
theorem dX4_sourcePort_1 : decode cX4_sourcePort 1 = .ok (.iload_n 1, 1) := by decide +kernel
theorem dX4_sourcePort_2 : decode cX4_sourcePort 2 = .ok (.iload_n 2, 1) := by decide +kernel
theorem dX4_sourcePort_3 : decode cX4_sourcePort 3 = .ok (.invokestatic 21, 3) := by decide +kernel
theorem dX4_sourcePort_6 : decode cX4_sourcePort 6 = .ok (.iadd, 1) := by decide +kernel
theorem dX4_sourcePort_7 : decode cX4_sourcePort 7 = .ok (.invokevirtual 24, 3) := by decide +kernel
theorem dX4_sourcePort_10 : decode cX4_sourcePort 10 = .ok (.ireturn, 1) := by decide +kernel
theorem yv_X4_sourcePort : YS yX4_sourcePort cX4_sourcePort 3 (some .int) 3 := ⟨kw2_94, kw1_12, kw2_95, by decide +kernel⟩
set_option maxHeartbeats 4000000 in
set_option maxRecDepth 100000 in
theorem c_X4_sourcePort {l : Launch} {D : va_G} {cy : Nat → ClassId} {ws : va_W} {b n : Nat} {f : Nat → UInt8} (hB : PK cy ws b f n) {a q : Nat} (ha : a < 2 ^ 20) (hq : q < 2 ^ 31) : RO l yX4_sourcePort cX4_sourcePort 3 (some .int) 2 47 [.ref b, .int (nI a), .int (nI q)] D cy ws (.int (nI (tg_pr (tg_rd f n) (a + tg_spa q)))) := by
  refine ROi (by decide) (lv0 := [(0, .ref b), (1, .int (nI a)), (2, .int (nI q))]) rfl (Nat.le_of_ble_eq_true rfl) ?_
  intro p e s m args below meth c ls Q S hP hK hend hl
  have hx := S.1
  have hb := S.2.1
  have hown : s.vm.findClass RX4 = some m.cls := S.2.2.2.1
  have ht : ∀ w ∈ lw_g, w.before args s = true := fun w h => S.2.2.2.2 w (List.mem_cons_of_mem _ h)
  obtain ⟨kb, ka, ar, N, hb0, ha0, hnN, hN⟩ := id hB
  refine lv_aload_n hx hb dX4_sourcePort_0 rfl (lv_at hl 0 rfl) ?_
  refine lv_iload_n hx hb dX4_sourcePort_1 rfl (lv_at hl 1 rfl) ?_
  refine lv_iload_n hx hb dX4_sourcePort_2 rfl (lv_at hl 2 rfl) ?_
  refine ro_S S (c_X4_sourcePortAt (q := q) (by omega)) kw2_96 yv_X4_sourcePortAt ⟨Nat.le_of_ble_eq_true rfl, Nat.le_of_ble_eq_true rfl⟩ hK hP rfl hl.1 rfl (Nat.le_of_ble_eq_true rfl) dX4_sourcePort_3 ⟨Nat.le_refl _, Nat.le_refl _⟩ ?_
  have hq3 := tg_spa_le q
  refine nv_iadd hx hb dX4_sourcePort_6 ?_
  refine ro_V S (c_X1_pair hB (a := a + (tg_spa q)) (by omega)) kw2_37 yv_X1_pair ⟨Nat.le_of_ble_eq_true rfl, Nat.le_of_ble_eq_true rfl⟩ hK hP (va_recv hK hP (ci := 2) (q0 := kb) rfl hb0) rfl hl.1 rfl (Nat.le_of_ble_eq_true rfl) dX4_sourcePort_7 ⟨Nat.le_refl _, Nat.le_refl _⟩ ?_
  have hq7 := tg_pr_lt f n (a + (tg_spa q))
  exact hend (rfl) dX4_sourcePort_10
theorem dX4_destinationPort_0 : decode cX4_destinationPort 0 = .ok (.aload_n 0, 1) := by decide +kernel
theorem dX4_destinationPort_1 : decode cX4_destinationPort 1 = .ok (.iload_n 1, 1) := by decide +kernel
theorem dX4_destinationPort_2 : decode cX4_destinationPort 2 = .ok (.iload_n 2, 1) := by decide +kernel
theorem dX4_destinationPort_3 : decode cX4_destinationPort 3 = .ok (.invokestatic 27, 3) := by decide +kernel
theorem dX4_destinationPort_6 : decode cX4_destinationPort 6 = .ok (.iadd, 1) := by decide +kernel
theorem dX4_destinationPort_7 : decode cX4_destinationPort 7 = .ok (.invokevirtual 24, 3) := by decide +kernel
theorem dX4_destinationPort_10 : decode cX4_destinationPort 10 = .ok (.ireturn, 1) := by decide +kernel
theorem yv_X4_destinationPort : YS yX4_destinationPort cX4_destinationPort 3 (some .int) 3 := ⟨kw2_103, kw1_12, kw2_104, by decide +kernel⟩
set_option maxHeartbeats 4000000 in
set_option maxRecDepth 100000 in
theorem c_X4_destinationPort {l : Launch} {D : va_G} {cy : Nat → ClassId} {ws : va_W} {b n : Nat} {f : Nat → UInt8} (hB : PK cy ws b f n) {a q : Nat} (ha : a < 2 ^ 20) (hq : q < 2 ^ 31) : RO l yX4_destinationPort cX4_destinationPort 3 (some .int) 2 47 [.ref b, .int (nI a), .int (nI q)] D cy ws (.int (nI (tg_pr (tg_rd f n) (a + tg_dpa q)))) := by
  refine ROi (by decide) (lv0 := [(0, .ref b), (1, .int (nI a)), (2, .int (nI q))]) rfl (Nat.le_of_ble_eq_true rfl) ?_
  intro p e s m args below meth c ls Q S hP hK hend hl
  have hx := S.1
  have hb := S.2.1
  have hown : s.vm.findClass RX4 = some m.cls := S.2.2.2.1
  have ht : ∀ w ∈ lw_g, w.before args s = true := fun w h => S.2.2.2.2 w (List.mem_cons_of_mem _ h)
  obtain ⟨kb, ka, ar, N, hb0, ha0, hnN, hN⟩ := id hB
  refine lv_aload_n hx hb dX4_destinationPort_0 rfl (lv_at hl 0 rfl) ?_
  refine lv_iload_n hx hb dX4_destinationPort_1 rfl (lv_at hl 1 rfl) ?_
  refine lv_iload_n hx hb dX4_destinationPort_2 rfl (lv_at hl 2 rfl) ?_
  refine ro_S S (c_X4_destinationPortAt (q := q) (by omega)) kw2_105 yv_X4_destinationPortAt ⟨Nat.le_of_ble_eq_true rfl, Nat.le_of_ble_eq_true rfl⟩ hK hP rfl hl.1 rfl (Nat.le_of_ble_eq_true rfl) dX4_destinationPort_3 ⟨Nat.le_refl _, Nat.le_refl _⟩ ?_
  have hq3 := tg_dpa_le q
  refine nv_iadd hx hb dX4_destinationPort_6 ?_
  refine ro_V S (c_X1_pair hB (a := a + (tg_dpa q)) (by omega)) kw2_37 yv_X1_pair ⟨Nat.le_of_ble_eq_true rfl, Nat.le_of_ble_eq_true rfl⟩ hK hP (va_recv hK hP (ci := 2) (q0 := kb) rfl hb0) rfl hl.1 rfl (Nat.le_of_ble_eq_true rfl) dX4_destinationPort_7 ⟨Nat.le_refl _, Nat.le_refl _⟩ ?_
  have hq7 := tg_pr_lt f n (a + (tg_dpa q))
  exact hend (rfl) dX4_destinationPort_10
theorem dX4_isSoundTcp_0 : decode cX4_isSoundTcp 0 = .ok (.aload_n 0, 1) := by decide +kernel
theorem dX4_isSoundTcp_1 : decode cX4_isSoundTcp 1 = .ok (.invokevirtual 30, 3) := by decide +kernel
theorem dX4_isSoundTcp_4 : decode cX4_isSoundTcp 4 = .ok (.iload_n 1, 1) := by decide +kernel
theorem dX4_isSoundTcp_5 : decode cX4_isSoundTcp 5 = .ok (.isub, 1) := by decide +kernel
theorem dX4_isSoundTcp_6 : decode cX4_isSoundTcp 6 = .ok (.istore_n 2, 1) := by decide +kernel
theorem dX4_isSoundTcp_7 : decode cX4_isSoundTcp 7 = .ok (.aload_n 0, 1) := by decide +kernel
theorem dX4_isSoundTcp_8 : decode cX4_isSoundTcp 8 = .ok (.iload_n 1, 1) := by decide +kernel
theorem dX4_isSoundTcp_9 : decode cX4_isSoundTcp 9 = .ok (.bipush 12, 2) := by decide +kernel
theorem dX4_isSoundTcp_11 : decode cX4_isSoundTcp 11 = .ok (.iadd, 1) := by decide +kernel
theorem dX4_isSoundTcp_12 : decode cX4_isSoundTcp 12 = .ok (.invokevirtual 9, 3) := by decide +kernel
theorem dX4_isSoundTcp_15 : decode cX4_isSoundTcp 15 = .ok (.iconst 4, 1) := by decide +kernel
theorem dX4_isSoundTcp_16 : decode cX4_isSoundTcp 16 = .ok (.iushr, 1) := by decide +kernel
theorem dX4_isSoundTcp_17 : decode cX4_isSoundTcp 17 = .ok (.istore_n 3, 1) := by decide +kernel
theorem dX4_isSoundTcp_18 : decode cX4_isSoundTcp 18 = .ok (.iload_n 2, 1) := by decide +kernel
theorem dX4_isSoundTcp_19 : decode cX4_isSoundTcp 19 = .ok (.bipush 20, 2) := by decide +kernel
theorem dX4_isSoundTcp_21 : decode cX4_isSoundTcp 21 = .ok (.if_icmp .lt 19, 3) := by decide +kernel
theorem dX4_isSoundTcp_24 : decode cX4_isSoundTcp 24 = .ok (.iload_n 3, 1) := by decide +kernel
theorem dX4_isSoundTcp_25 : decode cX4_isSoundTcp 25 = .ok (.iconst 5, 1) := by decide +kernel
theorem dX4_isSoundTcp_26 : decode cX4_isSoundTcp 26 = .ok (.if_icmp .lt 14, 3) := by decide +kernel
theorem dX4_isSoundTcp_29 : decode cX4_isSoundTcp 29 = .ok (.iconst 4, 1) := by decide +kernel
theorem dX4_isSoundTcp_30 : decode cX4_isSoundTcp 30 = .ok (.iload_n 3, 1) := by decide +kernel
theorem dX4_isSoundTcp_31 : decode cX4_isSoundTcp 31 = .ok (.imul, 1) := by decide +kernel
theorem dX4_isSoundTcp_32 : decode cX4_isSoundTcp 32 = .ok (.iload_n 2, 1) := by decide +kernel
theorem dX4_isSoundTcp_33 : decode cX4_isSoundTcp 33 = .ok (.if_icmp .gt 7, 3) := by decide +kernel
theorem dX4_isSoundTcp_36 : decode cX4_isSoundTcp 36 = .ok (.iconst 1, 1) := by decide +kernel
theorem dX4_isSoundTcp_37 : decode cX4_isSoundTcp 37 = .ok (.goto 4, 3) := by decide +kernel
theorem dX4_isSoundTcp_40 : decode cX4_isSoundTcp 40 = .ok (.iconst 0, 1) := by decide +kernel
theorem dX4_isSoundTcp_41 : decode cX4_isSoundTcp 41 = .ok (.ireturn, 1) := by decide +kernel
theorem yv_X4_isSoundTcp : YS yX4_isSoundTcp cX4_isSoundTcp 4 (some .boolean) 2 := ⟨kw2_30, kw1_12, kw2_31, by decide +kernel⟩
set_option maxHeartbeats 4000000 in
set_option maxRecDepth 100000 in
theorem c_X4_isSoundTcp {l : Launch} {D : va_G} {cy : Nat → ClassId} {ws : va_W} {b n : Nat} {f : Nat → UInt8} (hB : PK cy ws b f n) {hd : Nat} (hh : hd ≤ n) (hn : n ≤ 1700) : RO l yX4_isSoundTcp cX4_isSoundTcp 4 (some .boolean) 1 21 [.ref b, .int (nI hd)] D cy ws (.int (bI (tg_tcp (tg_rd f n) n hd))) := by
  refine ROz (by decide) (lv0 := [(0, .ref b), (1, .int (nI hd))]) rfl (Nat.le_of_ble_eq_true rfl) ?_
  intro p e s m args below meth c ls Q S hP hK hend hl
  have hx := S.1
  have hb := S.2.1
  have hown : s.vm.findClass RX4 = some m.cls := S.2.2.2.1
  have ht : ∀ w ∈ lw_g, w.before args s = true := fun w h => S.2.2.2.2 w (List.mem_cons_of_mem _ h)
  obtain ⟨kb, ka, ar, N, hb0, ha0, hnN, hN⟩ := id hB
  refine lv_aload_n hx hb dX4_isSoundTcp_0 rfl (lv_at hl 0 rfl) ?_
  refine ro_V S (c_X1_length hB) kw2_32 yv_X1_length ⟨Nat.le_of_ble_eq_true rfl, Nat.le_of_ble_eq_true rfl⟩ hK hP (va_recv hK hP (ci := 2) (q0 := kb) rfl hb0) rfl hl.1 rfl (Nat.le_of_ble_eq_true rfl) dX4_isSoundTcp_1 ⟨Nat.le_refl _, Nat.le_refl _⟩ ?_
  refine lv_iload_n hx hb dX4_isSoundTcp_4 rfl (lv_at hl 1 rfl) ?_
  refine nv_isub hx hb (by omega) dX4_isSoundTcp_5 ?_
  refine lv_istore_n (lv' := [(2, .int (nI (n - hd))), (0, .ref b), (1, .int (nI hd))]) hx hb dX4_isSoundTcp_6 rfl hl (by decide) rfl (fun ls hl => ?_)
  refine lv_aload_n hx hb dX4_isSoundTcp_7 rfl (lv_at hl 1 rfl) ?_
  refine lv_iload_n hx hb dX4_isSoundTcp_8 rfl (lv_at hl 2 rfl) ?_
  refine nv_bipush (k := 12) hx hb dX4_isSoundTcp_9 (by decide) ?_
  refine nv_iadd hx hb dX4_isSoundTcp_11 ?_
  refine ro_V S (c_X1_octet hB (k := hd + 12) (by omega)) kw2_33 yv_X1_octet ⟨Nat.le_of_ble_eq_true rfl, Nat.le_of_ble_eq_true rfl⟩ hK hP (va_recv hK hP (ci := 2) (q0 := kb) rfl hb0) rfl hl.1 rfl (Nat.le_of_ble_eq_true rfl) dX4_isSoundTcp_12 ⟨Nat.le_refl _, Nat.le_refl _⟩ ?_
  have hq12 := tg_rd_lt f n (hd + 12)
  refine nv_iconst (k := 4) hx hb dX4_isSoundTcp_15 rfl ?_
  refine nv_iushr hx hb (by omega) (by omega) dX4_isSoundTcp_16 ?_
  refine lv_istore_n (lv' := [(3, .int (nI ((tg_rd f n (hd + 12)) / 2 ^ 4))), (2, .int (nI (n - hd))), (0, .ref b), (1, .int (nI hd))]) hx hb dX4_isSoundTcp_17 rfl hl (by decide) rfl (fun ls hl => ?_)
  refine lv_iload_n hx hb dX4_isSoundTcp_18 rfl (lv_at hl 1 rfl) ?_
  refine nv_bipush (k := 20) hx hb dX4_isSoundTcp_19 (by decide) ?_
  refine nv_icmp_lt (tgt := 40) hx hb dX4_isSoundTcp_21 (by decide) (by omega) (by omega) (fun h21 => ?_) (fun h21 => ?_)
  · skip
    refine nv_iconst (k := 0) hx hb dX4_isSoundTcp_40 rfl ?_
    exact hend ((bI_f (by simp only [tg_tcp]; exact decide_eq_false (by omega)))) dX4_isSoundTcp_41
  refine lv_iload_n hx hb dX4_isSoundTcp_24 rfl (lv_at hl 0 rfl) ?_
  refine nv_iconst (k := 5) hx hb dX4_isSoundTcp_25 rfl ?_
  refine nv_icmp_lt (tgt := 40) hx hb dX4_isSoundTcp_26 (by decide) (by omega) (by omega) (fun h26 => ?_) (fun h26 => ?_)
  · skip
    refine nv_iconst (k := 0) hx hb dX4_isSoundTcp_40 rfl ?_
    exact hend ((bI_f (by simp only [tg_tcp]; exact decide_eq_false (by omega)))) dX4_isSoundTcp_41
  refine nv_iconst (k := 4) hx hb dX4_isSoundTcp_29 rfl ?_
  refine lv_iload_n hx hb dX4_isSoundTcp_30 rfl (lv_at hl 0 rfl) ?_
  refine nv_imul hx hb dX4_isSoundTcp_31 ?_
  refine lv_iload_n hx hb dX4_isSoundTcp_32 rfl (lv_at hl 1 rfl) ?_
  refine nv_icmp_gt (tgt := 40) hx hb dX4_isSoundTcp_33 (by decide) (by omega) (by omega) (fun h33 => ?_) (fun h33 => ?_)
  · skip
    refine nv_iconst (k := 0) hx hb dX4_isSoundTcp_40 rfl ?_
    exact hend ((bI_f (by simp only [tg_tcp]; exact decide_eq_false (by omega)))) dX4_isSoundTcp_41
  refine nv_iconst (k := 1) hx hb dX4_isSoundTcp_36 rfl ?_
  refine lv_goto (tgt := 41) hx hb dX4_isSoundTcp_37 (by decide) ?_
  exact hend ((bI_t (by simp only [tg_tcp]; exact decide_eq_true (by omega)))) dX4_isSoundTcp_41
theorem dX4_isSoundUdp_0 : decode cX4_isSoundUdp 0 = .ok (.aload_n 0, 1) := by decide +kernel
theorem dX4_isSoundUdp_1 : decode cX4_isSoundUdp 1 = .ok (.invokevirtual 30, 3) := by decide +kernel
theorem dX4_isSoundUdp_4 : decode cX4_isSoundUdp 4 = .ok (.iload_n 1, 1) := by decide +kernel
theorem dX4_isSoundUdp_5 : decode cX4_isSoundUdp 5 = .ok (.isub, 1) := by decide +kernel
theorem dX4_isSoundUdp_6 : decode cX4_isSoundUdp 6 = .ok (.istore_n 2, 1) := by decide +kernel
theorem dX4_isSoundUdp_7 : decode cX4_isSoundUdp 7 = .ok (.iload_n 2, 1) := by decide +kernel
theorem dX4_isSoundUdp_8 : decode cX4_isSoundUdp 8 = .ok (.bipush 8, 2) := by decide +kernel
theorem dX4_isSoundUdp_10 : decode cX4_isSoundUdp 10 = .ok (.if_icmp .lt 18, 3) := by decide +kernel
theorem dX4_isSoundUdp_13 : decode cX4_isSoundUdp 13 = .ok (.aload_n 0, 1) := by decide +kernel
theorem dX4_isSoundUdp_14 : decode cX4_isSoundUdp 14 = .ok (.iload_n 1, 1) := by decide +kernel
theorem dX4_isSoundUdp_15 : decode cX4_isSoundUdp 15 = .ok (.iconst 4, 1) := by decide +kernel
theorem dX4_isSoundUdp_16 : decode cX4_isSoundUdp 16 = .ok (.iadd, 1) := by decide +kernel
theorem dX4_isSoundUdp_17 : decode cX4_isSoundUdp 17 = .ok (.invokevirtual 24, 3) := by decide +kernel
theorem dX4_isSoundUdp_20 : decode cX4_isSoundUdp 20 = .ok (.iload_n 2, 1) := by decide +kernel
theorem dX4_isSoundUdp_21 : decode cX4_isSoundUdp 21 = .ok (.if_icmp .ne 7, 3) := by decide +kernel
theorem dX4_isSoundUdp_24 : decode cX4_isSoundUdp 24 = .ok (.iconst 1, 1) := by decide +kernel
theorem dX4_isSoundUdp_25 : decode cX4_isSoundUdp 25 = .ok (.goto 4, 3) := by decide +kernel
theorem dX4_isSoundUdp_28 : decode cX4_isSoundUdp 28 = .ok (.iconst 0, 1) := by decide +kernel
theorem dX4_isSoundUdp_29 : decode cX4_isSoundUdp 29 = .ok (.ireturn, 1) := by decide +kernel
theorem yv_X4_isSoundUdp : YS yX4_isSoundUdp cX4_isSoundUdp 3 (some .boolean) 2 := ⟨kw2_35, kw1_12, kw2_36, by decide +kernel⟩
set_option maxHeartbeats 4000000 in
set_option maxRecDepth 100000 in
theorem c_X4_isSoundUdp {l : Launch} {D : va_G} {cy : Nat → ClassId} {ws : va_W} {b n : Nat} {f : Nat → UInt8} (hB : PK cy ws b f n) {hd : Nat} (hh : hd ≤ n) (hn : n ≤ 1700) : RO l yX4_isSoundUdp cX4_isSoundUdp 3 (some .boolean) 2 47 [.ref b, .int (nI hd)] D cy ws (.int (bI (tg_udp (tg_rd f n) n hd))) := by
  refine ROz (by decide) (lv0 := [(0, .ref b), (1, .int (nI hd))]) rfl (Nat.le_of_ble_eq_true rfl) ?_
  intro p e s m args below meth c ls Q S hP hK hend hl
  have hx := S.1
  have hb := S.2.1
  have hown : s.vm.findClass RX4 = some m.cls := S.2.2.2.1
  have ht : ∀ w ∈ lw_g, w.before args s = true := fun w h => S.2.2.2.2 w (List.mem_cons_of_mem _ h)
  obtain ⟨kb, ka, ar, N, hb0, ha0, hnN, hN⟩ := id hB
  refine lv_aload_n hx hb dX4_isSoundUdp_0 rfl (lv_at hl 0 rfl) ?_
  refine ro_V S (c_X1_length hB) kw2_32 yv_X1_length ⟨Nat.le_of_ble_eq_true rfl, Nat.le_of_ble_eq_true rfl⟩ hK hP (va_recv hK hP (ci := 2) (q0 := kb) rfl hb0) rfl hl.1 rfl (Nat.le_of_ble_eq_true rfl) dX4_isSoundUdp_1 ⟨Nat.le_refl _, Nat.le_refl _⟩ ?_
  refine lv_iload_n hx hb dX4_isSoundUdp_4 rfl (lv_at hl 1 rfl) ?_
  refine nv_isub hx hb (by omega) dX4_isSoundUdp_5 ?_
  refine lv_istore_n (lv' := [(2, .int (nI (n - hd))), (0, .ref b), (1, .int (nI hd))]) hx hb dX4_isSoundUdp_6 rfl hl (by decide) rfl (fun ls hl => ?_)
  refine lv_iload_n hx hb dX4_isSoundUdp_7 rfl (lv_at hl 0 rfl) ?_
  refine nv_bipush (k := 8) hx hb dX4_isSoundUdp_8 (by decide) ?_
  refine nv_icmp_lt (tgt := 28) hx hb dX4_isSoundUdp_10 (by decide) (by omega) (by omega) (fun h10 => ?_) (fun h10 => ?_)
  · skip
    refine nv_iconst (k := 0) hx hb dX4_isSoundUdp_28 rfl ?_
    exact hend ((bI_f (by simp only [tg_udp]; exact decide_eq_false (by omega)))) dX4_isSoundUdp_29
  refine lv_aload_n hx hb dX4_isSoundUdp_13 rfl (lv_at hl 1 rfl) ?_
  refine lv_iload_n hx hb dX4_isSoundUdp_14 rfl (lv_at hl 2 rfl) ?_
  refine nv_iconst (k := 4) hx hb dX4_isSoundUdp_15 rfl ?_
  refine nv_iadd hx hb dX4_isSoundUdp_16 ?_
  refine ro_V S (c_X1_pair hB (a := hd + 4) (by omega)) kw2_37 yv_X1_pair ⟨Nat.le_of_ble_eq_true rfl, Nat.le_of_ble_eq_true rfl⟩ hK hP (va_recv hK hP (ci := 2) (q0 := kb) rfl hb0) rfl hl.1 rfl (Nat.le_of_ble_eq_true rfl) dX4_isSoundUdp_17 ⟨Nat.le_refl _, Nat.le_refl _⟩ ?_
  have hq17 := tg_pr_lt f n (hd + 4)
  refine lv_iload_n hx hb dX4_isSoundUdp_20 rfl (lv_at hl 0 rfl) ?_
  refine nv_icmp_ne (tgt := 28) hx hb dX4_isSoundUdp_21 (by decide) (by omega) (by omega) (fun h21 => ?_) (fun h21 => ?_)
  · skip
    refine nv_iconst (k := 0) hx hb dX4_isSoundUdp_28 rfl ?_
    exact hend ((bI_f (by simp only [tg_udp]; exact decide_eq_false (by omega)))) dX4_isSoundUdp_29
  refine nv_iconst (k := 1) hx hb dX4_isSoundUdp_24 rfl ?_
  refine lv_goto (tgt := 29) hx hb dX4_isSoundUdp_25 (by decide) ?_
  exact hend ((bI_t (by simp only [tg_udp]; exact decide_eq_true (by omega)))) dX4_isSoundUdp_29
theorem dX4_isLongEnoughIcmp_0 : decode cX4_isLongEnoughIcmp 0 = .ok (.aload_n 0, 1) := by decide +kernel
theorem dX4_isLongEnoughIcmp_1 : decode cX4_isLongEnoughIcmp 1 = .ok (.invokevirtual 30, 3) := by decide +kernel
theorem dX4_isLongEnoughIcmp_4 : decode cX4_isLongEnoughIcmp 4 = .ok (.iload_n 1, 1) := by decide +kernel
theorem dX4_isLongEnoughIcmp_5 : decode cX4_isLongEnoughIcmp 5 = .ok (.isub, 1) := by decide +kernel
theorem dX4_isLongEnoughIcmp_6 : decode cX4_isLongEnoughIcmp 6 = .ok (.bipush 8, 2) := by decide +kernel
theorem dX4_isLongEnoughIcmp_8 : decode cX4_isLongEnoughIcmp 8 = .ok (.if_icmp .lt 7, 3) := by decide +kernel
theorem dX4_isLongEnoughIcmp_11 : decode cX4_isLongEnoughIcmp 11 = .ok (.iconst 1, 1) := by decide +kernel
theorem dX4_isLongEnoughIcmp_12 : decode cX4_isLongEnoughIcmp 12 = .ok (.goto 4, 3) := by decide +kernel
theorem dX4_isLongEnoughIcmp_15 : decode cX4_isLongEnoughIcmp 15 = .ok (.iconst 0, 1) := by decide +kernel
theorem dX4_isLongEnoughIcmp_16 : decode cX4_isLongEnoughIcmp 16 = .ok (.ireturn, 1) := by decide +kernel
theorem yv_X4_isLongEnoughIcmp : YS yX4_isLongEnoughIcmp cX4_isLongEnoughIcmp 2 (some .boolean) 2 := ⟨kw2_42, kw1_12, kw2_43, by decide +kernel⟩
set_option maxHeartbeats 4000000 in
set_option maxRecDepth 100000 in
theorem c_X4_isLongEnoughIcmp {l : Launch} {D : va_G} {cy : Nat → ClassId} {ws : va_W} {b n : Nat} {f : Nat → UInt8} (hB : PK cy ws b f n) {hd : Nat} (hh : hd ≤ n) (hn : n ≤ 1700) : RO l yX4_isLongEnoughIcmp cX4_isLongEnoughIcmp 2 (some .boolean) 1 20 [.ref b, .int (nI hd)] D cy ws (.int (bI (tg_icmp n hd))) := by
  refine ROz (by decide) (lv0 := [(0, .ref b), (1, .int (nI hd))]) rfl (Nat.le_of_ble_eq_true rfl) ?_
  intro p e s m args below meth c ls Q S hP hK hend hl
  have hx := S.1
  have hb := S.2.1
  have hown : s.vm.findClass RX4 = some m.cls := S.2.2.2.1
  have ht : ∀ w ∈ lw_g, w.before args s = true := fun w h => S.2.2.2.2 w (List.mem_cons_of_mem _ h)
  obtain ⟨kb, ka, ar, N, hb0, ha0, hnN, hN⟩ := id hB
  refine lv_aload_n hx hb dX4_isLongEnoughIcmp_0 rfl (lv_at hl 0 rfl) ?_
  refine ro_V S (c_X1_length hB) kw2_32 yv_X1_length ⟨Nat.le_of_ble_eq_true rfl, Nat.le_of_ble_eq_true rfl⟩ hK hP (va_recv hK hP (ci := 2) (q0 := kb) rfl hb0) rfl hl.1 rfl (Nat.le_of_ble_eq_true rfl) dX4_isLongEnoughIcmp_1 ⟨Nat.le_refl _, Nat.le_refl _⟩ ?_
  refine lv_iload_n hx hb dX4_isLongEnoughIcmp_4 rfl (lv_at hl 1 rfl) ?_
  refine nv_isub hx hb (by omega) dX4_isLongEnoughIcmp_5 ?_
  refine nv_bipush (k := 8) hx hb dX4_isLongEnoughIcmp_6 (by decide) ?_
  refine nv_icmp_lt (tgt := 15) hx hb dX4_isLongEnoughIcmp_8 (by decide) (by omega) (by omega) (fun h8 => ?_) (fun h8 => ?_)
  · skip
    refine nv_iconst (k := 0) hx hb dX4_isLongEnoughIcmp_15 rfl ?_
    exact hend ((bI_f (by simp only [tg_icmp]; exact decide_eq_false (by omega)))) dX4_isLongEnoughIcmp_16
  refine nv_iconst (k := 1) hx hb dX4_isLongEnoughIcmp_11 rfl ?_
  refine lv_goto (tgt := 16) hx hb dX4_isLongEnoughIcmp_12 (by decide) ?_
  exact hend ((bI_t (by simp only [tg_icmp]; exact decide_eq_true (by omega)))) dX4_isLongEnoughIcmp_16
theorem dX4_isError_0 : decode cX4_isError 0 = .ok (.aload_n 0, 1) := by decide +kernel
theorem dX4_isError_1 : decode cX4_isError 1 = .ok (.bipush 20, 2) := by decide +kernel
theorem dX4_isError_3 : decode cX4_isError 3 = .ok (.invokevirtual 9, 3) := by decide +kernel
theorem dX4_isError_6 : decode cX4_isError 6 = .ok (.istore_n 1, 1) := by decide +kernel
theorem dX4_isError_7 : decode cX4_isError 7 = .ok (.aload_n 0, 1) := by decide +kernel
theorem dX4_isError_8 : decode cX4_isError 8 = .ok (.bipush 9, 2) := by decide +kernel
theorem dX4_isError_10 : decode cX4_isError 10 = .ok (.invokevirtual 9, 3) := by decide +kernel
theorem dX4_isError_13 : decode cX4_isError 13 = .ok (.iconst 1, 1) := by decide +kernel
theorem dX4_isError_14 : decode cX4_isError 14 = .ok (.if_icmp .ne 18, 3) := by decide +kernel
theorem dX4_isError_17 : decode cX4_isError 17 = .ok (.iload_n 1, 1) := by decide +kernel
theorem dX4_isError_18 : decode cX4_isError 18 = .ok (.iconst 3, 1) := by decide +kernel
theorem dX4_isError_19 : decode cX4_isError 19 = .ok (.if_icmp .eq 9, 3) := by decide +kernel
theorem dX4_isError_22 : decode cX4_isError 22 = .ok (.iload_n 1, 1) := by decide +kernel
theorem dX4_isError_23 : decode cX4_isError 23 = .ok (.bipush 11, 2) := by decide +kernel
theorem dX4_isError_25 : decode cX4_isError 25 = .ok (.if_icmp .ne 7, 3) := by decide +kernel
theorem dX4_isError_28 : decode cX4_isError 28 = .ok (.iconst 1, 1) := by decide +kernel
theorem dX4_isError_29 : decode cX4_isError 29 = .ok (.goto 4, 3) := by decide +kernel
theorem dX4_isError_32 : decode cX4_isError 32 = .ok (.iconst 0, 1) := by decide +kernel
theorem dX4_isError_33 : decode cX4_isError 33 = .ok (.ireturn, 1) := by decide +kernel
theorem yv_X4_isError : YS yX4_isError cX4_isError 2 (some .boolean) 1 := ⟨kw3_187, kw1_12, kw3_188, by decide +kernel⟩
set_option maxHeartbeats 4000000 in
set_option maxRecDepth 100000 in
theorem c_X4_isError {l : Launch} {D : va_G} {cy : Nat → ClassId} {ws : va_W} {b n : Nat} {f : Nat → UInt8} (hB : PK cy ws b f n)  : RO l yX4_isError cX4_isError 2 (some .boolean) 1 21 [.ref b] D cy ws (.int (bI (tg_isErr (tg_rd f n)))) := by
  refine ROz (by decide) (lv0 := [(0, .ref b)]) rfl (Nat.le_of_ble_eq_true rfl) ?_
  intro p e s m args below meth c ls Q S hP hK hend hl
  have hx := S.1
  have hb := S.2.1
  have hown : s.vm.findClass RX4 = some m.cls := S.2.2.2.1
  have ht : ∀ w ∈ lw_g, w.before args s = true := fun w h => S.2.2.2.2 w (List.mem_cons_of_mem _ h)
  obtain ⟨kb, ka, ar, N, hb0, ha0, hnN, hN⟩ := id hB
  refine lv_aload_n hx hb dX4_isError_0 rfl (lv_at hl 0 rfl) ?_
  refine nv_bipush (k := 20) hx hb dX4_isError_1 (by decide) ?_
  refine ro_V S (c_X1_octet hB (k := 20) (by omega)) kw2_33 yv_X1_octet ⟨Nat.le_of_ble_eq_true rfl, Nat.le_of_ble_eq_true rfl⟩ hK hP (va_recv hK hP (ci := 2) (q0 := kb) rfl hb0) rfl hl.1 rfl (Nat.le_of_ble_eq_true rfl) dX4_isError_3 ⟨Nat.le_refl _, Nat.le_refl _⟩ ?_
  have hq3 := tg_rd_lt f n 20
  refine lv_istore_n (lv' := [(1, .int (nI (tg_rd f n 20))), (0, .ref b)]) hx hb dX4_isError_6 rfl hl (by decide) rfl (fun ls hl => ?_)
  refine lv_aload_n hx hb dX4_isError_7 rfl (lv_at hl 1 rfl) ?_
  refine nv_bipush (k := 9) hx hb dX4_isError_8 (by decide) ?_
  refine ro_V S (c_X1_octet hB (k := 9) (by omega)) kw2_33 yv_X1_octet ⟨Nat.le_of_ble_eq_true rfl, Nat.le_of_ble_eq_true rfl⟩ hK hP (va_recv hK hP (ci := 2) (q0 := kb) rfl hb0) rfl hl.1 rfl (Nat.le_of_ble_eq_true rfl) dX4_isError_10 ⟨Nat.le_refl _, Nat.le_refl _⟩ ?_
  have hq10 := tg_rd_lt f n 9
  refine nv_iconst (k := 1) hx hb dX4_isError_13 rfl ?_
  refine nv_icmp_ne (tgt := 32) hx hb dX4_isError_14 (by decide) (by omega) (by omega) (fun h14 => ?_) (fun h14 => ?_)
  · skip
    refine nv_iconst (k := 0) hx hb dX4_isError_32 rfl ?_
    exact hend ((bI_f (by simp only [tg_isErr]; exact decide_eq_false (by omega)))) dX4_isError_33
  refine lv_iload_n hx hb dX4_isError_17 rfl (lv_at hl 0 rfl) ?_
  refine nv_iconst (k := 3) hx hb dX4_isError_18 rfl ?_
  refine nv_icmp_eq (tgt := 28) hx hb dX4_isError_19 (by decide) (by omega) (by omega) (fun h19 => ?_) (fun h19 => ?_)
  · skip
    refine nv_iconst (k := 1) hx hb dX4_isError_28 rfl ?_
    refine lv_goto (tgt := 33) hx hb dX4_isError_29 (by decide) ?_
    exact hend ((bI_t (by simp only [tg_isErr]; exact decide_eq_true (by omega)))) dX4_isError_33
  refine lv_iload_n hx hb dX4_isError_22 rfl (lv_at hl 0 rfl) ?_
  refine nv_bipush (k := 11) hx hb dX4_isError_23 (by decide) ?_
  refine nv_icmp_ne (tgt := 32) hx hb dX4_isError_25 (by decide) (by omega) (by omega) (fun h25 => ?_) (fun h25 => ?_)
  · skip
    refine nv_iconst (k := 0) hx hb dX4_isError_32 rfl ?_
    exact hend ((bI_f (by simp only [tg_isErr]; exact decide_eq_false (by omega)))) dX4_isError_33
  refine nv_iconst (k := 1) hx hb dX4_isError_28 rfl ?_
  refine lv_goto (tgt := 33) hx hb dX4_isError_29 (by decide) ?_
  exact hend ((bI_t (by simp only [tg_isErr]; exact decide_eq_true (by omega)))) dX4_isError_33
theorem dX4_eventOf_0 : decode cX4_eventOf 0 = .ok (.iload_n 2, 1) := by decide +kernel
theorem dX4_eventOf_1 : decode cX4_eventOf 1 = .ok (.bipush 6, 2) := by decide +kernel
theorem dX4_eventOf_3 : decode cX4_eventOf 3 = .ok (.if_icmp .eq 5, 3) := by decide +kernel
theorem dX4_eventOf_6 : decode cX4_eventOf 6 = .ok (.iconst 0, 1) := by decide +kernel
theorem dX4_eventOf_7 : decode cX4_eventOf 7 = .ok (.ireturn, 1) := by decide +kernel
theorem dX4_eventOf_8 : decode cX4_eventOf 8 = .ok (.aload_n 0, 1) := by decide +kernel
theorem dX4_eventOf_9 : decode cX4_eventOf 9 = .ok (.iload_n 1, 1) := by decide +kernel
theorem dX4_eventOf_10 : decode cX4_eventOf 10 = .ok (.bipush 13, 2) := by decide +kernel
theorem dX4_eventOf_12 : decode cX4_eventOf 12 = .ok (.iadd, 1) := by decide +kernel
theorem dX4_eventOf_13 : decode cX4_eventOf 13 = .ok (.invokevirtual 9, 3) := by decide +kernel
theorem dX4_eventOf_16 : decode cX4_eventOf 16 = .ok (.istore_n 3, 1) := by decide +kernel
theorem dX4_eventOf_17 : decode cX4_eventOf 17 = .ok (.iload_n 3, 1) := by decide +kernel
theorem dX4_eventOf_18 : decode cX4_eventOf 18 = .ok (.iconst 4, 1) := by decide +kernel
theorem dX4_eventOf_19 : decode cX4_eventOf 19 = .ok (.iand, 1) := by decide +kernel
theorem dX4_eventOf_20 : decode cX4_eventOf 20 = .ok (.ifCond .eq 5, 3) := by decide +kernel
theorem dX4_eventOf_23 : decode cX4_eventOf 23 = .ok (.iconst 3, 1) := by decide +kernel
theorem dX4_eventOf_24 : decode cX4_eventOf 24 = .ok (.ireturn, 1) := by decide +kernel
theorem dX4_eventOf_25 : decode cX4_eventOf 25 = .ok (.iload_n 3, 1) := by decide +kernel
theorem dX4_eventOf_26 : decode cX4_eventOf 26 = .ok (.iconst 2, 1) := by decide +kernel
theorem dX4_eventOf_27 : decode cX4_eventOf 27 = .ok (.iand, 1) := by decide +kernel
theorem dX4_eventOf_28 : decode cX4_eventOf 28 = .ok (.ifCond .eq 5, 3) := by decide +kernel
theorem dX4_eventOf_31 : decode cX4_eventOf 31 = .ok (.iconst 2, 1) := by decide +kernel
theorem dX4_eventOf_32 : decode cX4_eventOf 32 = .ok (.ireturn, 1) := by decide +kernel
theorem dX4_eventOf_33 : decode cX4_eventOf 33 = .ok (.iload_n 3, 1) := by decide +kernel
theorem dX4_eventOf_34 : decode cX4_eventOf 34 = .ok (.iconst 1, 1) := by decide +kernel
theorem dX4_eventOf_35 : decode cX4_eventOf 35 = .ok (.iand, 1) := by decide +kernel
theorem dX4_eventOf_36 : decode cX4_eventOf 36 = .ok (.ifCond .eq 7, 3) := by decide +kernel
theorem dX4_eventOf_39 : decode cX4_eventOf 39 = .ok (.iconst 1, 1) := by decide +kernel
theorem dX4_eventOf_40 : decode cX4_eventOf 40 = .ok (.goto 4, 3) := by decide +kernel
theorem dX4_eventOf_43 : decode cX4_eventOf 43 = .ok (.iconst 0, 1) := by decide +kernel
theorem dX4_eventOf_44 : decode cX4_eventOf 44 = .ok (.ireturn, 1) := by decide +kernel
theorem yv_X4_eventOf : YS yX4_eventOf cX4_eventOf 4 (some .int) 3 := ⟨kw2_109, kw1_12, kw2_110, by decide +kernel⟩
set_option maxHeartbeats 4000000 in
set_option maxRecDepth 100000 in
theorem c_X4_eventOf {l : Launch} {D : va_G} {cy : Nat → ClassId} {ws : va_W} {b n : Nat} {f : Nat → UInt8} (hB : PK cy ws b f n) {hd q : Nat} (hh : hd < 2 ^ 20) (hq : q < 2 ^ 31) : RO l yX4_eventOf cX4_eventOf 4 (some .int) 1 21 [.ref b, .int (nI hd), .int (nI q)] D cy ws (.int (nI (tg_event (tg_rd f n) hd q))) := by
  refine ROi (by decide) (lv0 := [(0, .ref b), (1, .int (nI hd)), (2, .int (nI q))]) rfl (Nat.le_of_ble_eq_true rfl) ?_
  intro p e s m args below meth c ls Q S hP hK hend hl
  have hx := S.1
  have hb := S.2.1
  have hown : s.vm.findClass RX4 = some m.cls := S.2.2.2.1
  have ht : ∀ w ∈ lw_g, w.before args s = true := fun w h => S.2.2.2.2 w (List.mem_cons_of_mem _ h)
  obtain ⟨kb, ka, ar, N, hb0, ha0, hnN, hN⟩ := id hB
  refine lv_iload_n hx hb dX4_eventOf_0 rfl (lv_at hl 2 rfl) ?_
  refine nv_bipush (k := 6) hx hb dX4_eventOf_1 (by decide) ?_
  refine nv_icmp_eq (tgt := 8) hx hb dX4_eventOf_3 (by decide) (by omega) (by omega) (fun h3 => ?_) (fun h3 => ?_)
  · skip
    refine lv_aload_n hx hb dX4_eventOf_8 rfl (lv_at hl 0 rfl) ?_
    refine lv_iload_n hx hb dX4_eventOf_9 rfl (lv_at hl 1 rfl) ?_
    refine nv_bipush (k := 13) hx hb dX4_eventOf_10 (by decide) ?_
    refine nv_iadd hx hb dX4_eventOf_12 ?_
    refine ro_V S (c_X1_octet hB (k := hd + 13) (by omega)) kw2_33 yv_X1_octet ⟨Nat.le_of_ble_eq_true rfl, Nat.le_of_ble_eq_true rfl⟩ hK hP (va_recv hK hP (ci := 2) (q0 := kb) rfl hb0) rfl hl.1 rfl (Nat.le_of_ble_eq_true rfl) dX4_eventOf_13 ⟨Nat.le_refl _, Nat.le_refl _⟩ ?_
    have hq13 := tg_rd_lt f n (hd + 13)
    refine lv_istore_n (lv' := [(3, .int (nI (tg_rd f n (hd + 13)))), (0, .ref b), (1, .int (nI hd)), (2, .int (nI q))]) hx hb dX4_eventOf_16 rfl hl (by decide) rfl (fun ls hl => ?_)
    refine lv_iload_n hx hb dX4_eventOf_17 rfl (lv_at hl 0 rfl) ?_
    refine nv_iconst (k := 4) hx hb dX4_eventOf_18 rfl ?_
    refine nv_iandN hx hb dX4_eventOf_19 ?_
    have hq19 : (tg_rd f n (hd + 13)) &&& (4) ≤ (4) := Nat.and_le_right
    refine nv_if_eq (tgt := 25) hx hb dX4_eventOf_20 (by decide) (by omega) (fun h20 => ?_) (fun h20 => ?_)
    · skip
      refine lv_iload_n hx hb dX4_eventOf_25 rfl (lv_at hl 0 rfl) ?_
      refine nv_iconst (k := 2) hx hb dX4_eventOf_26 rfl ?_
      refine nv_iandN hx hb dX4_eventOf_27 ?_
      have hq27 : (tg_rd f n (hd + 13)) &&& (2) ≤ (2) := Nat.and_le_right
      refine nv_if_eq (tgt := 33) hx hb dX4_eventOf_28 (by decide) (by omega) (fun h28 => ?_) (fun h28 => ?_)
      · skip
        refine lv_iload_n hx hb dX4_eventOf_33 rfl (lv_at hl 0 rfl) ?_
        refine nv_iconst (k := 1) hx hb dX4_eventOf_34 rfl ?_
        refine nv_iand 1 hx hb (by omega) (by decide) dX4_eventOf_35 ?_
        refine nv_if_eq (tgt := 43) hx hb dX4_eventOf_36 (by decide) (by omega) (fun h36 => ?_) (fun h36 => ?_)
        · skip
          refine nv_iconst (k := 0) hx hb dX4_eventOf_43 rfl ?_
          exact hend ((congrArg nI (by simp only [tg_event]; (repeat' split) <;> omega))) dX4_eventOf_44
        refine nv_iconst (k := 1) hx hb dX4_eventOf_39 rfl ?_
        refine lv_goto (tgt := 44) hx hb dX4_eventOf_40 (by decide) ?_
        exact hend ((congrArg nI (by simp only [tg_event]; (repeat' split) <;> omega))) dX4_eventOf_44
      refine nv_iconst (k := 2) hx hb dX4_eventOf_31 rfl ?_
      exact hend ((congrArg nI (by simp only [tg_event]; (repeat' split) <;> omega))) dX4_eventOf_32
    refine nv_iconst (k := 3) hx hb dX4_eventOf_23 rfl ?_
    exact hend ((congrArg nI (by simp only [tg_event]; (repeat' split) <;> omega))) dX4_eventOf_24
  refine nv_iconst (k := 0) hx hb dX4_eventOf_6 rfl ?_
  exact hend ((congrArg nI (by simp only [tg_event]; (repeat' split) <;> omega))) dX4_eventOf_7
theorem dX9_words_0 : decode cX9_words 0 = .ok (.iconst 0, 1) := by decide +kernel
theorem dX9_words_1 : decode cX9_words 1 = .ok (.istore 4, 2) := by decide +kernel
theorem dX9_words_3 : decode cX9_words 3 = .ok (.iload_n 1, 1) := by decide +kernel
theorem dX9_words_4 : decode cX9_words 4 = .ok (.istore 5, 2) := by decide +kernel
theorem dX9_words_6 : decode cX9_words 6 = .ok (.iload 5, 2) := by decide +kernel
theorem dX9_words_8 : decode cX9_words 8 = .ok (.iload_n 2, 1) := by decide +kernel
theorem dX9_words_9 : decode cX9_words 9 = .ok (.if_icmp .ge 55, 3) := by decide +kernel
theorem dX9_words_12 : decode cX9_words 12 = .ok (.iload 5, 2) := by decide +kernel
theorem dX9_words_14 : decode cX9_words 14 = .ok (.iload_n 3, 1) := by decide +kernel
theorem dX9_words_15 : decode cX9_words 15 = .ok (.if_icmp .eq 43, 3) := by decide +kernel
theorem dX9_words_18 : decode cX9_words 18 = .ok (.iload 5, 2) := by decide +kernel
theorem dX9_words_20 : decode cX9_words 20 = .ok (.iload_n 3, 1) := by decide +kernel
theorem dX9_words_21 : decode cX9_words 21 = .ok (.iconst 1, 1) := by decide +kernel
theorem dX9_words_22 : decode cX9_words 22 = .ok (.iadd, 1) := by decide +kernel
theorem dX9_words_23 : decode cX9_words 23 = .ok (.if_icmp .eq 35, 3) := by decide +kernel
theorem dX9_words_26 : decode cX9_words 26 = .ok (.iload 4, 2) := by decide +kernel
theorem dX9_words_28 : decode cX9_words 28 = .ok (.iload 5, 2) := by decide +kernel
theorem dX9_words_30 : decode cX9_words 30 = .ok (.iload_n 1, 1) := by decide +kernel
theorem dX9_words_31 : decode cX9_words 31 = .ok (.isub, 1) := by decide +kernel
theorem dX9_words_32 : decode cX9_words 32 = .ok (.iconst 1, 1) := by decide +kernel
theorem dX9_words_33 : decode cX9_words 33 = .ok (.iand, 1) := by decide +kernel
theorem dX9_words_34 : decode cX9_words 34 = .ok (.ifCond .ne 15, 3) := by decide +kernel
theorem dX9_words_37 : decode cX9_words 37 = .ok (.aload_n 0, 1) := by decide +kernel
theorem dX9_words_38 : decode cX9_words 38 = .ok (.iload 5, 2) := by decide +kernel
theorem dX9_words_40 : decode cX9_words 40 = .ok (.invokevirtual 49, 3) := by decide +kernel
theorem dX9_words_43 : decode cX9_words 43 = .ok (.bipush 8, 2) := by decide +kernel
theorem dX9_words_45 : decode cX9_words 45 = .ok (.ishl, 1) := by decide +kernel
theorem dX9_words_46 : decode cX9_words 46 = .ok (.goto 9, 3) := by decide +kernel
theorem dX9_words_49 : decode cX9_words 49 = .ok (.aload_n 0, 1) := by decide +kernel
theorem dX9_words_50 : decode cX9_words 50 = .ok (.iload 5, 2) := by decide +kernel
theorem dX9_words_52 : decode cX9_words 52 = .ok (.invokevirtual 49, 3) := by decide +kernel
theorem dX9_words_55 : decode cX9_words 55 = .ok (.iadd, 1) := by decide +kernel
theorem dX9_words_56 : decode cX9_words 56 = .ok (.istore 4, 2) := by decide +kernel
theorem dX9_words_58 : decode cX9_words 58 = .ok (.iinc 5 1, 3) := by decide +kernel
theorem dX9_words_61 : decode cX9_words 61 = .ok (.goto (-55), 3) := by decide +kernel
theorem dX9_words_64 : decode cX9_words 64 = .ok (.iload 4, 2) := by decide +kernel
theorem dX9_words_66 : decode cX9_words 66 = .ok (.ireturn, 1) := by decide +kernel
theorem yv_X9_words : YS yX9_words cX9_words 6 (some .int) 4 := ⟨kw2_59, kw1_13, kw2_60, by decide +kernel⟩
set_option maxHeartbeats 4000000 in
set_option maxRecDepth 100000 in
theorem c_X9_words {l : Launch} {D : va_G} {cy : Nat → ClassId} {ws : va_W} {b n : Nat} {f : Nat → UInt8} (hB : PK cy ws b f n) {a z w : Nat} (ha : a ≤ z) (hz : z ≤ 1700) (hw : w < 2 ^ 30) : RO l yX9_words cX9_words 6 (some .int) 1 21 [.ref b, .int (nI a), .int (nI z), .int (nI w)] D cy ws (.int (nI (tg_ws (tg_rd f n) a w (z - a)))) := by
  refine ROi (by decide) (lv0 := [(0, .ref b), (1, .int (nI a)), (2, .int (nI z)), (3, .int (nI w))]) rfl (Nat.le_of_ble_eq_true rfl) ?_
  intro p e s m args below meth c ls Q S hP hK hend hl
  have hx := S.1
  have hb := S.2.1
  have hown : s.vm.findClass RX9 = some m.cls := S.2.2.2.1
  have ht : ∀ w ∈ lw_g, w.before args s = true := fun w h => S.2.2.2.2 w (List.mem_cons_of_mem _ h)
  obtain ⟨kb, ka, ar, N, hb0, ha0, hnN, hN⟩ := id hB
  refine nv_iconst (k := 0) hx hb dX9_words_0 rfl ?_
  refine lv_istore (lv' := [(4, .int (nI 0)), (0, .ref b), (1, .int (nI a)), (2, .int (nI z)), (3, .int (nI w))]) hx hb dX9_words_1 hl (by decide) rfl (fun ls hl => ?_)
  refine lv_iload_n hx hb dX9_words_3 rfl (lv_at hl 2 rfl) ?_
  refine lv_istore (lv' := [(5, .int (nI a)), (4, .int (nI 0)), (0, .ref b), (1, .int (nI a)), (2, .int (nI z)), (3, .int (nI w))]) hx hb dX9_words_4 hl (by decide) rfl (fun ls hl => ?_)
  have L6 : ∀ (fu : Nat) (j : Nat) (t : Nat), z - (a + j) < fu → a + j ≤ z → t = tg_ws (tg_rd f n) a w j → ∀ ls : Array Slot, lv_has ls 6 [(0, .ref b), (1, .int (nI a)), (2, .int (nI z)), (3, .int (nI w)), (4, .int (nI t)), (5, .int (nI (a + j)))] → W p l e (rmo 1 21) s m args below meth c s.heap [] 0 0 Q (F0 m 6 ls []) := by
    intro fu
    induction fu with
    | zero => intro j t h9; omega
    | succ fu ih =>
      intro j t hfu hj hw ls hl
      have hwl := tg_ws_le f n a w j
      refine lv_iload hx hb dX9_words_6 (lv_at hl 5 rfl) ?_
      refine lv_iload_n hx hb dX9_words_8 rfl (lv_at hl 2 rfl) ?_
      refine nv_icmp_ge (tgt := 64) hx hb dX9_words_9 (by decide) (by omega) (by omega) (fun h9 => ?_) (fun h9 => ?_)
      · skip
        refine lv_iload hx hb dX9_words_64 (lv_at hl 4 rfl) ?_
        exact hend ((congrArg nI (by rw [hw, show z - a = j by omega]))) dX9_words_66
      refine lv_iload hx hb dX9_words_12 (lv_at hl 5 rfl) ?_
      refine lv_iload_n hx hb dX9_words_14 rfl (lv_at hl 3 rfl) ?_
      refine nv_icmp_eq (tgt := 58) hx hb dX9_words_15 (by decide) (by omega) (by omega) (fun h15 => ?_) (fun h15 => ?_)
      · skip
        refine lv_iinc (v := (nI (a + j + 1))) (lv' := [(5, .int (nI (a + j + 1))), (0, .ref b), (1, .int (nI a)), (2, .int (nI z)), (3, .int (nI w)), (4, .int (nI t))]) hx hb dX9_words_58 hl (k := 5) rfl (nI_inc _ _) (by decide) rfl (fun ls hl => ?_)
        refine lv_goto (tgt := 6) hx hb dX9_words_61 (by decide) ?_
        exact ih (j + 1) (t) (by omega) (by omega) (by rw [hw]; simp only [tg_ws]; (repeat' split) <;> omega) ls (lv_sub hl [1, 2, 3, 4, 5, 0] rfl)
      refine lv_iload hx hb dX9_words_18 (lv_at hl 5 rfl) ?_
      refine lv_iload_n hx hb dX9_words_20 rfl (lv_at hl 3 rfl) ?_
      refine nv_iconst (k := 1) hx hb dX9_words_21 rfl ?_
      refine nv_iadd hx hb dX9_words_22 ?_
      refine nv_icmp_eq (tgt := 58) hx hb dX9_words_23 (by decide) (by omega) (by omega) (fun h23 => ?_) (fun h23 => ?_)
      · skip
        refine lv_iinc (v := (nI (a + j + 1))) (lv' := [(5, .int (nI (a + j + 1))), (0, .ref b), (1, .int (nI a)), (2, .int (nI z)), (3, .int (nI w)), (4, .int (nI t))]) hx hb dX9_words_58 hl (k := 5) rfl (nI_inc _ _) (by decide) rfl (fun ls hl => ?_)
        refine lv_goto (tgt := 6) hx hb dX9_words_61 (by decide) ?_
        exact ih (j + 1) (t) (by omega) (by omega) (by rw [hw]; simp only [tg_ws]; (repeat' split) <;> omega) ls (lv_sub hl [1, 2, 3, 4, 5, 0] rfl)
      refine lv_iload hx hb dX9_words_26 (lv_at hl 4 rfl) ?_
      refine lv_iload hx hb dX9_words_28 (lv_at hl 5 rfl) ?_
      refine lv_iload_n hx hb dX9_words_30 rfl (lv_at hl 1 rfl) ?_
      refine nv_isub hx hb (by omega) dX9_words_31 ?_
      refine nv_iconst (k := 1) hx hb dX9_words_32 rfl ?_
      refine nv_iand 1 hx hb (by omega) (by decide) dX9_words_33 ?_
      refine nv_if_ne (tgt := 49) hx hb dX9_words_34 (by decide) (by omega) (fun h34 => ?_) (fun h34 => ?_)
      · skip
        refine lv_aload_n hx hb dX9_words_49 rfl (lv_at hl 0 rfl) ?_
        refine lv_iload hx hb dX9_words_50 (lv_at hl 5 rfl) ?_
        refine ro_V S (c_X1_octet hB (k := a + j) (by omega)) kw2_61 yv_X1_octet ⟨Nat.le_of_ble_eq_true rfl, Nat.le_of_ble_eq_true rfl⟩ hK hP (va_recv hK hP (ci := 2) (q0 := kb) rfl hb0) rfl hl.1 rfl (Nat.le_of_ble_eq_true rfl) dX9_words_52 ⟨Nat.le_refl _, Nat.le_refl _⟩ ?_
        have hq52 := tg_rd_lt f n (a + j)
        refine nv_iadd hx hb dX9_words_55 ?_
        refine lv_istore (lv' := [(4, .int (nI (t + (tg_rd f n (a + j))))), (0, .ref b), (1, .int (nI a)), (2, .int (nI z)), (3, .int (nI w)), (5, .int (nI (a + j)))]) hx hb dX9_words_56 hl (by decide) rfl (fun ls hl => ?_)
        refine lv_iinc (v := (nI (a + j + 1))) (lv' := [(5, .int (nI (a + j + 1))), (4, .int (nI (t + (tg_rd f n (a + j))))), (0, .ref b), (1, .int (nI a)), (2, .int (nI z)), (3, .int (nI w))]) hx hb dX9_words_58 hl (k := 5) rfl (nI_inc _ _) (by decide) rfl (fun ls hl => ?_)
        refine lv_goto (tgt := 6) hx hb dX9_words_61 (by decide) ?_
        exact ih (j + 1) (t + (tg_rd f n (a + j))) (by omega) (by omega) (by rw [hw]; simp only [tg_ws]; (repeat' split) <;> omega) ls (lv_sub hl [2, 3, 4, 5, 1, 0] rfl)
      refine lv_aload_n hx hb dX9_words_37 rfl (lv_at hl 0 rfl) ?_
      refine lv_iload hx hb dX9_words_38 (lv_at hl 5 rfl) ?_
      refine ro_V S (c_X1_octet hB (k := a + j) (by omega)) kw2_61 yv_X1_octet ⟨Nat.le_of_ble_eq_true rfl, Nat.le_of_ble_eq_true rfl⟩ hK hP (va_recv hK hP (ci := 2) (q0 := kb) rfl hb0) rfl hl.1 rfl (Nat.le_of_ble_eq_true rfl) dX9_words_40 ⟨Nat.le_refl _, Nat.le_refl _⟩ ?_
      have hq40 := tg_rd_lt f n (a + j)
      refine nv_bipush (k := 8) hx hb dX9_words_43 (by decide) ?_
      refine nv_ishl hx hb (by omega) dX9_words_45 ?_
      refine lv_goto (tgt := 55) hx hb dX9_words_46 (by decide) ?_
      refine nv_iadd hx hb dX9_words_55 ?_
      refine lv_istore (lv' := [(4, .int (nI (t + ((tg_rd f n (a + j)) * 2 ^ 8)))), (0, .ref b), (1, .int (nI a)), (2, .int (nI z)), (3, .int (nI w)), (5, .int (nI (a + j)))]) hx hb dX9_words_56 hl (by decide) rfl (fun ls hl => ?_)
      refine lv_iinc (v := (nI (a + j + 1))) (lv' := [(5, .int (nI (a + j + 1))), (4, .int (nI (t + ((tg_rd f n (a + j)) * 2 ^ 8)))), (0, .ref b), (1, .int (nI a)), (2, .int (nI z)), (3, .int (nI w))]) hx hb dX9_words_58 hl (k := 5) rfl (nI_inc _ _) (by decide) rfl (fun ls hl => ?_)
      refine lv_goto (tgt := 6) hx hb dX9_words_61 (by decide) ?_
      exact ih (j + 1) (t + ((tg_rd f n (a + j)) * 2 ^ 8)) (by omega) (by omega) (by rw [hw]; simp only [tg_ws]; (repeat' split) <;> omega) ls (lv_sub hl [2, 3, 4, 5, 1, 0] rfl)
  exact L6 (z - a + 1) 0 0 (by omega) (by omega) rfl ls (lv_sub hl [2, 3, 4, 5, 1, 0] rfl)
theorem dX9_closed_0 : decode cX9_closed 0 = .ok (.iload_n 0, 1) := by decide +kernel
theorem dX9_closed_1 : decode cX9_closed 1 = .ok (.ldc 25, 2) := by decide +kernel
theorem dX9_closed_3 : decode cX9_closed 3 = .ok (.iand, 1) := by decide +kernel
theorem dX9_closed_4 : decode cX9_closed 4 = .ok (.iload_n 0, 1) := by decide +kernel
theorem dX9_closed_5 : decode cX9_closed 5 = .ok (.bipush 16, 2) := by decide +kernel
theorem dX9_closed_7 : decode cX9_closed 7 = .ok (.iushr, 1) := by decide +kernel
theorem dX9_closed_8 : decode cX9_closed 8 = .ok (.iadd, 1) := by decide +kernel
theorem dX9_closed_9 : decode cX9_closed 9 = .ok (.istore_n 1, 1) := by decide +kernel
theorem dX9_closed_10 : decode cX9_closed 10 = .ok (.iload_n 1, 1) := by decide +kernel
theorem dX9_closed_11 : decode cX9_closed 11 = .ok (.ldc 25, 2) := by decide +kernel
theorem dX9_closed_13 : decode cX9_closed 13 = .ok (.iand, 1) := by decide +kernel
theorem dX9_closed_14 : decode cX9_closed 14 = .ok (.iload_n 1, 1) := by decide +kernel
theorem dX9_closed_15 : decode cX9_closed 15 = .ok (.bipush 16, 2) := by decide +kernel
theorem dX9_closed_17 : decode cX9_closed 17 = .ok (.iushr, 1) := by decide +kernel
theorem dX9_closed_18 : decode cX9_closed 18 = .ok (.iadd, 1) := by decide +kernel
theorem dX9_closed_19 : decode cX9_closed 19 = .ok (.istore_n 2, 1) := by decide +kernel
theorem dX9_closed_20 : decode cX9_closed 20 = .ok (.iload_n 2, 1) := by decide +kernel
theorem dX9_closed_21 : decode cX9_closed 21 = .ok (.iconst (-1), 1) := by decide +kernel
theorem dX9_closed_22 : decode cX9_closed 22 = .ok (.ixor, 1) := by decide +kernel
theorem dX9_closed_23 : decode cX9_closed 23 = .ok (.ldc 25, 2) := by decide +kernel
theorem dX9_closed_25 : decode cX9_closed 25 = .ok (.iand, 1) := by decide +kernel
theorem dX9_closed_26 : decode cX9_closed 26 = .ok (.ireturn, 1) := by decide +kernel
theorem yv_X9_closed : YS yX9_closed cX9_closed 3 (some .int) 1 := ⟨kw2_63, kw1_13, kw2_64, by decide +kernel⟩
set_option maxHeartbeats 4000000 in
set_option maxRecDepth 100000 in
theorem c_X9_closed {l : Launch} {D : va_G} {cy : Nat → ClassId} {ws : va_W} {t : Nat} (ht0 : t < 2 ^ 31) : RO l yX9_closed cX9_closed 3 (some .int) 0 0 [.int (nI t)] D cy ws (.int (nI (tg_cl t))) := by
  refine ROi (by decide) (lv0 := [(0, .int (nI t))]) rfl (Nat.le_of_ble_eq_true rfl) ?_
  intro p e s m args below meth c ls Q S hP hK hend hl
  have hx := S.1
  have hb := S.2.1
  have hown : s.vm.findClass RX9 = some m.cls := S.2.2.2.1
  have ht : ∀ w ∈ lw_g, w.before args s = true := fun w h => S.2.2.2.2 w (List.mem_cons_of_mem _ h)
  refine lv_iload_n hx hb dX9_closed_0 rfl (lv_at hl 0 rfl) ?_
  refine nv_ldc (k := 65535) hx hb hown (ht _ kw2_65) (by decide) dX9_closed_1 ?_
  refine nv_iand 16 hx hb (by omega) (by decide) dX9_closed_3 ?_
  refine lv_iload_n hx hb dX9_closed_4 rfl (lv_at hl 0 rfl) ?_
  refine nv_bipush (k := 16) hx hb dX9_closed_5 (by decide) ?_
  refine nv_iushr hx hb (by omega) (by omega) dX9_closed_7 ?_
  refine nv_iadd hx hb dX9_closed_8 ?_
  refine lv_istore_n (lv' := [(1, .int (nI (((t) % 2 ^ 16) + ((t) / 2 ^ 16)))), (0, .int (nI t))]) hx hb dX9_closed_9 rfl hl (by decide) rfl (fun ls hl => ?_)
  refine lv_iload_n hx hb dX9_closed_10 rfl (lv_at hl 0 rfl) ?_
  refine nv_ldc (k := 65535) hx hb hown (ht _ kw2_65) (by decide) dX9_closed_11 ?_
  refine nv_iand 16 hx hb (by omega) (by decide) dX9_closed_13 ?_
  refine lv_iload_n hx hb dX9_closed_14 rfl (lv_at hl 0 rfl) ?_
  refine nv_bipush (k := 16) hx hb dX9_closed_15 (by decide) ?_
  refine nv_iushr hx hb (by omega) (by omega) dX9_closed_17 ?_
  refine nv_iadd hx hb dX9_closed_18 ?_
  refine nv_top (fun y_1 ey_1 => ?_)
  refine lv_istore_n (lv' := [(2, .int (nI y_1)), (1, .int (nI (((t) % 2 ^ 16) + ((t) / 2 ^ 16)))), (0, .int (nI t))]) hx hb dX9_closed_19 rfl hl (by decide) rfl (fun ls hl => ?_)
  refine lv_iload_n hx hb dX9_closed_20 rfl (lv_at hl 0 rfl) ?_
  refine lv_iconst (v := -1) hx hb dX9_closed_21 (by decide) ?_
  refine lv_ixor hx hb dX9_closed_22 ?_
  refine nv_ldc (k := 65535) hx hb hown (ht _ kw2_65) (by decide) dX9_closed_23 ?_
  refine lv_iand hx hb dX9_closed_25 ?_
  exact hend ((by rw [nI_not (by omega)]; exact congrArg nI (by simp only [tg_cl]; omega))) dX9_closed_26
theorem dX9_ofHead_0 : decode cX9_ofHead 0 = .ok (.aload_n 0, 1) := by decide +kernel
theorem dX9_ofHead_1 : decode cX9_ofHead 1 = .ok (.iconst 0, 1) := by decide +kernel
theorem dX9_ofHead_2 : decode cX9_ofHead 2 = .ok (.bipush 20, 2) := by decide +kernel
theorem dX9_ofHead_4 : decode cX9_ofHead 4 = .ok (.bipush 10, 2) := by decide +kernel
theorem dX9_ofHead_6 : decode cX9_ofHead 6 = .ok (.invokestatic 9, 3) := by decide +kernel
theorem dX9_ofHead_9 : decode cX9_ofHead 9 = .ok (.invokestatic 15, 3) := by decide +kernel
theorem dX9_ofHead_12 : decode cX9_ofHead 12 = .ok (.ireturn, 1) := by decide +kernel
theorem yv_X9_ofHead : YS yX9_ofHead cX9_ofHead 1 (some .int) 1 := ⟨kw3_133, kw1_13, kw3_134, by decide +kernel⟩
set_option maxHeartbeats 4000000 in
set_option maxRecDepth 100000 in
theorem c_X9_ofHead {l : Launch} {D : va_G} {cy : Nat → ClassId} {ws : va_W} {b n : Nat} {f : Nat → UInt8} (hB : PK cy ws b f n)  : RO l yX9_ofHead cX9_ofHead 1 (some .int) 2 46 [.ref b] D cy ws (.int (nI (tg_cl (tg_ws (tg_rd f n) 0 10 20)))) := by
  refine ROi (by decide) (lv0 := [(0, .ref b)]) rfl (Nat.le_of_ble_eq_true rfl) ?_
  intro p e s m args below meth c ls Q S hP hK hend hl
  have hx := S.1
  have hb := S.2.1
  have hown : s.vm.findClass RX9 = some m.cls := S.2.2.2.1
  have ht : ∀ w ∈ lw_g, w.before args s = true := fun w h => S.2.2.2.2 w (List.mem_cons_of_mem _ h)
  obtain ⟨kb, ka, ar, N, hb0, ha0, hnN, hN⟩ := id hB
  refine lv_aload_n hx hb dX9_ofHead_0 rfl (lv_at hl 0 rfl) ?_
  refine nv_iconst (k := 0) hx hb dX9_ofHead_1 rfl ?_
  refine nv_bipush (k := 20) hx hb dX9_ofHead_2 (by decide) ?_
  refine nv_bipush (k := 10) hx hb dX9_ofHead_4 (by decide) ?_
  refine ro_S S (c_X9_words hB (a := 0) (z := 20) (w := 10) (by omega) (by omega) (by omega)) kw2_58 yv_X9_words ⟨Nat.le_of_ble_eq_true rfl, Nat.le_of_ble_eq_true rfl⟩ hK hP rfl hl.1 rfl (Nat.le_of_ble_eq_true rfl) dX9_ofHead_6 ⟨Nat.le_refl _, Nat.le_refl _⟩ ?_
  have hq6 := tg_ws_le f n 0 10 (20 - 0)
  refine ro_S S (c_X9_closed (t := tg_ws (tg_rd f n) 0 10 (20 - 0)) (by omega)) kw2_62 yv_X9_closed ⟨Nat.le_of_ble_eq_true rfl, Nat.le_of_ble_eq_true rfl⟩ hK hP rfl hl.1 rfl (Nat.le_of_ble_eq_true rfl) dX9_ofHead_9 ⟨Nat.le_refl _, Nat.le_refl _⟩ ?_
  have hq9 := tg_cl_le (tg_ws (tg_rd f n) 0 10 (20 - 0))
  exact hend (rfl) dX9_ofHead_12
theorem dX9_ofPart_0 : decode cX9_ofPart 0 = .ok (.aload_n 0, 1) := by decide +kernel
theorem dX9_ofPart_1 : decode cX9_ofPart 1 = .ok (.iload_n 2, 1) := by decide +kernel
theorem dX9_ofPart_2 : decode cX9_ofPart 2 = .ok (.invokestatic 19, 3) := by decide +kernel
theorem dX9_ofPart_5 : decode cX9_ofPart 5 = .ok (.istore 4, 2) := by decide +kernel
theorem dX9_ofPart_7 : decode cX9_ofPart 7 = .ok (.aload_n 0, 1) := by decide +kernel
theorem dX9_ofPart_8 : decode cX9_ofPart 8 = .ok (.iload_n 2, 1) := by decide +kernel
theorem dX9_ofPart_9 : decode cX9_ofPart 9 = .ok (.iload_n 1, 1) := by decide +kernel
theorem dX9_ofPart_10 : decode cX9_ofPart 10 = .ok (.iload_n 3, 1) := by decide +kernel
theorem dX9_ofPart_11 : decode cX9_ofPart 11 = .ok (.invokestatic 9, 3) := by decide +kernel
theorem dX9_ofPart_14 : decode cX9_ofPart 14 = .ok (.istore 5, 2) := by decide +kernel
theorem dX9_ofPart_16 : decode cX9_ofPart 16 = .ok (.iload_n 2, 1) := by decide +kernel
theorem dX9_ofPart_17 : decode cX9_ofPart 17 = .ok (.bipush 40, 2) := by decide +kernel
theorem dX9_ofPart_19 : decode cX9_ofPart 19 = .ok (.if_icmp .eq 9, 3) := by decide +kernel
theorem dX9_ofPart_22 : decode cX9_ofPart 22 = .ok (.iload 4, 2) := by decide +kernel
theorem dX9_ofPart_24 : decode cX9_ofPart 24 = .ok (.iconst 1, 1) := by decide +kernel
theorem dX9_ofPart_25 : decode cX9_ofPart 25 = .ok (.if_icmp .eq 38, 3) := by decide +kernel
theorem dX9_ofPart_28 : decode cX9_ofPart 28 = .ok (.iload_n 2, 1) := by decide +kernel
theorem dX9_ofPart_29 : decode cX9_ofPart 29 = .ok (.bipush 40, 2) := by decide +kernel
theorem dX9_ofPart_31 : decode cX9_ofPart 31 = .ok (.if_icmp .ne 8, 3) := by decide +kernel
theorem dX9_ofPart_34 : decode cX9_ofPart 34 = .ok (.bipush 8, 2) := by decide +kernel
theorem dX9_ofPart_36 : decode cX9_ofPart 36 = .ok (.goto 5, 3) := by decide +kernel
theorem dX9_ofPart_39 : decode cX9_ofPart 39 = .ok (.bipush 12, 2) := by decide +kernel
theorem dX9_ofPart_41 : decode cX9_ofPart 41 = .ok (.istore 6, 2) := by decide +kernel
theorem dX9_ofPart_43 : decode cX9_ofPart 43 = .ok (.iload 5, 2) := by decide +kernel
theorem dX9_ofPart_45 : decode cX9_ofPart 45 = .ok (.aload_n 0, 1) := by decide +kernel
theorem dX9_ofPart_46 : decode cX9_ofPart 46 = .ok (.iload 6, 2) := by decide +kernel
theorem dX9_ofPart_48 : decode cX9_ofPart 48 = .ok (.iload_n 2, 1) := by decide +kernel
theorem dX9_ofPart_49 : decode cX9_ofPart 49 = .ok (.iload_n 2, 1) := by decide +kernel
theorem dX9_ofPart_50 : decode cX9_ofPart 50 = .ok (.invokestatic 9, 3) := by decide +kernel
theorem dX9_ofPart_53 : decode cX9_ofPart 53 = .ok (.iload_n 1, 1) := by decide +kernel
theorem dX9_ofPart_54 : decode cX9_ofPart 54 = .ok (.iload_n 2, 1) := by decide +kernel
theorem dX9_ofPart_55 : decode cX9_ofPart 55 = .ok (.isub, 1) := by decide +kernel
theorem dX9_ofPart_56 : decode cX9_ofPart 56 = .ok (.iadd, 1) := by decide +kernel
theorem dX9_ofPart_57 : decode cX9_ofPart 57 = .ok (.iload 4, 2) := by decide +kernel
theorem dX9_ofPart_59 : decode cX9_ofPart 59 = .ok (.iadd, 1) := by decide +kernel
theorem dX9_ofPart_60 : decode cX9_ofPart 60 = .ok (.iadd, 1) := by decide +kernel
theorem dX9_ofPart_61 : decode cX9_ofPart 61 = .ok (.istore 5, 2) := by decide +kernel
theorem dX9_ofPart_63 : decode cX9_ofPart 63 = .ok (.iload 5, 2) := by decide +kernel
theorem dX9_ofPart_65 : decode cX9_ofPart 65 = .ok (.invokestatic 15, 3) := by decide +kernel
theorem dX9_ofPart_68 : decode cX9_ofPart 68 = .ok (.istore 6, 2) := by decide +kernel
theorem dX9_ofPart_70 : decode cX9_ofPart 70 = .ok (.iload 4, 2) := by decide +kernel
theorem dX9_ofPart_72 : decode cX9_ofPart 72 = .ok (.bipush 17, 2) := by decide +kernel
theorem dX9_ofPart_74 : decode cX9_ofPart 74 = .ok (.if_icmp .ne 13, 3) := by decide +kernel
theorem dX9_ofPart_77 : decode cX9_ofPart 77 = .ok (.iload 6, 2) := by decide +kernel
theorem dX9_ofPart_79 : decode cX9_ofPart 79 = .ok (.ifCond .ne 8, 3) := by decide +kernel
theorem dX9_ofPart_82 : decode cX9_ofPart 82 = .ok (.ldc 25, 2) := by decide +kernel
theorem dX9_ofPart_84 : decode cX9_ofPart 84 = .ok (.goto 5, 3) := by decide +kernel
theorem dX9_ofPart_87 : decode cX9_ofPart 87 = .ok (.iload 6, 2) := by decide +kernel
theorem dX9_ofPart_89 : decode cX9_ofPart 89 = .ok (.ireturn, 1) := by decide +kernel
theorem yv_X9_ofPart : YS yX9_ofPart cX9_ofPart 7 (some .int) 4 := ⟨kw2_56, kw1_13, kw2_57, by decide +kernel⟩
set_option maxHeartbeats 4000000 in
set_option maxRecDepth 100000 in
theorem c_X9_ofPart {l : Launch} {D : va_G} {cy : Nat → ClassId} {ws : va_W} {b n : Nat} {f : Nat → UInt8} (hB : PK cy ws b f n) {z hd w : Nat} (hh : hd = 20 ∨ hd = 40) (hz1 : hd ≤ z) (hz : z ≤ 1700) (hw : w < 2 ^ 30) : RO l yX9_ofPart cX9_ofPart 7 (some .int) 2 46 [.ref b, .int (nI z), .int (nI hd), .int (nI w)] D cy ws (.int (nI (tg_sum (tg_rd f n) hd z w (tg_proto (tg_rd f n) hd)))) := by
  refine ROi (by decide) (lv0 := [(0, .ref b), (1, .int (nI z)), (2, .int (nI hd)), (3, .int (nI w))]) rfl (Nat.le_of_ble_eq_true rfl) ?_
  intro p e s m args below meth c ls Q S hP hK hend hl
  have hx := S.1
  have hb := S.2.1
  have hown : s.vm.findClass RX9 = some m.cls := S.2.2.2.1
  have ht : ∀ w ∈ lw_g, w.before args s = true := fun w h => S.2.2.2.2 w (List.mem_cons_of_mem _ h)
  obtain ⟨kb, ka, ar, N, hb0, ha0, hnN, hN⟩ := id hB
  refine lv_aload_n hx hb dX9_ofPart_0 rfl (lv_at hl 0 rfl) ?_
  refine lv_iload_n hx hb dX9_ofPart_1 rfl (lv_at hl 2 rfl) ?_
  refine ro_S S (c_X4_protocolOf hB (hd := hd) (by omega)) kw2_47 yv_X4_protocolOf ⟨Nat.le_of_ble_eq_true rfl, Nat.le_of_ble_eq_true rfl⟩ hK hP rfl hl.1 rfl (Nat.le_of_ble_eq_true rfl) dX9_ofPart_2 ⟨Nat.le_refl _, Nat.le_refl _⟩ ?_
  have hq2 := tg_proto_lt f n hd
  refine lv_istore (lv' := [(4, .int (nI (tg_proto (tg_rd f n) hd))), (0, .ref b), (1, .int (nI z)), (2, .int (nI hd)), (3, .int (nI w))]) hx hb dX9_ofPart_5 hl (by decide) rfl (fun ls hl => ?_)
  refine lv_aload_n hx hb dX9_ofPart_7 rfl (lv_at hl 1 rfl) ?_
  refine lv_iload_n hx hb dX9_ofPart_8 rfl (lv_at hl 3 rfl) ?_
  refine lv_iload_n hx hb dX9_ofPart_9 rfl (lv_at hl 2 rfl) ?_
  refine lv_iload_n hx hb dX9_ofPart_10 rfl (lv_at hl 4 rfl) ?_
  refine ro_S S (c_X9_words hB (a := hd) (z := z) (w := w) (by omega) (by omega) (by omega)) kw2_58 yv_X9_words ⟨Nat.le_of_ble_eq_true rfl, Nat.le_of_ble_eq_true rfl⟩ hK hP rfl hl.1 rfl (Nat.le_of_ble_eq_true rfl) dX9_ofPart_11 ⟨Nat.le_refl _, Nat.le_refl _⟩ ?_
  have hq11 := tg_ws_le f n hd w (z - hd)
  refine lv_istore (lv' := [(5, .int (nI (tg_ws (tg_rd f n) hd w (z - hd)))), (4, .int (nI (tg_proto (tg_rd f n) hd))), (0, .ref b), (1, .int (nI z)), (2, .int (nI hd)), (3, .int (nI w))]) hx hb dX9_ofPart_14 hl (by decide) rfl (fun ls hl => ?_)
  refine lv_iload_n hx hb dX9_ofPart_16 rfl (lv_at hl 4 rfl) ?_
  refine nv_bipush (k := 40) hx hb dX9_ofPart_17 (by decide) ?_
  refine nv_icmp_eq (tgt := 28) hx hb dX9_ofPart_19 (by decide) (by omega) (by omega) (fun h19 => ?_) (fun h19 => ?_)
  · skip
    refine lv_iload_n hx hb dX9_ofPart_28 rfl (lv_at hl 4 rfl) ?_
    refine nv_bipush (k := 40) hx hb dX9_ofPart_29 (by decide) ?_
    refine nv_icmp_ne (tgt := 39) hx hb dX9_ofPart_31 (by decide) (by omega) (by omega) (fun h31 => ?_) (fun h31 => ?_)
    · skip
      refine nv_bipush (k := 12) hx hb dX9_ofPart_39 (by decide) ?_
      refine lv_istore (lv' := [(6, .int (nI 12)), (5, .int (nI (tg_ws (tg_rd f n) hd w (z - hd)))), (4, .int (nI (tg_proto (tg_rd f n) hd))), (0, .ref b), (1, .int (nI z)), (2, .int (nI hd)), (3, .int (nI w))]) hx hb dX9_ofPart_41 hl (by decide) rfl (fun ls hl => ?_)
      refine lv_iload hx hb dX9_ofPart_43 (lv_at hl 1 rfl) ?_
      refine lv_aload_n hx hb dX9_ofPart_45 rfl (lv_at hl 3 rfl) ?_
      refine lv_iload hx hb dX9_ofPart_46 (lv_at hl 0 rfl) ?_
      refine lv_iload_n hx hb dX9_ofPart_48 rfl (lv_at hl 5 rfl) ?_
      refine lv_iload_n hx hb dX9_ofPart_49 rfl (lv_at hl 5 rfl) ?_
      refine ro_S S (c_X9_words hB (a := 12) (z := hd) (w := hd) (by omega) (by omega) (by omega)) kw2_58 yv_X9_words ⟨Nat.le_of_ble_eq_true rfl, Nat.le_of_ble_eq_true rfl⟩ hK hP rfl hl.1 rfl (Nat.le_of_ble_eq_true rfl) dX9_ofPart_50 ⟨Nat.le_refl _, Nat.le_refl _⟩ ?_
      have hq50 := tg_ws_le f n 12 hd (hd - 12)
      refine lv_iload_n hx hb dX9_ofPart_53 rfl (lv_at hl 4 rfl) ?_
      refine lv_iload_n hx hb dX9_ofPart_54 rfl (lv_at hl 5 rfl) ?_
      refine nv_isub hx hb (by omega) dX9_ofPart_55 ?_
      refine nv_iadd hx hb dX9_ofPart_56 ?_
      refine lv_iload hx hb dX9_ofPart_57 (lv_at hl 2 rfl) ?_
      refine nv_iadd hx hb dX9_ofPart_59 ?_
      refine nv_iadd hx hb dX9_ofPart_60 ?_
      refine nv_top (fun y_1 ey_1 => ?_)
      refine lv_istore (lv' := [(5, .int (nI y_1)), (6, .int (nI 12)), (4, .int (nI (tg_proto (tg_rd f n) hd))), (0, .ref b), (1, .int (nI z)), (2, .int (nI hd)), (3, .int (nI w))]) hx hb dX9_ofPart_61 hl (by decide) rfl (fun ls hl => ?_)
      refine lv_iload hx hb dX9_ofPart_63 (lv_at hl 0 rfl) ?_
      refine ro_S S (c_X9_closed (t := y_1) (by omega)) kw2_62 yv_X9_closed ⟨Nat.le_of_ble_eq_true rfl, Nat.le_of_ble_eq_true rfl⟩ hK hP rfl hl.1 rfl (Nat.le_of_ble_eq_true rfl) dX9_ofPart_65 ⟨Nat.le_refl _, Nat.le_refl _⟩ ?_
      have hq65 := tg_cl_le y_1
      refine lv_istore (lv' := [(6, .int (nI (tg_cl y_1))), (5, .int (nI y_1)), (4, .int (nI (tg_proto (tg_rd f n) hd))), (0, .ref b), (1, .int (nI z)), (2, .int (nI hd)), (3, .int (nI w))]) hx hb dX9_ofPart_68 hl (by decide) rfl (fun ls hl => ?_)
      refine lv_iload hx hb dX9_ofPart_70 (lv_at hl 2 rfl) ?_
      refine nv_bipush (k := 17) hx hb dX9_ofPart_72 (by decide) ?_
      refine nv_icmp_ne (tgt := 87) hx hb dX9_ofPart_74 (by decide) (by omega) (by omega) (fun h74 => ?_) (fun h74 => ?_)
      · skip
        refine lv_iload hx hb dX9_ofPart_87 (lv_at hl 0 rfl) ?_
        exact hend ((congrArg nI (by rcases hh with rfl | rfl <;> first | (exfalso; omega) | (subst_vars; simp only [tg_sum, tg_pre] at *; simp_all; done) | (subst_vars; simp only [tg_sum, tg_pre] at *; (repeat' split) <;> simp_all <;> omega)))) dX9_ofPart_89
      refine lv_iload hx hb dX9_ofPart_77 (lv_at hl 0 rfl) ?_
      refine nv_if_ne (tgt := 87) hx hb dX9_ofPart_79 (by decide) (by omega) (fun h79 => ?_) (fun h79 => ?_)
      · skip
        refine lv_iload hx hb dX9_ofPart_87 (lv_at hl 0 rfl) ?_
        exact hend ((congrArg nI (by rcases hh with rfl | rfl <;> first | (exfalso; omega) | (subst_vars; simp only [tg_sum, tg_pre] at *; simp_all; done) | (subst_vars; simp only [tg_sum, tg_pre] at *; (repeat' split) <;> simp_all <;> omega)))) dX9_ofPart_89
      refine nv_ldc (k := 65535) hx hb hown (ht _ kw2_65) (by decide) dX9_ofPart_82 ?_
      refine lv_goto (tgt := 89) hx hb dX9_ofPart_84 (by decide) ?_
      exact hend ((congrArg nI (by rcases hh with rfl | rfl <;> first | (exfalso; omega) | (subst_vars; simp only [tg_sum, tg_pre] at *; simp_all; done) | (subst_vars; simp only [tg_sum, tg_pre] at *; (repeat' split) <;> simp_all <;> omega)))) dX9_ofPart_89
    refine nv_bipush (k := 8) hx hb dX9_ofPart_34 (by decide) ?_
    refine lv_goto (tgt := 41) hx hb dX9_ofPart_36 (by decide) ?_
    refine lv_istore (lv' := [(6, .int (nI 8)), (5, .int (nI (tg_ws (tg_rd f n) hd w (z - hd)))), (4, .int (nI (tg_proto (tg_rd f n) hd))), (0, .ref b), (1, .int (nI z)), (2, .int (nI hd)), (3, .int (nI w))]) hx hb dX9_ofPart_41 hl (by decide) rfl (fun ls hl => ?_)
    refine lv_iload hx hb dX9_ofPart_43 (lv_at hl 1 rfl) ?_
    refine lv_aload_n hx hb dX9_ofPart_45 rfl (lv_at hl 3 rfl) ?_
    refine lv_iload hx hb dX9_ofPart_46 (lv_at hl 0 rfl) ?_
    refine lv_iload_n hx hb dX9_ofPart_48 rfl (lv_at hl 5 rfl) ?_
    refine lv_iload_n hx hb dX9_ofPart_49 rfl (lv_at hl 5 rfl) ?_
    refine ro_S S (c_X9_words hB (a := 8) (z := hd) (w := hd) (by omega) (by omega) (by omega)) kw2_58 yv_X9_words ⟨Nat.le_of_ble_eq_true rfl, Nat.le_of_ble_eq_true rfl⟩ hK hP rfl hl.1 rfl (Nat.le_of_ble_eq_true rfl) dX9_ofPart_50 ⟨Nat.le_refl _, Nat.le_refl _⟩ ?_
    have hq50 := tg_ws_le f n 8 hd (hd - 8)
    refine lv_iload_n hx hb dX9_ofPart_53 rfl (lv_at hl 4 rfl) ?_
    refine lv_iload_n hx hb dX9_ofPart_54 rfl (lv_at hl 5 rfl) ?_
    refine nv_isub hx hb (by omega) dX9_ofPart_55 ?_
    refine nv_iadd hx hb dX9_ofPart_56 ?_
    refine lv_iload hx hb dX9_ofPart_57 (lv_at hl 2 rfl) ?_
    refine nv_iadd hx hb dX9_ofPart_59 ?_
    refine nv_iadd hx hb dX9_ofPart_60 ?_
    refine nv_top (fun y_2 ey_2 => ?_)
    refine lv_istore (lv' := [(5, .int (nI y_2)), (6, .int (nI 8)), (4, .int (nI (tg_proto (tg_rd f n) hd))), (0, .ref b), (1, .int (nI z)), (2, .int (nI hd)), (3, .int (nI w))]) hx hb dX9_ofPart_61 hl (by decide) rfl (fun ls hl => ?_)
    refine lv_iload hx hb dX9_ofPart_63 (lv_at hl 0 rfl) ?_
    refine ro_S S (c_X9_closed (t := y_2) (by omega)) kw2_62 yv_X9_closed ⟨Nat.le_of_ble_eq_true rfl, Nat.le_of_ble_eq_true rfl⟩ hK hP rfl hl.1 rfl (Nat.le_of_ble_eq_true rfl) dX9_ofPart_65 ⟨Nat.le_refl _, Nat.le_refl _⟩ ?_
    have hq65 := tg_cl_le y_2
    refine lv_istore (lv' := [(6, .int (nI (tg_cl y_2))), (5, .int (nI y_2)), (4, .int (nI (tg_proto (tg_rd f n) hd))), (0, .ref b), (1, .int (nI z)), (2, .int (nI hd)), (3, .int (nI w))]) hx hb dX9_ofPart_68 hl (by decide) rfl (fun ls hl => ?_)
    refine lv_iload hx hb dX9_ofPart_70 (lv_at hl 2 rfl) ?_
    refine nv_bipush (k := 17) hx hb dX9_ofPart_72 (by decide) ?_
    refine nv_icmp_ne (tgt := 87) hx hb dX9_ofPart_74 (by decide) (by omega) (by omega) (fun h74 => ?_) (fun h74 => ?_)
    · skip
      refine lv_iload hx hb dX9_ofPart_87 (lv_at hl 0 rfl) ?_
      exact hend ((congrArg nI (by rcases hh with rfl | rfl <;> first | (exfalso; omega) | (subst_vars; simp only [tg_sum, tg_pre] at *; simp_all; done) | (subst_vars; simp only [tg_sum, tg_pre] at *; (repeat' split) <;> simp_all <;> omega)))) dX9_ofPart_89
    refine lv_iload hx hb dX9_ofPart_77 (lv_at hl 0 rfl) ?_
    refine nv_if_ne (tgt := 87) hx hb dX9_ofPart_79 (by decide) (by omega) (fun h79 => ?_) (fun h79 => ?_)
    · skip
      refine lv_iload hx hb dX9_ofPart_87 (lv_at hl 0 rfl) ?_
      exact hend ((congrArg nI (by rcases hh with rfl | rfl <;> first | (exfalso; omega) | (subst_vars; simp only [tg_sum, tg_pre] at *; simp_all; done) | (subst_vars; simp only [tg_sum, tg_pre] at *; (repeat' split) <;> simp_all <;> omega)))) dX9_ofPart_89
    refine nv_ldc (k := 65535) hx hb hown (ht _ kw2_65) (by decide) dX9_ofPart_82 ?_
    refine lv_goto (tgt := 89) hx hb dX9_ofPart_84 (by decide) ?_
    exact hend ((congrArg nI (by rcases hh with rfl | rfl <;> first | (exfalso; omega) | (subst_vars; simp only [tg_sum, tg_pre] at *; simp_all; done) | (subst_vars; simp only [tg_sum, tg_pre] at *; (repeat' split) <;> simp_all <;> omega)))) dX9_ofPart_89
  refine lv_iload hx hb dX9_ofPart_22 (lv_at hl 1 rfl) ?_
  refine nv_iconst (k := 1) hx hb dX9_ofPart_24 rfl ?_
  refine nv_icmp_eq (tgt := 63) hx hb dX9_ofPart_25 (by decide) (by omega) (by omega) (fun h25 => ?_) (fun h25 => ?_)
  · skip
    refine lv_iload hx hb dX9_ofPart_63 (lv_at hl 0 rfl) ?_
    refine ro_S S (c_X9_closed (t := tg_ws (tg_rd f n) hd w (z - hd)) (by omega)) kw2_62 yv_X9_closed ⟨Nat.le_of_ble_eq_true rfl, Nat.le_of_ble_eq_true rfl⟩ hK hP rfl hl.1 rfl (Nat.le_of_ble_eq_true rfl) dX9_ofPart_65 ⟨Nat.le_refl _, Nat.le_refl _⟩ ?_
    have hq65 := tg_cl_le (tg_ws (tg_rd f n) hd w (z - hd))
    refine lv_istore (lv' := [(6, .int (nI (tg_cl (tg_ws (tg_rd f n) hd w (z - hd))))), (5, .int (nI (tg_ws (tg_rd f n) hd w (z - hd)))), (4, .int (nI (tg_proto (tg_rd f n) hd))), (0, .ref b), (1, .int (nI z)), (2, .int (nI hd)), (3, .int (nI w))]) hx hb dX9_ofPart_68 hl (by decide) rfl (fun ls hl => ?_)
    refine lv_iload hx hb dX9_ofPart_70 (lv_at hl 2 rfl) ?_
    refine nv_bipush (k := 17) hx hb dX9_ofPart_72 (by decide) ?_
    refine nv_icmp_ne (tgt := 87) hx hb dX9_ofPart_74 (by decide) (by omega) (by omega) (fun h74 => ?_) (fun h74 => ?_)
    · skip
      refine lv_iload hx hb dX9_ofPart_87 (lv_at hl 0 rfl) ?_
      exact hend ((congrArg nI (by rcases hh with rfl | rfl <;> first | (exfalso; omega) | (subst_vars; simp only [tg_sum, tg_pre] at *; simp_all; done) | (subst_vars; simp only [tg_sum, tg_pre] at *; (repeat' split) <;> simp_all <;> omega)))) dX9_ofPart_89
    refine lv_iload hx hb dX9_ofPart_77 (lv_at hl 0 rfl) ?_
    refine nv_if_ne (tgt := 87) hx hb dX9_ofPart_79 (by decide) (by omega) (fun h79 => ?_) (fun h79 => ?_)
    · skip
      refine lv_iload hx hb dX9_ofPart_87 (lv_at hl 0 rfl) ?_
      exact hend ((congrArg nI (by rcases hh with rfl | rfl <;> first | (exfalso; omega) | (subst_vars; simp only [tg_sum, tg_pre] at *; simp_all; done) | (subst_vars; simp only [tg_sum, tg_pre] at *; (repeat' split) <;> simp_all <;> omega)))) dX9_ofPart_89
    refine nv_ldc (k := 65535) hx hb hown (ht _ kw2_65) (by decide) dX9_ofPart_82 ?_
    refine lv_goto (tgt := 89) hx hb dX9_ofPart_84 (by decide) ?_
    exact hend ((congrArg nI (by rcases hh with rfl | rfl <;> first | (exfalso; omega) | (subst_vars; simp only [tg_sum, tg_pre] at *; simp_all; done) | (subst_vars; simp only [tg_sum, tg_pre] at *; (repeat' split) <;> simp_all <;> omega)))) dX9_ofPart_89
  refine lv_iload_n hx hb dX9_ofPart_28 rfl (lv_at hl 4 rfl) ?_
  refine nv_bipush (k := 40) hx hb dX9_ofPart_29 (by decide) ?_
  refine nv_icmp_ne (tgt := 39) hx hb dX9_ofPart_31 (by decide) (by omega) (by omega) (fun h31 => ?_) (fun h31 => ?_)
  · skip
    refine nv_bipush (k := 12) hx hb dX9_ofPart_39 (by decide) ?_
    refine lv_istore (lv' := [(6, .int (nI 12)), (5, .int (nI (tg_ws (tg_rd f n) hd w (z - hd)))), (4, .int (nI (tg_proto (tg_rd f n) hd))), (0, .ref b), (1, .int (nI z)), (2, .int (nI hd)), (3, .int (nI w))]) hx hb dX9_ofPart_41 hl (by decide) rfl (fun ls hl => ?_)
    refine lv_iload hx hb dX9_ofPart_43 (lv_at hl 1 rfl) ?_
    refine lv_aload_n hx hb dX9_ofPart_45 rfl (lv_at hl 3 rfl) ?_
    refine lv_iload hx hb dX9_ofPart_46 (lv_at hl 0 rfl) ?_
    refine lv_iload_n hx hb dX9_ofPart_48 rfl (lv_at hl 5 rfl) ?_
    refine lv_iload_n hx hb dX9_ofPart_49 rfl (lv_at hl 5 rfl) ?_
    refine ro_S S (c_X9_words hB (a := 12) (z := hd) (w := hd) (by omega) (by omega) (by omega)) kw2_58 yv_X9_words ⟨Nat.le_of_ble_eq_true rfl, Nat.le_of_ble_eq_true rfl⟩ hK hP rfl hl.1 rfl (Nat.le_of_ble_eq_true rfl) dX9_ofPart_50 ⟨Nat.le_refl _, Nat.le_refl _⟩ ?_
    have hq50 := tg_ws_le f n 12 hd (hd - 12)
    refine lv_iload_n hx hb dX9_ofPart_53 rfl (lv_at hl 4 rfl) ?_
    refine lv_iload_n hx hb dX9_ofPart_54 rfl (lv_at hl 5 rfl) ?_
    refine nv_isub hx hb (by omega) dX9_ofPart_55 ?_
    refine nv_iadd hx hb dX9_ofPart_56 ?_
    refine lv_iload hx hb dX9_ofPart_57 (lv_at hl 2 rfl) ?_
    refine nv_iadd hx hb dX9_ofPart_59 ?_
    refine nv_iadd hx hb dX9_ofPart_60 ?_
    refine nv_top (fun y_3 ey_3 => ?_)
    refine lv_istore (lv' := [(5, .int (nI y_3)), (6, .int (nI 12)), (4, .int (nI (tg_proto (tg_rd f n) hd))), (0, .ref b), (1, .int (nI z)), (2, .int (nI hd)), (3, .int (nI w))]) hx hb dX9_ofPart_61 hl (by decide) rfl (fun ls hl => ?_)
    refine lv_iload hx hb dX9_ofPart_63 (lv_at hl 0 rfl) ?_
    refine ro_S S (c_X9_closed (t := y_3) (by omega)) kw2_62 yv_X9_closed ⟨Nat.le_of_ble_eq_true rfl, Nat.le_of_ble_eq_true rfl⟩ hK hP rfl hl.1 rfl (Nat.le_of_ble_eq_true rfl) dX9_ofPart_65 ⟨Nat.le_refl _, Nat.le_refl _⟩ ?_
    have hq65 := tg_cl_le y_3
    refine lv_istore (lv' := [(6, .int (nI (tg_cl y_3))), (5, .int (nI y_3)), (4, .int (nI (tg_proto (tg_rd f n) hd))), (0, .ref b), (1, .int (nI z)), (2, .int (nI hd)), (3, .int (nI w))]) hx hb dX9_ofPart_68 hl (by decide) rfl (fun ls hl => ?_)
    refine lv_iload hx hb dX9_ofPart_70 (lv_at hl 2 rfl) ?_
    refine nv_bipush (k := 17) hx hb dX9_ofPart_72 (by decide) ?_
    refine nv_icmp_ne (tgt := 87) hx hb dX9_ofPart_74 (by decide) (by omega) (by omega) (fun h74 => ?_) (fun h74 => ?_)
    · skip
      refine lv_iload hx hb dX9_ofPart_87 (lv_at hl 0 rfl) ?_
      exact hend ((congrArg nI (by rcases hh with rfl | rfl <;> first | (exfalso; omega) | (subst_vars; simp only [tg_sum, tg_pre] at *; simp_all; done) | (subst_vars; simp only [tg_sum, tg_pre] at *; (repeat' split) <;> simp_all <;> omega)))) dX9_ofPart_89
    refine lv_iload hx hb dX9_ofPart_77 (lv_at hl 0 rfl) ?_
    refine nv_if_ne (tgt := 87) hx hb dX9_ofPart_79 (by decide) (by omega) (fun h79 => ?_) (fun h79 => ?_)
    · skip
      refine lv_iload hx hb dX9_ofPart_87 (lv_at hl 0 rfl) ?_
      exact hend ((congrArg nI (by rcases hh with rfl | rfl <;> first | (exfalso; omega) | (subst_vars; simp only [tg_sum, tg_pre] at *; simp_all; done) | (subst_vars; simp only [tg_sum, tg_pre] at *; (repeat' split) <;> simp_all <;> omega)))) dX9_ofPart_89
    refine nv_ldc (k := 65535) hx hb hown (ht _ kw2_65) (by decide) dX9_ofPart_82 ?_
    refine lv_goto (tgt := 89) hx hb dX9_ofPart_84 (by decide) ?_
    exact hend ((congrArg nI (by rcases hh with rfl | rfl <;> first | (exfalso; omega) | (subst_vars; simp only [tg_sum, tg_pre] at *; simp_all; done) | (subst_vars; simp only [tg_sum, tg_pre] at *; (repeat' split) <;> simp_all <;> omega)))) dX9_ofPart_89
  refine nv_bipush (k := 8) hx hb dX9_ofPart_34 (by decide) ?_
  refine lv_goto (tgt := 41) hx hb dX9_ofPart_36 (by decide) ?_
  refine lv_istore (lv' := [(6, .int (nI 8)), (5, .int (nI (tg_ws (tg_rd f n) hd w (z - hd)))), (4, .int (nI (tg_proto (tg_rd f n) hd))), (0, .ref b), (1, .int (nI z)), (2, .int (nI hd)), (3, .int (nI w))]) hx hb dX9_ofPart_41 hl (by decide) rfl (fun ls hl => ?_)
  refine lv_iload hx hb dX9_ofPart_43 (lv_at hl 1 rfl) ?_
  refine lv_aload_n hx hb dX9_ofPart_45 rfl (lv_at hl 3 rfl) ?_
  refine lv_iload hx hb dX9_ofPart_46 (lv_at hl 0 rfl) ?_
  refine lv_iload_n hx hb dX9_ofPart_48 rfl (lv_at hl 5 rfl) ?_
  refine lv_iload_n hx hb dX9_ofPart_49 rfl (lv_at hl 5 rfl) ?_
  refine ro_S S (c_X9_words hB (a := 8) (z := hd) (w := hd) (by omega) (by omega) (by omega)) kw2_58 yv_X9_words ⟨Nat.le_of_ble_eq_true rfl, Nat.le_of_ble_eq_true rfl⟩ hK hP rfl hl.1 rfl (Nat.le_of_ble_eq_true rfl) dX9_ofPart_50 ⟨Nat.le_refl _, Nat.le_refl _⟩ ?_
  have hq50 := tg_ws_le f n 8 hd (hd - 8)
  refine lv_iload_n hx hb dX9_ofPart_53 rfl (lv_at hl 4 rfl) ?_
  refine lv_iload_n hx hb dX9_ofPart_54 rfl (lv_at hl 5 rfl) ?_
  refine nv_isub hx hb (by omega) dX9_ofPart_55 ?_
  refine nv_iadd hx hb dX9_ofPart_56 ?_
  refine lv_iload hx hb dX9_ofPart_57 (lv_at hl 2 rfl) ?_
  refine nv_iadd hx hb dX9_ofPart_59 ?_
  refine nv_iadd hx hb dX9_ofPart_60 ?_
  refine nv_top (fun y_4 ey_4 => ?_)
  refine lv_istore (lv' := [(5, .int (nI y_4)), (6, .int (nI 8)), (4, .int (nI (tg_proto (tg_rd f n) hd))), (0, .ref b), (1, .int (nI z)), (2, .int (nI hd)), (3, .int (nI w))]) hx hb dX9_ofPart_61 hl (by decide) rfl (fun ls hl => ?_)
  refine lv_iload hx hb dX9_ofPart_63 (lv_at hl 0 rfl) ?_
  refine ro_S S (c_X9_closed (t := y_4) (by omega)) kw2_62 yv_X9_closed ⟨Nat.le_of_ble_eq_true rfl, Nat.le_of_ble_eq_true rfl⟩ hK hP rfl hl.1 rfl (Nat.le_of_ble_eq_true rfl) dX9_ofPart_65 ⟨Nat.le_refl _, Nat.le_refl _⟩ ?_
  have hq65 := tg_cl_le y_4
  refine lv_istore (lv' := [(6, .int (nI (tg_cl y_4))), (5, .int (nI y_4)), (4, .int (nI (tg_proto (tg_rd f n) hd))), (0, .ref b), (1, .int (nI z)), (2, .int (nI hd)), (3, .int (nI w))]) hx hb dX9_ofPart_68 hl (by decide) rfl (fun ls hl => ?_)
  refine lv_iload hx hb dX9_ofPart_70 (lv_at hl 2 rfl) ?_
  refine nv_bipush (k := 17) hx hb dX9_ofPart_72 (by decide) ?_
  refine nv_icmp_ne (tgt := 87) hx hb dX9_ofPart_74 (by decide) (by omega) (by omega) (fun h74 => ?_) (fun h74 => ?_)
  · skip
    refine lv_iload hx hb dX9_ofPart_87 (lv_at hl 0 rfl) ?_
    exact hend ((congrArg nI (by rcases hh with rfl | rfl <;> first | (exfalso; omega) | (subst_vars; simp only [tg_sum, tg_pre] at *; simp_all; done) | (subst_vars; simp only [tg_sum, tg_pre] at *; (repeat' split) <;> simp_all <;> omega)))) dX9_ofPart_89
  refine lv_iload hx hb dX9_ofPart_77 (lv_at hl 0 rfl) ?_
  refine nv_if_ne (tgt := 87) hx hb dX9_ofPart_79 (by decide) (by omega) (fun h79 => ?_) (fun h79 => ?_)
  · skip
    refine lv_iload hx hb dX9_ofPart_87 (lv_at hl 0 rfl) ?_
    exact hend ((congrArg nI (by rcases hh with rfl | rfl <;> first | (exfalso; omega) | (subst_vars; simp only [tg_sum, tg_pre] at *; simp_all; done) | (subst_vars; simp only [tg_sum, tg_pre] at *; (repeat' split) <;> simp_all <;> omega)))) dX9_ofPart_89
  refine nv_ldc (k := 65535) hx hb hown (ht _ kw2_65) (by decide) dX9_ofPart_82 ?_
  refine lv_goto (tgt := 89) hx hb dX9_ofPart_84 (by decide) ?_
  exact hend ((congrArg nI (by rcases hh with rfl | rfl <;> first | (exfalso; omega) | (subst_vars; simp only [tg_sum, tg_pre] at *; simp_all; done) | (subst_vars; simp only [tg_sum, tg_pre] at *; (repeat' split) <;> simp_all <;> omega)))) dX9_ofPart_89
theorem dX9_headIsRight_0 : decode cX9_headIsRight 0 = .ok (.aload_n 0, 1) := by decide +kernel
theorem dX9_headIsRight_1 : decode cX9_headIsRight 1 = .ok (.bipush 10, 2) := by decide +kernel
theorem dX9_headIsRight_3 : decode cX9_headIsRight 3 = .ok (.invokevirtual 26, 3) := by decide +kernel
theorem dX9_headIsRight_6 : decode cX9_headIsRight 6 = .ok (.aload_n 0, 1) := by decide +kernel
theorem dX9_headIsRight_7 : decode cX9_headIsRight 7 = .ok (.invokestatic 31, 3) := by decide +kernel
theorem dX9_headIsRight_10 : decode cX9_headIsRight 10 = .ok (.if_icmp .ne 7, 3) := by decide +kernel
theorem dX9_headIsRight_13 : decode cX9_headIsRight 13 = .ok (.iconst 1, 1) := by decide +kernel
theorem dX9_headIsRight_14 : decode cX9_headIsRight 14 = .ok (.goto 4, 3) := by decide +kernel
theorem dX9_headIsRight_17 : decode cX9_headIsRight 17 = .ok (.iconst 0, 1) := by decide +kernel
theorem dX9_headIsRight_18 : decode cX9_headIsRight 18 = .ok (.ireturn, 1) := by decide +kernel
theorem yv_X9_headIsRight : YS yX9_headIsRight cX9_headIsRight 1 (some .boolean) 1 := ⟨kw3_165, kw1_13, kw3_166, by decide +kernel⟩
set_option maxHeartbeats 4000000 in
set_option maxRecDepth 100000 in
theorem c_X9_headIsRight {l : Launch} {D : va_G} {cy : Nat → ClassId} {ws : va_W} {b n : Nat} {f : Nat → UInt8} (hB : PK cy ws b f n)  : RO l yX9_headIsRight cX9_headIsRight 1 (some .boolean) 3 66 [.ref b] D cy ws (.int (bI (tg_headOk (tg_rd f n)))) := by
  refine ROz (by decide) (lv0 := [(0, .ref b)]) rfl (Nat.le_of_ble_eq_true rfl) ?_
  intro p e s m args below meth c ls Q S hP hK hend hl
  have hx := S.1
  have hb := S.2.1
  have hown : s.vm.findClass RX9 = some m.cls := S.2.2.2.1
  have ht : ∀ w ∈ lw_g, w.before args s = true := fun w h => S.2.2.2.2 w (List.mem_cons_of_mem _ h)
  obtain ⟨kb, ka, ar, N, hb0, ha0, hnN, hN⟩ := id hB
  refine lv_aload_n hx hb dX9_headIsRight_0 rfl (lv_at hl 0 rfl) ?_
  refine nv_bipush (k := 10) hx hb dX9_headIsRight_1 (by decide) ?_
  refine ro_V S (c_X1_pair hB (a := 10) (by omega)) kw2_53 yv_X1_pair ⟨Nat.le_of_ble_eq_true rfl, Nat.le_of_ble_eq_true rfl⟩ hK hP (va_recv hK hP (ci := 2) (q0 := kb) rfl hb0) rfl hl.1 rfl (Nat.le_of_ble_eq_true rfl) dX9_headIsRight_3 ⟨Nat.le_refl _, Nat.le_refl _⟩ ?_
  have hq3 := tg_pr_lt f n 10
  refine lv_aload_n hx hb dX9_headIsRight_6 rfl (lv_at hl 0 rfl) ?_
  refine ro_S S (c_X9_ofHead hB) kw3_167 yv_X9_ofHead ⟨Nat.le_of_ble_eq_true rfl, Nat.le_of_ble_eq_true rfl⟩ hK hP rfl hl.1 rfl (Nat.le_of_ble_eq_true rfl) dX9_headIsRight_7 ⟨Nat.le_refl _, Nat.le_refl _⟩ ?_
  have hq7 := tg_cl_le (tg_ws (tg_rd f n) 0 10 20)
  refine nv_icmp_ne (tgt := 17) hx hb dX9_headIsRight_10 (by decide) (by omega) (by omega) (fun h10 => ?_) (fun h10 => ?_)
  · skip
    refine nv_iconst (k := 0) hx hb dX9_headIsRight_17 rfl ?_
    exact hend ((bI_f (by simp only [tg_headOk]; exact decide_eq_false (by omega)))) dX9_headIsRight_18
  refine nv_iconst (k := 1) hx hb dX9_headIsRight_13 rfl ?_
  refine lv_goto (tgt := 18) hx hb dX9_headIsRight_14 (by decide) ?_
  exact hend ((bI_t (by simp only [tg_headOk]; exact decide_eq_true (by omega)))) dX9_headIsRight_18
theorem dX9_partIsRight_0 : decode cX9_partIsRight 0 = .ok (.iload_n 1, 1) := by decide +kernel
theorem dX9_partIsRight_1 : decode cX9_partIsRight 1 = .ok (.aload_n 0, 1) := by decide +kernel
theorem dX9_partIsRight_2 : decode cX9_partIsRight 2 = .ok (.iload_n 1, 1) := by decide +kernel
theorem dX9_partIsRight_3 : decode cX9_partIsRight 3 = .ok (.invokestatic 19, 3) := by decide +kernel
theorem dX9_partIsRight_6 : decode cX9_partIsRight 6 = .ok (.invokestatic 35, 3) := by decide +kernel
theorem dX9_partIsRight_9 : decode cX9_partIsRight 9 = .ok (.iadd, 1) := by decide +kernel
theorem dX9_partIsRight_10 : decode cX9_partIsRight 10 = .ok (.istore_n 2, 1) := by decide +kernel
theorem dX9_partIsRight_11 : decode cX9_partIsRight 11 = .ok (.aload_n 0, 1) := by decide +kernel
theorem dX9_partIsRight_12 : decode cX9_partIsRight 12 = .ok (.iload_n 2, 1) := by decide +kernel
theorem dX9_partIsRight_13 : decode cX9_partIsRight 13 = .ok (.invokevirtual 26, 3) := by decide +kernel
theorem dX9_partIsRight_16 : decode cX9_partIsRight 16 = .ok (.aload_n 0, 1) := by decide +kernel
theorem dX9_partIsRight_17 : decode cX9_partIsRight 17 = .ok (.aload_n 0, 1) := by decide +kernel
theorem dX9_partIsRight_18 : decode cX9_partIsRight 18 = .ok (.invokevirtual 38, 3) := by decide +kernel
theorem dX9_partIsRight_21 : decode cX9_partIsRight 21 = .ok (.iload_n 1, 1) := by decide +kernel
theorem dX9_partIsRight_22 : decode cX9_partIsRight 22 = .ok (.iload_n 2, 1) := by decide +kernel
theorem dX9_partIsRight_23 : decode cX9_partIsRight 23 = .ok (.invokestatic 42, 3) := by decide +kernel
theorem dX9_partIsRight_26 : decode cX9_partIsRight 26 = .ok (.if_icmp .ne 7, 3) := by decide +kernel
theorem dX9_partIsRight_29 : decode cX9_partIsRight 29 = .ok (.iconst 1, 1) := by decide +kernel
theorem dX9_partIsRight_30 : decode cX9_partIsRight 30 = .ok (.goto 4, 3) := by decide +kernel
theorem dX9_partIsRight_33 : decode cX9_partIsRight 33 = .ok (.iconst 0, 1) := by decide +kernel
theorem dX9_partIsRight_34 : decode cX9_partIsRight 34 = .ok (.ireturn, 1) := by decide +kernel
theorem yv_X9_partIsRight : YS yX9_partIsRight cX9_partIsRight 3 (some .boolean) 2 := ⟨kw2_45, kw1_13, kw2_46, by decide +kernel⟩
set_option maxHeartbeats 4000000 in
set_option maxRecDepth 100000 in
theorem c_X9_partIsRight {l : Launch} {D : va_G} {cy : Nat → ClassId} {ws : va_W} {b n : Nat} {f : Nat → UInt8} (hB : PK cy ws b f n) {hd : Nat} (hh : hd = 20 ∨ hd = 40) (hz1 : hd ≤ n) : RO l yX9_partIsRight cX9_partIsRight 3 (some .boolean) 3 72 [.ref b, .int (nI hd)] D cy ws (.int (bI (tg_partOk (tg_rd f n) n hd))) := by
  refine ROz (by decide) (lv0 := [(0, .ref b), (1, .int (nI hd))]) rfl (Nat.le_of_ble_eq_true rfl) ?_
  intro p e s m args below meth c ls Q S hP hK hend hl
  have hx := S.1
  have hb := S.2.1
  have hown : s.vm.findClass RX9 = some m.cls := S.2.2.2.1
  have ht : ∀ w ∈ lw_g, w.before args s = true := fun w h => S.2.2.2.2 w (List.mem_cons_of_mem _ h)
  obtain ⟨kb, ka, ar, N, hb0, ha0, hnN, hN⟩ := id hB
  refine lv_iload_n hx hb dX9_partIsRight_0 rfl (lv_at hl 1 rfl) ?_
  refine lv_aload_n hx hb dX9_partIsRight_1 rfl (lv_at hl 0 rfl) ?_
  refine lv_iload_n hx hb dX9_partIsRight_2 rfl (lv_at hl 1 rfl) ?_
  refine ro_S S (c_X4_protocolOf hB (hd := hd) (by omega)) kw2_47 yv_X4_protocolOf ⟨Nat.le_of_ble_eq_true rfl, Nat.le_of_ble_eq_true rfl⟩ hK hP rfl hl.1 rfl (Nat.le_of_ble_eq_true rfl) dX9_partIsRight_3 ⟨Nat.le_refl _, Nat.le_refl _⟩ ?_
  have hq3 := tg_proto_lt f n hd
  refine ro_S S (c_X4_sumAt (q := tg_proto (tg_rd f n) hd) (by omega)) kw2_50 yv_X4_sumAt ⟨Nat.le_of_ble_eq_true rfl, Nat.le_of_ble_eq_true rfl⟩ hK hP rfl hl.1 rfl (Nat.le_of_ble_eq_true rfl) dX9_partIsRight_6 ⟨Nat.le_refl _, Nat.le_refl _⟩ ?_
  have hq6 := tg_sumAt_le (tg_proto (tg_rd f n) hd)
  refine nv_iadd hx hb dX9_partIsRight_9 ?_
  refine lv_istore_n (lv' := [(2, .int (nI (hd + (tg_sumAt (tg_proto (tg_rd f n) hd))))), (0, .ref b), (1, .int (nI hd))]) hx hb dX9_partIsRight_10 rfl hl (by decide) rfl (fun ls hl => ?_)
  refine lv_aload_n hx hb dX9_partIsRight_11 rfl (lv_at hl 1 rfl) ?_
  refine lv_iload_n hx hb dX9_partIsRight_12 rfl (lv_at hl 0 rfl) ?_
  refine ro_V S (c_X1_pair hB (a := hd + (tg_sumAt (tg_proto (tg_rd f n) hd))) (by omega)) kw2_53 yv_X1_pair ⟨Nat.le_of_ble_eq_true rfl, Nat.le_of_ble_eq_true rfl⟩ hK hP (va_recv hK hP (ci := 2) (q0 := kb) rfl hb0) rfl hl.1 rfl (Nat.le_of_ble_eq_true rfl) dX9_partIsRight_13 ⟨Nat.le_refl _, Nat.le_refl _⟩ ?_
  have hq13 := tg_pr_lt f n (hd + (tg_sumAt (tg_proto (tg_rd f n) hd)))
  refine lv_aload_n hx hb dX9_partIsRight_16 rfl (lv_at hl 1 rfl) ?_
  refine lv_aload_n hx hb dX9_partIsRight_17 rfl (lv_at hl 1 rfl) ?_
  refine ro_V S (c_X1_length hB) kw2_54 yv_X1_length ⟨Nat.le_of_ble_eq_true rfl, Nat.le_of_ble_eq_true rfl⟩ hK hP (va_recv hK hP (ci := 2) (q0 := kb) rfl hb0) rfl hl.1 rfl (Nat.le_of_ble_eq_true rfl) dX9_partIsRight_18 ⟨Nat.le_refl _, Nat.le_refl _⟩ ?_
  refine lv_iload_n hx hb dX9_partIsRight_21 rfl (lv_at hl 2 rfl) ?_
  refine lv_iload_n hx hb dX9_partIsRight_22 rfl (lv_at hl 0 rfl) ?_
  refine ro_S S (c_X9_ofPart hB (z := n) (hd := hd) (w := hd + (tg_sumAt (tg_proto (tg_rd f n) hd))) (by omega) (by omega) (by omega) (by omega)) kw2_55 yv_X9_ofPart ⟨Nat.le_of_ble_eq_true rfl, Nat.le_of_ble_eq_true rfl⟩ hK hP rfl hl.1 rfl (Nat.le_of_ble_eq_true rfl) dX9_partIsRight_23 ⟨Nat.le_refl _, Nat.le_refl _⟩ ?_
  have hq23 := tg_sum_le (tg_rd f n) hd n (hd + (tg_sumAt (tg_proto (tg_rd f n) hd))) (tg_proto (tg_rd f n) hd)
  refine nv_icmp_ne (tgt := 33) hx hb dX9_partIsRight_26 (by decide) (by omega) (by omega) (fun h26 => ?_) (fun h26 => ?_)
  · skip
    refine nv_iconst (k := 0) hx hb dX9_partIsRight_33 rfl ?_
    exact hend ((bI_f (by subst_vars; simp only [tg_partOk, tg_place]; exact decide_eq_false (by omega)))) dX9_partIsRight_34
  refine nv_iconst (k := 1) hx hb dX9_partIsRight_29 rfl ?_
  refine lv_goto (tgt := 34) hx hb dX9_partIsRight_30 (by decide) ?_
  exact hend ((bI_t (by subst_vars; simp only [tg_partOk, tg_place]; exact decide_eq_true (by omega)))) dX9_partIsRight_34
end
section
/-! THE PREFIX AND THE POOL -/
theorem sw_ne {a k : Nat} {o d : Int} {r : List (Int × Int)} (h : a ≠ k) : Op.lookupswitch.offset ((((k : Nat) : Int), o) :: r) d ((a : Nat) : Int) = Op.lookupswitch.offset r d ((a : Nat) : Int) := by
  rw [Op.lookupswitch.offset_cons, if_neg]
  omega
theorem lN_toNat {a : Nat} (h : a < 2 ^ 64) : (lN a).toBitVec.toNat = a := by
  show (BitVec.ofNat 64 a).toNat = a
  rw [BitVec.toNat_ofNat]
  exact Nat.mod_eq_of_lt h
theorem lN_of (x : Int64) : ∃ a : Nat, a < 2 ^ 64 ∧ x = lN a := ⟨x.toBitVec.toNat, x.toBitVec.isLt, by
  apply Int64.toBitVec_inj.mp
  show x.toBitVec = BitVec.ofNat 64 x.toBitVec.toNat
  exact (BitVec.ofNat_toNat 64 x.toBitVec ▸ by simp)⟩
theorem nI_ofx (x : Int32) : ∃ a : Nat, a < 2 ^ 32 ∧ x = nI a := ⟨x.toBitVec.toNat, x.toBitVec.isLt, by
  apply Int32.toBitVec_inj.mp
  show x.toBitVec = BitVec.ofNat 32 x.toBitVec.toNat
  simp⟩
theorem lN_inj {a b : Nat} (ha : a < 2 ^ 64) (hb : b < 2 ^ 64) : lN a = lN b ↔ a = b := by
  constructor
  · intro h
    rw [← lN_toNat ha, h, lN_toNat hb]
  · intro h; rw [h]
theorem nI_inj {a b : Nat} (ha : a < 2 ^ 32) (hb : b < 2 ^ 32) : nI a = nI b ↔ a = b := by
  constructor
  · intro h
    rw [← pk_tn ha, h, pk_tn hb]
  · intro h; rw [h]
theorem lN_ushr {a k : Nat} (ha : a < 2 ^ 64) (hk : k < 64) : ((lN a).toUInt64 >>> ((nI k).toInt64.toUInt64 &&& Int64.toUInt64 63)).toInt64 = lN (a / 2 ^ k) := by
  have h : ∀ k : Nat, k < 64 → (((nI k).toInt64.toUInt64 &&& Int64.toUInt64 63).toBitVec % 64).toNat = k := by decide +kernel
  apply Int64.toBitVec_inj.mp
  apply BitVec.eq_of_toNat_eq
  have h2 : ((lN a).toUInt64 >>> ((nI k).toInt64.toUInt64 &&& Int64.toUInt64 63)).toInt64.toBitVec = (lN a).toBitVec >>> (((nI k).toInt64.toUInt64 &&& Int64.toUInt64 63).toBitVec % 64) := rfl
  rw [h2, BitVec.ushiftRight_eq', BitVec.toNat_ushiftRight, h k hk, lN_toNat ha, Nat.shiftRight_eq_div_pow, lN_toNat (Nat.lt_of_le_of_lt (Nat.div_le_self _ _) ha)]
theorem lN_mask (a k : Nat) : lN a &&& lN (2 ^ k - 1) = lN (a % 2 ^ k) := by
  apply Int64.toBitVec_inj.mp
  show BitVec.ofNat 64 a &&& BitVec.ofNat 64 (2 ^ k - 1) = BitVec.ofNat 64 (a % 2 ^ k)
  apply BitVec.eq_of_toNat_eq
  rw [BitVec.toNat_and, BitVec.toNat_ofNat, BitVec.toNat_ofNat, BitVec.toNat_ofNat, ← Nat.and_mod_two_pow, Nat.and_two_pow_sub_one_eq_mod]
/-- headMask's answer -/
def tg_hm (k : Nat) : Int64 := (-1) <<< ((nI (64 - k)).toInt64 &&& 63)
theorem tg_hm_eq : ∀ k : Nat, 1 ≤ k → k ≤ 64 → tg_hm k = lN (2 ^ 64 - 2 ^ (64 - k)) ∧ tg_hm k ^^^ (-1) = lN (2 ^ (64 - k) - 1) := by
  intro k h1 h2
  have h : ∀ k : Nat, k < 64 → tg_hm (k + 1) = lN (2 ^ 64 - 2 ^ (64 - (k + 1))) ∧ tg_hm (k + 1) ^^^ (-1) = lN (2 ^ (64 - (k + 1)) - 1) := by decide +kernel
  have := h (k - 1) (by omega)
  rwa [show k - 1 + 1 = k by omega] at this
theorem nat_hi {a j : Nat} (ha : a < 2 ^ 64) (hj : j ≤ 64) : a &&& (2 ^ 64 - 2 ^ j) = a - a % 2 ^ j := by
  have e : 2 ^ 64 - 2 ^ j = (2 ^ (64 - j) - 1) <<< j := by
    rw [Nat.shiftLeft_eq, Nat.sub_mul, ← Nat.pow_add, Nat.one_mul, Nat.sub_add_cancel hj]
  have e2 : a - a % 2 ^ j = (a >>> j) <<< j := by
    rw [Nat.shiftLeft_eq, Nat.shiftRight_eq_div_pow]
    have h := Nat.div_add_mod a (2 ^ j)
    rw [Nat.mul_comm] at h
    generalize a / 2 ^ j * 2 ^ j = q at h ⊢
    omega
  rw [e, e2]
  apply Nat.eq_of_testBit_eq
  intro i
  rw [Nat.testBit_and, Nat.testBit_shiftLeft, Nat.testBit_shiftLeft, Nat.testBit_two_pow_sub_one, Nat.testBit_shiftRight]
  by_cases h : j ≤ i
  · rw [show j + (i - j) = i by omega]
    by_cases h6 : i < 64
    · have : i - j < 64 - j := by omega
      simp [h, this]
    · have : a.testBit i = false := Nat.testBit_lt_two_pow (Nat.lt_of_lt_of_le ha (Nat.pow_le_pow_right (by decide) (by omega)))
      simp [this]
  · simp [h]
theorem lN_and (a b : Nat) : lN a &&& lN b = lN (a &&& b) := by
  apply Int64.toBitVec_inj.mp
  show BitVec.ofNat 64 a &&& BitVec.ofNat 64 b = BitVec.ofNat 64 (a &&& b)
  apply BitVec.eq_of_toNat_eq
  simp [BitVec.toNat_and, Nat.and_mod_two_pow]
theorem lN_hi {a j : Nat} (ha : a < 2 ^ 64) (hj : j ≤ 64) : lN a &&& lN (2 ^ 64 - 2 ^ j) = lN (a - a % 2 ^ j) := by
  rw [lN_and, nat_hi ha hj]
theorem tg_hm_and {a k : Nat} (ha : a < 2 ^ 64) (h1 : 1 ≤ k) (h2 : k ≤ 64) : lN a &&& tg_hm k = lN (a - a % 2 ^ (64 - k)) := by
  rw [(tg_hm_eq k h1 h2).1, lN_hi ha (by omega)]
theorem tg_hm_not {a k : Nat} (h1 : 1 ≤ k) (h2 : k ≤ 64) : lN a &&& (tg_hm k ^^^ (-1)) = lN (a % 2 ^ (64 - k)) := by
  rw [(tg_hm_eq k h1 h2).2, lN_mask]
section NV3
variable {p : Program} {l : Launch} {e : Env} {R : Room} {s : State} {m : MethodId} {args : Array Value} {below : List Frame} {meth : Method} {c : Code} {H : Heap} {locs : List Loc} {cells slots : Nat} {Q : State → Prop}
variable {cc : ByteArray} {pc : Nat} {ls : Array Slot} {rest : List Value} {a b : Nat}
theorem nv_lushr (hx : p.tables.exec = Jvm.exec) (hb : c.code = cc) (ha : a < 2 ^ 64) (hk : b < 64) (hdg : decode cc pc = .ok (.lushr, 1)) (kk : W p l e R s m args below meth c H locs cells slots Q (F0 m (pc + 1) ls (.long (lN (a / 2 ^ b)) :: rest))) : W p l e R s m args below meth c H locs cells slots Q (F0 m pc ls (.int (nI b) :: .long (lN a) :: rest)) :=
  lv_lushr hx hb hdg (lN_ushr ha hk) kk
theorem nv_landm (k : Nat) (hx : p.tables.exec = Jvm.exec) (hb : c.code = cc) (hk : b = 2 ^ k - 1) (hdg : decode cc pc = .ok (.land, 1)) (kk : W p l e R s m args below meth c H locs cells slots Q (F0 m (pc + 1) ls (.long (lN (a % 2 ^ k)) :: rest))) : W p l e R s m args below meth c H locs cells slots Q (F0 m pc ls (.long (lN b) :: .long (lN a) :: rest)) :=
  lv_land hx hb hdg (by rw [hk, lN_mask]; exact kk)
theorem nv_lsub (hx : p.tables.exec = Jvm.exec) (hb : c.code = cc) (h : b ≤ a) (hdg : decode cc pc = .ok (.lsub, 1)) (kk : W p l e R s m args below meth c H locs cells slots Q (F0 m (pc + 1) ls (.long (lN (a - b)) :: rest))) : W p l e R s m args below meth c H locs cells slots Q (F0 m pc ls (.long (lN b) :: .long (lN a) :: rest)) :=
  lv_lsub hx hb hdg (by rw [lN_sub h]; exact kk)
theorem nv_ldc2 {own : String} {index k : Nat} {v : Int64} (hx : p.tables.exec = Jvm.exec) (hb : c.code = cc) (hown : s.vm.findClass own = some m.cls) (hconst : (Jvm.Cond.constantLong own index v).before args s = true) (hv : v = lN k) (hdg : decode cc pc = .ok (.ldc2_w index, 3)) (kk : W p l e R s m args below meth c H locs cells slots Q (F0 m (pc + 3) ls (.long (lN k) :: rest))) : W p l e R s m args below meth c H locs cells slots Q (F0 m pc ls rest) :=
  lv_ldc2 hx hb hown hconst hdg (by rw [hv]; exact kk)
theorem lN_nneg {k : Nat} (h : k < 2 ^ 63) : ¬ lN k < 0 := fun z => by
  have h1 := (pk_lLT (a := k) (b := 0) h (by decide)).mp z
  omega
end NV3
def tg_odd (x : Nat) : Bool := decide (x / 2 ^ 24 = 0 ∨ x / 2 ^ 24 = 127 ∨ 224 ≤ x / 2 ^ 24)
/-- the prefix: how many bits, its two halves -/
def SI (bits F G : Nat) : Prop := (bits = 0 ∧ F = 0 ∧ G = 0) ∨ ((bits = 32 ∨ bits = 40 ∨ bits = 48 ∨ bits = 56 ∨ bits = 64) ∧ F % 2 ^ (64 - bits) = 0 ∧ F < 2 ^ 64 ∧ G = 0) ∨ (bits = 96 ∧ F < 2 ^ 64 ∧ G % 2 ^ 32 = 0 ∧ G < 2 ^ 64)
def STP (ws : va_W) (st bits F G : Nat) : Prop := ∃ ks : Nat, ws[ks]? = some (st, .inr (6, [.long (lN F), .long (lN G), .int (nI bits), .int (nI (bits - 32))])) ∧ SI bits F G
def PLP (cy : Nat → ClassId) (ws : va_W) (po : Nat) (g : Nat → Int32) (u : Nat) : Prop := ∃ kp kq pa : Nat, ws[kp]? = some (po, .inr (4, [.ref pa, .int (nI u)])) ∧ ws[kq]? = some (pa, .inl (cy 1, 4, .inl g)) ∧ u ≤ 4
theorem SI.b {bits F G : Nat} (h : SI bits F G) : bits = 0 ∨ bits = 32 ∨ bits = 40 ∨ bits = 48 ∨ bits = 56 ∨ bits = 64 ∨ bits = 96 := by rcases h with h | h | h <;> omega
theorem SI.F {bits F G : Nat} (h : SI bits F G) : F < 2 ^ 64 := by rcases h with h | h | h <;> omega
theorem SI.G {bits F G : Nat} (h : SI bits F G) : G < 2 ^ 64 := by rcases h with h | h | h <;> omega
def tg_of (bits F G hi lo : Nat) : Bool := if bits = 0 then false else if bits = 96 then decide (hi = F ∧ lo - lo % 2 ^ 32 = G) else decide (hi - hi % 2 ^ (64 - bits) = F ∧ lo / 2 ^ 56 = 0)
def tg_dr (bits hi lo : Nat) : Nat := if bits = 96 then lo % 2 ^ 32 else (hi % 2 ^ (64 - bits)) * 2 ^ (bits - 32) + (lo / 2 ^ (88 - bits)) % 2 ^ (bits - 32)
def tg_draw (bits F G hi lo : Nat) : Int64 := if tg_of bits F G hi lo = true then lN (tg_dr bits hi lo) else -1
def tg_eh (bits F x : Nat) : Nat := if bits = 0 ∨ bits = 96 then F else F + x / 2 ^ (bits - 32)
def tg_el (bits G x : Nat) : Nat := if bits = 0 then 0 else if bits = 96 then G + x else (x % 2 ^ (bits - 32)) * 2 ^ (88 - bits)
theorem tg_dr_lt {bits hi lo : Nat} (hb : bits = 32 ∨ bits = 40 ∨ bits = 48 ∨ bits = 56 ∨ bits = 64 ∨ bits = 96) : tg_dr bits hi lo < 2 ^ 32 := by
  unfold tg_dr
  rcases hb with rfl | rfl | rfl | rfl | rfl | rfl <;> simp <;> omega
/-- the first k < n with q k, or n -/
def tg_first (q : Nat → Bool) : Nat → Nat
  | 0 => 0
  | n + 1 => if tg_first q n < n then tg_first q n else if q n then n else n + 1
theorem tg_first_le (q : Nat → Bool) : ∀ n, tg_first q n ≤ n
  | 0 => Nat.le_refl 0
  | n + 1 => by
    have ih := tg_first_le q n
    unfold tg_first
    (repeat' split) <;> omega
theorem tg_first_none {q : Nat → Bool} : ∀ {n : Nat}, (∀ j, j < n → q j = false) → tg_first q n = n
  | 0, _ => rfl
  | n + 1, h => by
    have ih := tg_first_none (q := q) (n := n) (fun j hj => h j (by omega))
    unfold tg_first
    rw [ih, if_neg (by omega), h n (by omega)]
    simp
theorem tg_first_at {q : Nat → Bool} {k : Nat} (hk : q k = true) (hj : ∀ j, j < k → q j = false) : ∀ {n : Nat}, k < n → tg_first q n = k
  | 0, h => absurd h (Nat.not_lt_zero _)
  | n + 1, h => by
    unfold tg_first
    by_cases e : k = n
    · subst e
      rw [tg_first_none hj, if_neg (by omega), hk]
      simp
    · have ih := tg_first_at hk hj (n := n) (by omega)
      rw [ih, if_pos (by omega)]
theorem tg_first_cong {q r : Nat → Bool} : ∀ {n : Nat}, (∀ j, j < n → q j = r j) → tg_first q n = tg_first r n
  | 0, _ => rfl
  | n + 1, h => by
    unfold tg_first
    rw [tg_first_cong (n := n) (fun j hj => h j (by omega)), h n (by omega)]
theorem tg_first_is {q : Nat → Bool} : ∀ {n : Nat}, tg_first q n < n → q (tg_first q n) = true
  | 0, h => absurd h (Nat.not_lt_zero _)
  | n + 1, h => by
    have ih := tg_first_is (q := q) (n := n)
    have hl := tg_first_le q n
    unfold tg_first at h ⊢
    split at h
    · rename_i h1
      rw [if_pos h1]
      exact ih h1
    · rename_i h1
      rw [if_neg h1]
      split at h
      · rename_i h2
        rw [if_pos h2]
        exact h2
      · omega
/-- where an address stands in the pool: its number, or -1 -/
def tg_num (k n : Nat) : Int32 := if k < n then nI k else -1

theorem m32 : (-4294967296 : Int64) = lN (2 ^ 64 - 2 ^ 32) := by decide
theorem dr_96 {F G hi lo : Nat} (hG : G < 2 ^ 64) (hF : F < 2 ^ 64) (hh : hi < 2 ^ 64) (hl : lo < 2 ^ 64) (h1 : lN hi = lN F) (h2 : lN lo &&& (-4294967296) = lN G) : lN (lo % 2 ^ 32) = tg_draw 96 F G hi lo := by
  rw [m32, lN_hi hl (by decide)] at h2
  have e1 := (lN_inj hh hF).mp h1
  have e2 := (lN_inj (Nat.lt_of_le_of_lt (Nat.sub_le _ _) hl) hG).mp h2
  have : tg_of 96 F G hi lo = true := by simp [tg_of, e1]; omega
  rw [tg_draw, if_pos this]; rfl
theorem dr_96a {F G hi lo : Nat} (h1 : ¬ lN hi = lN F) : (-1 : Int64) = tg_draw 96 F G hi lo := by
  have : ¬ tg_of 96 F G hi lo = true := fun z => by
    simp [tg_of] at z
    exact h1 (by rw [z.1])
  rw [tg_draw, if_neg this]
theorem dr_96b {F G hi lo : Nat} (hl : lo < 2 ^ 64) (h2 : ¬ lN lo &&& (-4294967296) = lN G) : (-1 : Int64) = tg_draw 96 F G hi lo := by
  rw [m32, lN_hi hl (by decide)] at h2
  have : ¬ tg_of 96 F G hi lo = true := fun z => by
    simp [tg_of] at z
    exact h2 (by rw [← z.2])
  rw [tg_draw, if_neg this]
theorem dr_0 {F G hi lo : Nat} : (-1 : Int64) = tg_draw 0 F G hi lo := by simp [tg_draw, tg_of]
theorem dr_a {bits F G hi lo : Nat} (hb : bits = 0 ∨ bits = 32 ∨ bits = 40 ∨ bits = 48 ∨ bits = 56 ∨ bits = 64 ∨ bits = 96) (h6 : bits ≠ 96) (hh : hi < 2 ^ 64) (h1 : ¬ lN hi &&& tg_hm bits = lN F) : (-1 : Int64) = tg_draw bits F G hi lo := by
  by_cases h0 : bits = 0
  · subst h0; exact dr_0
  rw [tg_hm_and hh (by omega) (by omega)] at h1
  have : ¬ tg_of bits F G hi lo = true := fun z => by
    simp [tg_of, h0, h6] at z
    exact h1 (by rw [z.1])
  rw [tg_draw, if_neg this]
theorem dr_b {bits F G hi lo : Nat} (h6 : bits ≠ 96) (h1 : ¬ lN (lo / 2 ^ 56) = lN 0) : (-1 : Int64) = tg_draw bits F G hi lo := by
  by_cases h0 : bits = 0
  · subst h0; exact dr_0
  have : ¬ tg_of bits F G hi lo = true := fun z => by
    simp [tg_of, h0, h6] at z
    exact h1 (congrArg lN (by omega))
  rw [tg_draw, if_neg this]
theorem dr_y {bits F G hi lo : Nat} (hb : bits = 0 ∨ bits = 32 ∨ bits = 40 ∨ bits = 48 ∨ bits = 56 ∨ bits = 64 ∨ bits = 96) (h0 : bits ≠ 0) (h6 : bits ≠ 96) (hF : F < 2 ^ 64) (hh : hi < 2 ^ 64) (hl : lo < 2 ^ 64) (h1 : lN hi &&& tg_hm bits = lN F) (h2 : lN (lo / 2 ^ 56) = lN 0) {v : Int64} (hv : v = (lN hi &&& (tg_hm bits ^^^ (-1))) <<< ((nI (bits - 32)).toInt64 &&& 63) ||| lN (lo / 2 ^ (56 - (bits - 32)) % 2 ^ (bits - 32))) : v = tg_draw bits F G hi lo := by
  have h64 : bits ≤ 64 := by omega
  rw [tg_hm_and hh (by omega) h64] at h1
  have e1 := (lN_inj (Nat.lt_of_le_of_lt (Nat.sub_le _ _) hh) hF).mp h1
  have e2 : lo / 2 ^ 56 = 0 := (lN_inj (Nat.lt_of_le_of_lt (Nat.div_le_self _ _) hl) (by decide)).mp h2
  have ho : tg_of bits F G hi lo = true := by
    unfold tg_of
    rw [if_neg h0, if_neg h6]
    exact decide_eq_true ⟨e1, e2⟩
  rw [hv, tg_hm_not (by omega) h64, lN_shl (by omega), lN_or (Nat.mod_lt _ (Nat.two_pow_pos _)), tg_draw, if_pos ho, tg_dr, if_neg h6, show 56 - (bits - 32) = 88 - bits by omega]
theorem dr_neg {bits F G hi lo : Nat} (hb : bits = 0 ∨ bits = 32 ∨ bits = 40 ∨ bits = 48 ∨ bits = 56 ∨ bits = 64 ∨ bits = 96) : tg_draw bits F G hi lo < 0 ↔ tg_of bits F G hi lo = false := by
  by_cases ho : tg_of bits F G hi lo = true
  · have h0 : bits ≠ 0 := fun z => by subst z; simp [tg_of] at ho
    rw [tg_draw, if_pos ho, ho]
    have h1 := tg_dr_lt (bits := bits) (hi := hi) (lo := lo) (by omega)
    exact ⟨fun z => absurd z (lN_nneg (by omega)), fun z => by cases z⟩
  · rw [tg_draw, if_neg ho]
    exact ⟨fun _ => by simpa using ho, fun _ => by decide⟩
def tg_fr6 (h : Nat → Nat) (n : Nat) : Bool := decide (40 ≤ n ∧ h 0 / 16 = 6 ∧ tg_pr h 4 = n - 40)
def tg_echo6 (h : Nat → Nat) (n : Nat) : Bool := decide (8 ≤ n - 40 ∧ (h 40 = 128 ∨ h 40 = 129))
def tg_kn6 (h : Nat → Nat) (n : Nat) : Bool := if h 6 = 6 then tg_tcp h n 40 else if h 6 = 17 then tg_udp h n 40 else if h 6 = 58 then tg_echo6 h n else false
def tg_pl6 (h : Nat → Nat) (bits F G u : Nat) : Bool := decide (bits ≠ 0 ∧ u ≠ 0) && tg_of bits F G (tg_ei h 24) (tg_ei h 32) && !tg_odd (tg_dr bits (tg_ei h 24) (tg_ei h 32)) && !tg_of bits F G (tg_ei h 8) (tg_ei h 16)
def tg_in (h : Nat → Nat) (n bits F G u : Nat) : Nat := if tg_fr6 h n = false then 10 else if tg_kn6 h n = false then 11 else if tg_partOk h n 40 = false then 12 else if h 7 < 2 then 13 else if tg_pl6 h bits F G u = true then 0 else 14
def tg_fr4 (h : Nat → Nat) (n : Nat) : Bool := decide (20 ≤ n ∧ h 0 = 69 ∧ tg_pr h 2 = n)
def tg_within (h : Nat → Nat) (n : Nat) : Bool := decide (56 ≤ n ∧ h 28 = 69 ∧ ((h 37 = 1 ∧ h 48 = 8) ∨ h 37 = 6 ∨ h 37 = 17))
def tg_kicmp4 (h : Nat → Nat) (n : Nat) : Bool := if 8 ≤ n - 20 then (if h 20 = 8 ∨ h 20 = 0 then true else if h 20 = 3 then decide (h 21 ≠ 2 ∧ h 21 ≠ 14 ∧ h 21 ≤ 15) && tg_within h n else if h 20 = 11 then decide (h 21 ≤ 1) && tg_within h n else false) else false
def tg_kn4 (h : Nat → Nat) (n : Nat) : Bool := if tg_pr h 6 % 2 ^ 14 ≠ 0 then false else if h 9 = 6 then tg_tcp h n 20 else if h 9 = 17 then tg_udp h n 20 else if h 9 = 1 then tg_kicmp4 h n else false
/-- the pool has the address -/
def tg_has (g : Nat → Int32) (u x : Nat) : Bool := decide (tg_first (fun k => decide (g k = nI x)) u < u)
def tg_pl4 (h : Nat → Nat) (bits : Nat) (g : Nat → Int32) (u : Nat) : Bool := decide (bits ≠ 0) && tg_has g u (tg_qd h 16) && !tg_odd (tg_qd h 12) && (!tg_isErr h || (tg_has g u (tg_qd h 40) && !tg_odd (tg_qd h 44)))
def tg_out (h : Nat → Nat) (n bits : Nat) (g : Nat → Int32) (u : Nat) : Nat := if tg_fr4 h n = false then 10 else if tg_headOk h = false then 12 else if tg_kn4 h n = false then 11 else if tg_partOk h n 20 = false then 12 else if h 8 < 2 then 13 else if tg_pl4 h bits g u = true then 0 else 14
theorem lN_w {x : Nat} (h : x < 2 ^ 32) : (nI x).toInt64 &&& lN 4294967295 = lN x := by
  have e : (nI x).toInt64 = lN ((nI x).toInt64.toBitVec.toNat) := by
    apply Int64.toBitVec_inj.mp
    show (nI x).toInt64.toBitVec = BitVec.ofNat 64 (nI x).toInt64.toBitVec.toNat
    simp
  have e2 : (nI x).toInt64.toBitVec.toNat % 2 ^ 32 = x := by
    show ((BitVec.ofNat 32 x).signExtend 64).toNat % 2 ^ 32 = x
    have h1 : ((BitVec.ofNat 32 x).signExtend 64).setWidth 32 = BitVec.ofNat 32 x := by
      apply BitVec.eq_of_getLsbD_eq
      intro i hi
      rw [BitVec.getLsbD_setWidth, BitVec.getLsbD_signExtend]
      simp [hi, show i < 64 by omega]
    have h2 := congrArg BitVec.toNat h1
    rw [BitVec.toNat_setWidth, BitVec.toNat_ofNat, Nat.mod_eq_of_lt h] at h2
    exact h2
  rw [e, show (4294967295 : Nat) = 2 ^ 32 - 1 by decide, lN_mask, e2]
theorem nv_landw {p : Program} {l : Launch} {e : Env} {R : Room} {s : State} {m : MethodId} {args : Array Value} {below : List Frame} {meth : Method} {c : Code} {H : Heap} {locs : List Loc} {cells slots : Nat} {Q : State → Prop} {cc : ByteArray} {pc : Nat} {ls : Array Slot} {rest : List Value} {a : Nat} (hx : p.tables.exec = Jvm.exec) (hb : c.code = cc) (ha : a < 2 ^ 32) (hdg : decode cc pc = .ok (.land, 1)) (kk : W p l e R s m args below meth c H locs cells slots Q (F0 m (pc + 1) ls (.long (lN a) :: rest))) : W p l e R s m args below meth c H locs cells slots Q (F0 m pc ls (.long (lN 4294967295) :: .long ((nI a).toInt64) :: rest)) :=
  lv_land hx hb hdg (by rw [lN_w ha]; exact kk)
theorem lN_or0 {F b j : Nat} (hF : F % 2 ^ j = 0) (hb : b < 2 ^ j) : lN F ||| lN b = lN (F + b) := by
  have h := Nat.div_add_mod F (2 ^ j)
  rw [hF, Nat.add_zero, Nat.mul_comm] at h
  rw [← h]
  exact lN_or hb
theorem eh_n {bits F G x : Nat} (hsi : SI bits F G) (h0 : bits ≠ 0) (h6 : bits ≠ 96) (hx : x < 2 ^ 32) {v : Int64} (hv : v = lN F ||| lN (x / 2 ^ (bits - 32))) : v = lN (tg_eh bits F x) := by
  rcases hsi with h | h | h
  · omega
  · rw [hv, tg_eh, if_neg (by omega)]
    refine lN_or0 h.2.1 ?_
    rcases h.1 with rfl | rfl | rfl | rfl | rfl <;> simp <;> omega
  · omega
theorem el_0 {bits G x : Nat} (h0 : bits = 0) {v : Int64} (hv : v = lN 0) : v = lN (tg_el bits G x) := by rw [hv, tg_el, if_pos h0]
theorem el_96 {bits F G x : Nat} (hsi : SI bits F G) (h6 : bits = 96) (hx : x < 2 ^ 32) {v : Int64} (hv : v = lN G ||| lN x) : v = lN (tg_el bits G x) := by
  rcases hsi with h | h | h
  · omega
  · omega
  · rw [hv, tg_el, if_neg (by omega), if_pos h6]
    exact lN_or0 h.2.2.1 hx
theorem el_n {bits G x : Nat} (hb : bits = 0 ∨ bits = 32 ∨ bits = 40 ∨ bits = 48 ∨ bits = 56 ∨ bits = 64 ∨ bits = 96) (h0 : bits ≠ 0) (h6 : bits ≠ 96) {v : Int64} (hv : v = lN ((x % 2 ^ (bits - 32)) * 2 ^ (56 - (bits - 32)))) : v = lN (tg_el bits G x) := by
  rw [hv, tg_el, if_neg h0, if_neg h6, show 56 - (bits - 32) = 88 - bits by omega]
theorem num_f {k u : Nat} (hu : u < 2 ^ 31) (h : tg_num k u < 0) : decide (k < u) = false := decide_eq_false (fun z => by
  rw [tg_num, if_pos z] at h
  exact nI_pos (by omega) h)
theorem num_t {k u : Nat} (hu : u < 2 ^ 31) (h : ¬ tg_num k u < 0) : decide (k < u) = true := decide_eq_true (Classical.byContradiction (fun z => by
  rw [tg_num, if_neg z] at h
  exact h (by decide)))
end
section
theorem dX8_headMask_0 : decode cX8_headMask 0 = .ok (.ldc2_w 34, 3) := by decide +kernel
theorem dX8_headMask_3 : decode cX8_headMask 3 = .ok (.bipush 64, 2) := by decide +kernel
theorem dX8_headMask_5 : decode cX8_headMask 5 = .ok (.iload_n 0, 1) := by decide +kernel
theorem dX8_headMask_6 : decode cX8_headMask 6 = .ok (.isub, 1) := by decide +kernel
theorem dX8_headMask_7 : decode cX8_headMask 7 = .ok (.lshl, 1) := by decide +kernel
theorem dX8_headMask_8 : decode cX8_headMask 8 = .ok (.lreturn, 1) := by decide +kernel
theorem yv_X8_headMask : YS yX8_headMask cX8_headMask 1 (some .long) 1 := ⟨kw1_158, kw1_4, kw1_159, by decide +kernel⟩
set_option maxHeartbeats 4000000 in
set_option maxRecDepth 100000 in
theorem c_X8_headMask {l : Launch} {D : va_G} {cy : Nat → ClassId} {ws : va_W} {k : Nat} (hk : k ≤ 64) : RO l yX8_headMask cX8_headMask 1 (some .long) 0 0 [.int (nI k)] D cy ws (.long (tg_hm k)) := by
  refine ROl (by decide) (lv0 := [(0, .int (nI k))]) rfl (Nat.le_of_ble_eq_true rfl) ?_
  intro p e s m args below meth c ls Q S hP hK hend hl
  have hx := S.1
  have hb := S.2.1
  have hown : s.vm.findClass RX8 = some m.cls := S.2.2.2.1
  have ht : ∀ w ∈ lw_g, w.before args s = true := fun w h => S.2.2.2.2 w (List.mem_cons_of_mem _ h)
  refine lv_ldc2 hx hb hown (ht _ kw1_160) dX8_headMask_0 ?_
  refine nv_bipush (k := 64) hx hb dX8_headMask_3 (by decide) ?_
  refine lv_iload_n hx hb dX8_headMask_5 rfl (lv_at hl 0 rfl) ?_
  refine nv_isub hx hb (by omega) dX8_headMask_6 ?_
  refine lv_lshl hx hb dX8_headMask_7 rfl ?_
  exact hend (rfl) dX8_headMask_8
theorem dX8_tailMask_0 : decode cX8_tailMask 0 = .ok (.lconst 1, 1) := by decide +kernel
theorem dX8_tailMask_1 : decode cX8_tailMask 1 = .ok (.iload_n 0, 1) := by decide +kernel
theorem dX8_tailMask_2 : decode cX8_tailMask 2 = .ok (.lshl, 1) := by decide +kernel
theorem dX8_tailMask_3 : decode cX8_tailMask 3 = .ok (.lconst 1, 1) := by decide +kernel
theorem dX8_tailMask_4 : decode cX8_tailMask 4 = .ok (.lsub, 1) := by decide +kernel
theorem dX8_tailMask_5 : decode cX8_tailMask 5 = .ok (.lreturn, 1) := by decide +kernel
theorem yv_X8_tailMask : YS yX8_tailMask cX8_tailMask 1 (some .long) 1 := ⟨kw1_206, kw1_4, kw1_207, by decide +kernel⟩
set_option maxHeartbeats 4000000 in
set_option maxRecDepth 100000 in
theorem c_X8_tailMask {l : Launch} {D : va_G} {cy : Nat → ClassId} {ws : va_W} {k : Nat} (hk : k ≤ 62) : RO l yX8_tailMask cX8_tailMask 1 (some .long) 0 0 [.int (nI k)] D cy ws (.long (lN (2 ^ k - 1))) := by
  refine ROl (by decide) (lv0 := [(0, .int (nI k))]) rfl (Nat.le_of_ble_eq_true rfl) ?_
  intro p e s m args below meth c ls Q S hP hK hend hl
  have hx := S.1
  have hb := S.2.1
  have hown : s.vm.findClass RX8 = some m.cls := S.2.2.2.1
  have ht : ∀ w ∈ lw_g, w.before args s = true := fun w h => S.2.2.2.2 w (List.mem_cons_of_mem _ h)
  have hp2 := Nat.two_pow_pos k
  refine lv_lconst (v := lN 1) hx hb dX8_tailMask_0 (by decide) ?_
  refine lv_iload_n hx hb dX8_tailMask_1 rfl (lv_at hl 0 rfl) ?_
  refine nv_lshl hx hb (by omega) dX8_tailMask_2 ?_
  refine lv_lconst (v := lN 1) hx hb dX8_tailMask_3 (by decide) ?_
  refine nv_lsub hx hb (by omega) dX8_tailMask_4 ?_
  exact hend (congrArg lN (by rw [Nat.one_mul])) dX8_tailMask_5
theorem dX8_bits_0 : decode cX8_bits 0 = .ok (.aload_n 0, 1) := by decide +kernel
theorem dX8_bits_1 : decode cX8_bits 1 = .ok (.getfield 7, 3) := by decide +kernel
theorem dX8_bits_4 : decode cX8_bits 4 = .ok (.ireturn, 1) := by decide +kernel
theorem yv_X8_bits : YV RX8 yX8_bits cX8_bits 1 (some .int) 0 := ⟨kw4_97, kw4_98, kw1_4, kw4_99, by decide +kernel⟩
set_option maxHeartbeats 4000000 in
set_option maxRecDepth 100000 in
theorem c_X8_bits {l : Launch} {D : va_G} {cy : Nat → ClassId} {ws : va_W} {st bits F G : Nat} (hST : STP ws st bits F G) : RO l yX8_bits cX8_bits 1 (some .int) 0 0 [.ref st] D cy ws (.int (nI bits)) := by
  refine ROi (by decide) (lv0 := [(0, .ref st)]) rfl (Nat.le_of_ble_eq_true rfl) ?_
  intro p e s m args below meth c ls Q S hP hK hend hl
  have hx := S.1
  have hb := S.2.1
  have hown : s.vm.findClass RX8 = some m.cls := S.2.2.2.1
  have ht : ∀ w ∈ lw_g, w.before args s = true := fun w h => S.2.2.2.2 w (List.mem_cons_of_mem _ h)
  obtain ⟨ks, hs0, hsi⟩ := id hST
  have hbits := hsi.b
  have hF := hsi.F
  have hG := hsi.G
  refine lv_aload_n hx hb dX8_bits_0 rfl (lv_at hl 0 rfl) ?_
  refine va_get (ci := 6) (C := RX8) (T := TX8) (N := 4) hx hb ht iFX8 hown hK hP ks hs0 rfl 2 (by decide) (ht _ kw1_56) (fun _ h9 => h9) rfl dX8_bits_1 ?_
  exact hend (rfl) dX8_bits_4
theorem dX8_isSet_0 : decode cX8_isSet 0 = .ok (.aload_n 0, 1) := by decide +kernel
theorem dX8_isSet_1 : decode cX8_isSet 1 = .ok (.getfield 7, 3) := by decide +kernel
theorem dX8_isSet_4 : decode cX8_isSet 4 = .ok (.ifCond .eq 7, 3) := by decide +kernel
theorem dX8_isSet_7 : decode cX8_isSet 7 = .ok (.iconst 1, 1) := by decide +kernel
theorem dX8_isSet_8 : decode cX8_isSet 8 = .ok (.goto 4, 3) := by decide +kernel
theorem dX8_isSet_11 : decode cX8_isSet 11 = .ok (.iconst 0, 1) := by decide +kernel
theorem dX8_isSet_12 : decode cX8_isSet 12 = .ok (.ireturn, 1) := by decide +kernel
theorem yv_X8_isSet : YV RX8 yX8_isSet cX8_isSet 1 (some .boolean) 0 := ⟨kw2_70, kw2_71, kw1_4, kw2_72, by decide +kernel⟩
set_option maxHeartbeats 4000000 in
set_option maxRecDepth 100000 in
theorem c_X8_isSet {l : Launch} {D : va_G} {cy : Nat → ClassId} {ws : va_W} {st bits F G : Nat} (hST : STP ws st bits F G) : RO l yX8_isSet cX8_isSet 1 (some .boolean) 0 0 [.ref st] D cy ws (.int (bI (decide (bits ≠ 0)))) := by
  refine ROz (by decide) (lv0 := [(0, .ref st)]) rfl (Nat.le_of_ble_eq_true rfl) ?_
  intro p e s m args below meth c ls Q S hP hK hend hl
  have hx := S.1
  have hb := S.2.1
  have hown : s.vm.findClass RX8 = some m.cls := S.2.2.2.1
  have ht : ∀ w ∈ lw_g, w.before args s = true := fun w h => S.2.2.2.2 w (List.mem_cons_of_mem _ h)
  obtain ⟨ks, hs0, hsi⟩ := id hST
  have hbits := hsi.b
  have hF := hsi.F
  have hG := hsi.G
  refine lv_aload_n hx hb dX8_isSet_0 rfl (lv_at hl 0 rfl) ?_
  refine va_get (ci := 6) (C := RX8) (T := TX8) (N := 4) hx hb ht iFX8 hown hK hP ks hs0 rfl 2 (by decide) (ht _ kw1_56) (fun _ h9 => h9) rfl dX8_isSet_1 ?_
  refine nv_if_eq (tgt := 11) hx hb dX8_isSet_4 (by decide) (by omega) (fun h4 => ?_) (fun h4 => ?_)
  · skip
    refine nv_iconst (k := 0) hx hb dX8_isSet_11 rfl ?_
    exact hend ((bI_f (decide_eq_false (by omega)))) dX8_isSet_12
  refine nv_iconst (k := 1) hx hb dX8_isSet_7 rfl ?_
  refine lv_goto (tgt := 12) hx hb dX8_isSet_8 (by decide) ?_
  exact hend ((bI_t (decide_eq_true (by omega)))) dX8_isSet_12
theorem dX8_embedHigh_0 : decode cX8_embedHigh 0 = .ok (.aload_n 0, 1) := by decide +kernel
theorem dX8_embedHigh_1 : decode cX8_embedHigh 1 = .ok (.getfield 7, 3) := by decide +kernel
theorem dX8_embedHigh_4 : decode cX8_embedHigh 4 = .ok (.ifCond .eq 12, 3) := by decide +kernel
theorem dX8_embedHigh_7 : decode cX8_embedHigh 7 = .ok (.aload_n 0, 1) := by decide +kernel
theorem dX8_embedHigh_8 : decode cX8_embedHigh 8 = .ok (.getfield 7, 3) := by decide +kernel
theorem dX8_embedHigh_11 : decode cX8_embedHigh 11 = .ok (.bipush 96, 2) := by decide +kernel
theorem dX8_embedHigh_13 : decode cX8_embedHigh 13 = .ok (.if_icmp .ne 8, 3) := by decide +kernel
theorem dX8_embedHigh_16 : decode cX8_embedHigh 16 = .ok (.aload_n 0, 1) := by decide +kernel
theorem dX8_embedHigh_17 : decode cX8_embedHigh 17 = .ok (.getfield 13, 3) := by decide +kernel
theorem dX8_embedHigh_20 : decode cX8_embedHigh 20 = .ok (.lreturn, 1) := by decide +kernel
theorem dX8_embedHigh_21 : decode cX8_embedHigh 21 = .ok (.aload_n 0, 1) := by decide +kernel
theorem dX8_embedHigh_22 : decode cX8_embedHigh 22 = .ok (.getfield 13, 3) := by decide +kernel
theorem dX8_embedHigh_25 : decode cX8_embedHigh 25 = .ok (.iload_n 1, 1) := by decide +kernel
theorem dX8_embedHigh_26 : decode cX8_embedHigh 26 = .ok (.i2l, 1) := by decide +kernel
theorem dX8_embedHigh_27 : decode cX8_embedHigh 27 = .ok (.ldc2_w 29, 3) := by decide +kernel
theorem dX8_embedHigh_30 : decode cX8_embedHigh 30 = .ok (.land, 1) := by decide +kernel
theorem dX8_embedHigh_31 : decode cX8_embedHigh 31 = .ok (.aload_n 0, 1) := by decide +kernel
theorem dX8_embedHigh_32 : decode cX8_embedHigh 32 = .ok (.getfield 26, 3) := by decide +kernel
theorem dX8_embedHigh_35 : decode cX8_embedHigh 35 = .ok (.lushr, 1) := by decide +kernel
theorem dX8_embedHigh_36 : decode cX8_embedHigh 36 = .ok (.lor, 1) := by decide +kernel
theorem dX8_embedHigh_37 : decode cX8_embedHigh 37 = .ok (.lreturn, 1) := by decide +kernel
theorem yv_X8_embedHigh : YV RX8 yX8_embedHigh cX8_embedHigh 2 (some .long) 1 := ⟨kw1_193, kw1_194, kw1_4, kw1_195, by decide +kernel⟩
set_option maxHeartbeats 4000000 in
set_option maxRecDepth 100000 in
theorem c_X8_embedHigh {l : Launch} {D : va_G} {cy : Nat → ClassId} {ws : va_W} {st bits F G : Nat} (hST : STP ws st bits F G) {x : Nat} (hx0 : x < 2 ^ 32) : RO l yX8_embedHigh cX8_embedHigh 2 (some .long) 0 0 [.ref st, .int (nI x)] D cy ws (.long (lN (tg_eh bits F x))) := by
  refine ROl (by decide) (lv0 := [(0, .ref st), (1, .int (nI x))]) rfl (Nat.le_of_ble_eq_true rfl) ?_
  intro p e s m args below meth c ls Q S hP hK hend hl
  have hx := S.1
  have hb := S.2.1
  have hown : s.vm.findClass RX8 = some m.cls := S.2.2.2.1
  have ht : ∀ w ∈ lw_g, w.before args s = true := fun w h => S.2.2.2.2 w (List.mem_cons_of_mem _ h)
  obtain ⟨ks, hs0, hsi⟩ := id hST
  have hbits := hsi.b
  have hF := hsi.F
  have hG := hsi.G
  refine lv_aload_n hx hb dX8_embedHigh_0 rfl (lv_at hl 0 rfl) ?_
  refine va_get (ci := 6) (C := RX8) (T := TX8) (N := 4) hx hb ht iFX8 hown hK hP ks hs0 rfl 2 (by decide) (ht _ kw1_56) (fun _ h9 => h9) rfl dX8_embedHigh_1 ?_
  refine nv_if_eq (tgt := 16) hx hb dX8_embedHigh_4 (by decide) (by omega) (fun h4 => ?_) (fun h4 => ?_)
  · skip
    refine lv_aload_n hx hb dX8_embedHigh_16 rfl (lv_at hl 0 rfl) ?_
    refine va_get (ci := 6) (C := RX8) (T := TX8) (N := 4) hx hb ht iFX8 hown hK hP ks hs0 rfl 0 (by decide) (ht _ kw1_54) (fun _ h9 => h9) rfl dX8_embedHigh_17 ?_
    exact hend ((congrArg lN (by unfold tg_eh; rw [if_pos (by omega)]))) dX8_embedHigh_20
  refine lv_aload_n hx hb dX8_embedHigh_7 rfl (lv_at hl 0 rfl) ?_
  refine va_get (ci := 6) (C := RX8) (T := TX8) (N := 4) hx hb ht iFX8 hown hK hP ks hs0 rfl 2 (by decide) (ht _ kw1_56) (fun _ h9 => h9) rfl dX8_embedHigh_8 ?_
  refine nv_bipush (k := 96) hx hb dX8_embedHigh_11 (by decide) ?_
  refine nv_icmp_ne (tgt := 21) hx hb dX8_embedHigh_13 (by decide) (by omega) (by omega) (fun h13 => ?_) (fun h13 => ?_)
  · skip
    refine lv_aload_n hx hb dX8_embedHigh_21 rfl (lv_at hl 0 rfl) ?_
    refine va_get (ci := 6) (C := RX8) (T := TX8) (N := 4) hx hb ht iFX8 hown hK hP ks hs0 rfl 0 (by decide) (ht _ kw1_54) (fun _ h9 => h9) rfl dX8_embedHigh_22 ?_
    refine lv_iload_n hx hb dX8_embedHigh_25 rfl (lv_at hl 1 rfl) ?_
    refine lv_i2l hx hb dX8_embedHigh_26 rfl ?_
    refine nv_ldc2 (k := 4294967295) hx hb hown (ht _ kw1_196) (by decide) dX8_embedHigh_27 ?_
    refine nv_landw hx hb (by omega) dX8_embedHigh_30 ?_
    refine lv_aload_n hx hb dX8_embedHigh_31 rfl (lv_at hl 0 rfl) ?_
    refine va_get (ci := 6) (C := RX8) (T := TX8) (N := 4) hx hb ht iFX8 hown hK hP ks hs0 rfl 3 (by decide) (ht _ kw1_57) (fun _ h9 => h9) rfl dX8_embedHigh_32 ?_
    refine nv_lushr hx hb (by omega) (by omega) dX8_embedHigh_35 ?_
    refine lv_lor hx hb dX8_embedHigh_36 ?_
    exact hend ((eh_n hsi (by omega) (by omega) (by omega) rfl)) dX8_embedHigh_37
  refine lv_aload_n hx hb dX8_embedHigh_16 rfl (lv_at hl 0 rfl) ?_
  refine va_get (ci := 6) (C := RX8) (T := TX8) (N := 4) hx hb ht iFX8 hown hK hP ks hs0 rfl 0 (by decide) (ht _ kw1_54) (fun _ h9 => h9) rfl dX8_embedHigh_17 ?_
  exact hend ((congrArg lN (by unfold tg_eh; rw [if_pos (by omega)]))) dX8_embedHigh_20
theorem dX8_embedLow_0 : decode cX8_embedLow 0 = .ok (.iload_n 1, 1) := by decide +kernel
theorem dX8_embedLow_1 : decode cX8_embedLow 1 = .ok (.i2l, 1) := by decide +kernel
theorem dX8_embedLow_2 : decode cX8_embedLow 2 = .ok (.ldc2_w 29, 3) := by decide +kernel
theorem dX8_embedLow_5 : decode cX8_embedLow 5 = .ok (.land, 1) := by decide +kernel
theorem dX8_embedLow_6 : decode cX8_embedLow 6 = .ok (.lstore_n 2, 1) := by decide +kernel
theorem dX8_embedLow_7 : decode cX8_embedLow 7 = .ok (.aload_n 0, 1) := by decide +kernel
theorem dX8_embedLow_8 : decode cX8_embedLow 8 = .ok (.getfield 7, 3) := by decide +kernel
theorem dX8_embedLow_11 : decode cX8_embedLow 11 = .ok (.ifCond .eq 12, 3) := by decide +kernel
theorem dX8_embedLow_14 : decode cX8_embedLow 14 = .ok (.aload_n 0, 1) := by decide +kernel
theorem dX8_embedLow_15 : decode cX8_embedLow 15 = .ok (.getfield 7, 3) := by decide +kernel
theorem dX8_embedLow_18 : decode cX8_embedLow 18 = .ok (.bipush 96, 2) := by decide +kernel
theorem dX8_embedLow_20 : decode cX8_embedLow 20 = .ok (.if_icmp .ne 21, 3) := by decide +kernel
theorem dX8_embedLow_23 : decode cX8_embedLow 23 = .ok (.aload_n 0, 1) := by decide +kernel
theorem dX8_embedLow_24 : decode cX8_embedLow 24 = .ok (.getfield 7, 3) := by decide +kernel
theorem dX8_embedLow_27 : decode cX8_embedLow 27 = .ok (.ifCond .ne 7, 3) := by decide +kernel
theorem dX8_embedLow_30 : decode cX8_embedLow 30 = .ok (.lconst 0, 1) := by decide +kernel
theorem dX8_embedLow_31 : decode cX8_embedLow 31 = .ok (.goto 9, 3) := by decide +kernel
theorem dX8_embedLow_34 : decode cX8_embedLow 34 = .ok (.aload_n 0, 1) := by decide +kernel
theorem dX8_embedLow_35 : decode cX8_embedLow 35 = .ok (.getfield 19, 3) := by decide +kernel
theorem dX8_embedLow_38 : decode cX8_embedLow 38 = .ok (.lload_n 2, 1) := by decide +kernel
theorem dX8_embedLow_39 : decode cX8_embedLow 39 = .ok (.lor, 1) := by decide +kernel
theorem dX8_embedLow_40 : decode cX8_embedLow 40 = .ok (.lreturn, 1) := by decide +kernel
theorem dX8_embedLow_41 : decode cX8_embedLow 41 = .ok (.lload_n 2, 1) := by decide +kernel
theorem dX8_embedLow_42 : decode cX8_embedLow 42 = .ok (.aload_n 0, 1) := by decide +kernel
theorem dX8_embedLow_43 : decode cX8_embedLow 43 = .ok (.getfield 26, 3) := by decide +kernel
theorem dX8_embedLow_46 : decode cX8_embedLow 46 = .ok (.invokestatic 31, 3) := by decide +kernel
theorem dX8_embedLow_49 : decode cX8_embedLow 49 = .ok (.land, 1) := by decide +kernel
theorem dX8_embedLow_50 : decode cX8_embedLow 50 = .ok (.bipush 56, 2) := by decide +kernel
theorem dX8_embedLow_52 : decode cX8_embedLow 52 = .ok (.aload_n 0, 1) := by decide +kernel
theorem dX8_embedLow_53 : decode cX8_embedLow 53 = .ok (.getfield 26, 3) := by decide +kernel
theorem dX8_embedLow_56 : decode cX8_embedLow 56 = .ok (.isub, 1) := by decide +kernel
theorem dX8_embedLow_57 : decode cX8_embedLow 57 = .ok (.lshl, 1) := by decide +kernel
theorem dX8_embedLow_58 : decode cX8_embedLow 58 = .ok (.lreturn, 1) := by decide +kernel
theorem yv_X8_embedLow : YV RX8 yX8_embedLow cX8_embedLow 4 (some .long) 1 := ⟨kw1_202, kw1_203, kw1_4, kw1_204, by decide +kernel⟩
set_option maxHeartbeats 4000000 in
set_option maxRecDepth 100000 in
theorem c_X8_embedLow {l : Launch} {D : va_G} {cy : Nat → ClassId} {ws : va_W} {st bits F G : Nat} (hST : STP ws st bits F G) {x : Nat} (hx0 : x < 2 ^ 32) : RO l yX8_embedLow cX8_embedLow 4 (some .long) 1 20 [.ref st, .int (nI x)] D cy ws (.long (lN (tg_el bits G x))) := by
  refine ROl (by decide) (lv0 := [(0, .ref st), (1, .int (nI x))]) rfl (Nat.le_of_ble_eq_true rfl) ?_
  intro p e s m args below meth c ls Q S hP hK hend hl
  have hx := S.1
  have hb := S.2.1
  have hown : s.vm.findClass RX8 = some m.cls := S.2.2.2.1
  have ht : ∀ w ∈ lw_g, w.before args s = true := fun w h => S.2.2.2.2 w (List.mem_cons_of_mem _ h)
  obtain ⟨ks, hs0, hsi⟩ := id hST
  have hbits := hsi.b
  have hF := hsi.F
  have hG := hsi.G
  refine lv_iload_n hx hb dX8_embedLow_0 rfl (lv_at hl 1 rfl) ?_
  refine lv_i2l hx hb dX8_embedLow_1 rfl ?_
  refine nv_ldc2 (k := 4294967295) hx hb hown (ht _ kw1_196) (by decide) dX8_embedLow_2 ?_
  refine nv_landw hx hb (by omega) dX8_embedLow_5 ?_
  refine lv_lstore_n (lv' := [(2, .long (lN (x))), (0, .ref st), (1, .int (nI x))]) hx hb dX8_embedLow_6 rfl hl (by decide) rfl (fun ls hl => ?_)
  refine lv_aload_n hx hb dX8_embedLow_7 rfl (lv_at hl 1 rfl) ?_
  refine va_get (ci := 6) (C := RX8) (T := TX8) (N := 4) hx hb ht iFX8 hown hK hP ks hs0 rfl 2 (by decide) (ht _ kw1_56) (fun _ h9 => h9) rfl dX8_embedLow_8 ?_
  refine nv_if_eq (tgt := 23) hx hb dX8_embedLow_11 (by decide) (by omega) (fun h11 => ?_) (fun h11 => ?_)
  · skip
    refine lv_aload_n hx hb dX8_embedLow_23 rfl (lv_at hl 1 rfl) ?_
    refine va_get (ci := 6) (C := RX8) (T := TX8) (N := 4) hx hb ht iFX8 hown hK hP ks hs0 rfl 2 (by decide) (ht _ kw1_56) (fun _ h9 => h9) rfl dX8_embedLow_24 ?_
    refine nv_if_ne (tgt := 34) hx hb dX8_embedLow_27 (by decide) (by omega) (fun h27 => ?_) (fun h27 => ?_)
    · skip
      refine lv_aload_n hx hb dX8_embedLow_34 rfl (lv_at hl 1 rfl) ?_
      refine va_get (ci := 6) (C := RX8) (T := TX8) (N := 4) hx hb ht iFX8 hown hK hP ks hs0 rfl 1 (by decide) (ht _ kw1_55) (fun _ h9 => h9) rfl dX8_embedLow_35 ?_
      refine lv_lload_n hx hb dX8_embedLow_38 rfl (lv_at hl 0 rfl) ?_
      refine lv_lor hx hb dX8_embedLow_39 ?_
      exact hend ((el_96 hsi (by omega) (by omega) rfl)) dX8_embedLow_40
    refine lv_lconst (v := lN 0) hx hb dX8_embedLow_30 (by decide) ?_
    refine lv_goto (tgt := 40) hx hb dX8_embedLow_31 (by decide) ?_
    exact hend ((el_0 (by omega) rfl)) dX8_embedLow_40
  refine lv_aload_n hx hb dX8_embedLow_14 rfl (lv_at hl 1 rfl) ?_
  refine va_get (ci := 6) (C := RX8) (T := TX8) (N := 4) hx hb ht iFX8 hown hK hP ks hs0 rfl 2 (by decide) (ht _ kw1_56) (fun _ h9 => h9) rfl dX8_embedLow_15 ?_
  refine nv_bipush (k := 96) hx hb dX8_embedLow_18 (by decide) ?_
  refine nv_icmp_ne (tgt := 41) hx hb dX8_embedLow_20 (by decide) (by omega) (by omega) (fun h20 => ?_) (fun h20 => ?_)
  · skip
    refine lv_lload_n hx hb dX8_embedLow_41 rfl (lv_at hl 0 rfl) ?_
    refine lv_aload_n hx hb dX8_embedLow_42 rfl (lv_at hl 1 rfl) ?_
    refine va_get (ci := 6) (C := RX8) (T := TX8) (N := 4) hx hb ht iFX8 hown hK hP ks hs0 rfl 3 (by decide) (ht _ kw1_57) (fun _ h9 => h9) rfl dX8_embedLow_43 ?_
    refine ro_S S (c_X8_tailMask (k := bits - 32) (by omega)) kw1_205 yv_X8_tailMask ⟨Nat.le_of_ble_eq_true rfl, Nat.le_of_ble_eq_true rfl⟩ hK hP rfl hl.1 rfl (Nat.le_of_ble_eq_true rfl) dX8_embedLow_46 ⟨Nat.le_refl _, Nat.le_refl _⟩ ?_
    refine nv_landm (bits - 32) hx hb rfl dX8_embedLow_49 ?_
    refine nv_bipush (k := 56) hx hb dX8_embedLow_50 (by decide) ?_
    refine lv_aload_n hx hb dX8_embedLow_52 rfl (lv_at hl 1 rfl) ?_
    refine va_get (ci := 6) (C := RX8) (T := TX8) (N := 4) hx hb ht iFX8 hown hK hP ks hs0 rfl 3 (by decide) (ht _ kw1_57) (fun _ h9 => h9) rfl dX8_embedLow_53 ?_
    refine nv_isub hx hb (by omega) dX8_embedLow_56 ?_
    refine nv_lshl hx hb (by omega) dX8_embedLow_57 ?_
    exact hend ((el_n hbits (by omega) (by omega) rfl)) dX8_embedLow_58
  refine lv_aload_n hx hb dX8_embedLow_23 rfl (lv_at hl 1 rfl) ?_
  refine va_get (ci := 6) (C := RX8) (T := TX8) (N := 4) hx hb ht iFX8 hown hK hP ks hs0 rfl 2 (by decide) (ht _ kw1_56) (fun _ h9 => h9) rfl dX8_embedLow_24 ?_
  refine nv_if_ne (tgt := 34) hx hb dX8_embedLow_27 (by decide) (by omega) (fun h27 => ?_) (fun h27 => ?_)
  · skip
    refine lv_aload_n hx hb dX8_embedLow_34 rfl (lv_at hl 1 rfl) ?_
    refine va_get (ci := 6) (C := RX8) (T := TX8) (N := 4) hx hb ht iFX8 hown hK hP ks hs0 rfl 1 (by decide) (ht _ kw1_55) (fun _ h9 => h9) rfl dX8_embedLow_35 ?_
    refine lv_lload_n hx hb dX8_embedLow_38 rfl (lv_at hl 0 rfl) ?_
    refine lv_lor hx hb dX8_embedLow_39 ?_
    exact hend ((el_96 hsi (by omega) (by omega) rfl)) dX8_embedLow_40
  refine lv_lconst (v := lN 0) hx hb dX8_embedLow_30 (by decide) ?_
  refine lv_goto (tgt := 40) hx hb dX8_embedLow_31 (by decide) ?_
  exact hend ((el_0 (by omega) rfl)) dX8_embedLow_40
theorem dX8_draw_0 : decode cX8_draw 0 = .ok (.aload_n 0, 1) := by decide +kernel
theorem dX8_draw_1 : decode cX8_draw 1 = .ok (.getfield 7, 3) := by decide +kernel
theorem dX8_draw_4 : decode cX8_draw 4 = .ok (.bipush 96, 2) := by decide +kernel
theorem dX8_draw_6 : decode cX8_draw 6 = .ok (.if_icmp .ne 49, 3) := by decide +kernel
theorem dX8_draw_9 : decode cX8_draw 9 = .ok (.lload_n 1, 1) := by decide +kernel
theorem dX8_draw_10 : decode cX8_draw 10 = .ok (.aload_n 0, 1) := by decide +kernel
theorem dX8_draw_11 : decode cX8_draw 11 = .ok (.getfield 13, 3) := by decide +kernel
theorem dX8_draw_14 : decode cX8_draw 14 = .ok (.lcmp, 1) := by decide +kernel
theorem dX8_draw_15 : decode cX8_draw 15 = .ok (.ifCond .ne 20, 3) := by decide +kernel
theorem dX8_draw_18 : decode cX8_draw 18 = .ok (.lload_n 3, 1) := by decide +kernel
theorem dX8_draw_19 : decode cX8_draw 19 = .ok (.ldc2_w 17, 3) := by decide +kernel
theorem dX8_draw_22 : decode cX8_draw 22 = .ok (.land, 1) := by decide +kernel
theorem dX8_draw_23 : decode cX8_draw 23 = .ok (.aload_n 0, 1) := by decide +kernel
theorem dX8_draw_24 : decode cX8_draw 24 = .ok (.getfield 19, 3) := by decide +kernel
theorem dX8_draw_27 : decode cX8_draw 27 = .ok (.lcmp, 1) := by decide +kernel
theorem dX8_draw_28 : decode cX8_draw 28 = .ok (.ifCond .ne 7, 3) := by decide +kernel
theorem dX8_draw_31 : decode cX8_draw 31 = .ok (.iconst 1, 1) := by decide +kernel
theorem dX8_draw_32 : decode cX8_draw 32 = .ok (.goto 4, 3) := by decide +kernel
theorem dX8_draw_35 : decode cX8_draw 35 = .ok (.iconst 0, 1) := by decide +kernel
theorem dX8_draw_36 : decode cX8_draw 36 = .ok (.istore 5, 2) := by decide +kernel
theorem dX8_draw_38 : decode cX8_draw 38 = .ok (.iload 5, 2) := by decide +kernel
theorem dX8_draw_40 : decode cX8_draw 40 = .ok (.ifCond .eq 11, 3) := by decide +kernel
theorem dX8_draw_43 : decode cX8_draw 43 = .ok (.lload_n 3, 1) := by decide +kernel
theorem dX8_draw_44 : decode cX8_draw 44 = .ok (.ldc2_w 29, 3) := by decide +kernel
theorem dX8_draw_47 : decode cX8_draw 47 = .ok (.land, 1) := by decide +kernel
theorem dX8_draw_48 : decode cX8_draw 48 = .ok (.goto 6, 3) := by decide +kernel
theorem dX8_draw_51 : decode cX8_draw 51 = .ok (.ldc2_w 34, 3) := by decide +kernel
theorem dX8_draw_54 : decode cX8_draw 54 = .ok (.lreturn, 1) := by decide +kernel
theorem dX8_draw_55 : decode cX8_draw 55 = .ok (.aload_n 0, 1) := by decide +kernel
theorem dX8_draw_56 : decode cX8_draw 56 = .ok (.getfield 7, 3) := by decide +kernel
theorem dX8_draw_59 : decode cX8_draw 59 = .ok (.invokestatic 22, 3) := by decide +kernel
theorem dX8_draw_62 : decode cX8_draw 62 = .ok (.lstore 5, 2) := by decide +kernel
theorem dX8_draw_64 : decode cX8_draw 64 = .ok (.aload_n 0, 1) := by decide +kernel
theorem dX8_draw_65 : decode cX8_draw 65 = .ok (.getfield 7, 3) := by decide +kernel
theorem dX8_draw_68 : decode cX8_draw 68 = .ok (.ifCond .eq 24, 3) := by decide +kernel
theorem dX8_draw_71 : decode cX8_draw 71 = .ok (.lload_n 1, 1) := by decide +kernel
theorem dX8_draw_72 : decode cX8_draw 72 = .ok (.lload 5, 2) := by decide +kernel
theorem dX8_draw_74 : decode cX8_draw 74 = .ok (.land, 1) := by decide +kernel
theorem dX8_draw_75 : decode cX8_draw 75 = .ok (.aload_n 0, 1) := by decide +kernel
theorem dX8_draw_76 : decode cX8_draw 76 = .ok (.getfield 13, 3) := by decide +kernel
theorem dX8_draw_79 : decode cX8_draw 79 = .ok (.lcmp, 1) := by decide +kernel
theorem dX8_draw_80 : decode cX8_draw 80 = .ok (.ifCond .ne 12, 3) := by decide +kernel
theorem dX8_draw_83 : decode cX8_draw 83 = .ok (.lload_n 3, 1) := by decide +kernel
theorem dX8_draw_84 : decode cX8_draw 84 = .ok (.bipush 56, 2) := by decide +kernel
theorem dX8_draw_86 : decode cX8_draw 86 = .ok (.lushr, 1) := by decide +kernel
theorem dX8_draw_87 : decode cX8_draw 87 = .ok (.lconst 0, 1) := by decide +kernel
theorem dX8_draw_88 : decode cX8_draw 88 = .ok (.lcmp, 1) := by decide +kernel
theorem dX8_draw_89 : decode cX8_draw 89 = .ok (.ifCond .eq 7, 3) := by decide +kernel
theorem dX8_draw_92 : decode cX8_draw 92 = .ok (.ldc2_w 34, 3) := by decide +kernel
theorem dX8_draw_95 : decode cX8_draw 95 = .ok (.lreturn, 1) := by decide +kernel
theorem dX8_draw_96 : decode cX8_draw 96 = .ok (.lload_n 3, 1) := by decide +kernel
theorem dX8_draw_97 : decode cX8_draw 97 = .ok (.bipush 56, 2) := by decide +kernel
theorem dX8_draw_99 : decode cX8_draw 99 = .ok (.aload_n 0, 1) := by decide +kernel
theorem dX8_draw_100 : decode cX8_draw 100 = .ok (.getfield 26, 3) := by decide +kernel
theorem dX8_draw_103 : decode cX8_draw 103 = .ok (.isub, 1) := by decide +kernel
theorem dX8_draw_104 : decode cX8_draw 104 = .ok (.lushr, 1) := by decide +kernel
theorem dX8_draw_105 : decode cX8_draw 105 = .ok (.aload_n 0, 1) := by decide +kernel
theorem dX8_draw_106 : decode cX8_draw 106 = .ok (.getfield 26, 3) := by decide +kernel
theorem dX8_draw_109 : decode cX8_draw 109 = .ok (.invokestatic 31, 3) := by decide +kernel
theorem dX8_draw_112 : decode cX8_draw 112 = .ok (.land, 1) := by decide +kernel
theorem dX8_draw_113 : decode cX8_draw 113 = .ok (.lstore 7, 2) := by decide +kernel
theorem dX8_draw_115 : decode cX8_draw 115 = .ok (.lload_n 1, 1) := by decide +kernel
theorem dX8_draw_116 : decode cX8_draw 116 = .ok (.lload 5, 2) := by decide +kernel
theorem dX8_draw_118 : decode cX8_draw 118 = .ok (.ldc2_w 34, 3) := by decide +kernel
theorem dX8_draw_121 : decode cX8_draw 121 = .ok (.lxor, 1) := by decide +kernel
theorem dX8_draw_122 : decode cX8_draw 122 = .ok (.land, 1) := by decide +kernel
theorem dX8_draw_123 : decode cX8_draw 123 = .ok (.aload_n 0, 1) := by decide +kernel
theorem dX8_draw_124 : decode cX8_draw 124 = .ok (.getfield 26, 3) := by decide +kernel
theorem dX8_draw_127 : decode cX8_draw 127 = .ok (.lshl, 1) := by decide +kernel
theorem dX8_draw_128 : decode cX8_draw 128 = .ok (.lload 7, 2) := by decide +kernel
theorem dX8_draw_130 : decode cX8_draw 130 = .ok (.lor, 1) := by decide +kernel
theorem dX8_draw_131 : decode cX8_draw 131 = .ok (.lreturn, 1) := by decide +kernel
theorem yv_X8_draw : YV RX8 yX8_draw cX8_draw 9 (some .long) 2 := ⟨kw1_213, kw1_214, kw1_4, kw1_215, by decide +kernel⟩
set_option maxHeartbeats 4000000 in
set_option maxRecDepth 100000 in
theorem c_X8_draw {l : Launch} {D : va_G} {cy : Nat → ClassId} {ws : va_W} {st bits F G : Nat} (hST : STP ws st bits F G) {hi lo : Nat} (hhi : hi < 2 ^ 64) (hlo : lo < 2 ^ 64) : RO l yX8_draw cX8_draw 9 (some .long) 1 20 [.ref st, .long (lN (hi)), .long (lN (lo))] D cy ws (.long (tg_draw bits F G hi lo)) := by
  refine ROl (by decide) (lv0 := [(0, .ref st), (1, .long (lN (hi))), (3, .long (lN (lo)))]) rfl (Nat.le_of_ble_eq_true rfl) ?_
  intro p e s m args below meth c ls Q S hP hK hend hl
  have hx := S.1
  have hb := S.2.1
  have hown : s.vm.findClass RX8 = some m.cls := S.2.2.2.1
  have ht : ∀ w ∈ lw_g, w.before args s = true := fun w h => S.2.2.2.2 w (List.mem_cons_of_mem _ h)
  obtain ⟨ks, hs0, hsi⟩ := id hST
  have hbits := hsi.b
  have hF := hsi.F
  have hG := hsi.G
  refine lv_aload_n hx hb dX8_draw_0 rfl (lv_at hl 0 rfl) ?_
  refine va_get (ci := 6) (C := RX8) (T := TX8) (N := 4) hx hb ht iFX8 hown hK hP ks hs0 rfl 2 (by decide) (ht _ kw1_56) (fun _ h9 => h9) rfl dX8_draw_1 ?_
  refine nv_bipush (k := 96) hx hb dX8_draw_4 (by decide) ?_
  refine nv_icmp_ne (tgt := 55) hx hb dX8_draw_6 (by decide) (by omega) (by omega) (fun h6 => ?_) (fun h6 => ?_)
  · skip
    refine lv_aload_n hx hb dX8_draw_55 rfl (lv_at hl 0 rfl) ?_
    refine va_get (ci := 6) (C := RX8) (T := TX8) (N := 4) hx hb ht iFX8 hown hK hP ks hs0 rfl 2 (by decide) (ht _ kw1_56) (fun _ h9 => h9) rfl dX8_draw_56 ?_
    refine ro_S S (c_X8_headMask (k := bits) (by omega)) kw1_157 yv_X8_headMask ⟨Nat.le_of_ble_eq_true rfl, Nat.le_of_ble_eq_true rfl⟩ hK hP rfl hl.1 rfl (Nat.le_of_ble_eq_true rfl) dX8_draw_59 ⟨Nat.le_refl _, Nat.le_refl _⟩ ?_
    refine lv_lstore (lv' := [(5, .long (tg_hm bits)), (0, .ref st), (1, .long (lN (hi))), (3, .long (lN (lo)))]) hx hb dX8_draw_62 hl (by decide) rfl (fun ls hl => ?_)
    refine lv_aload_n hx hb dX8_draw_64 rfl (lv_at hl 1 rfl) ?_
    refine va_get (ci := 6) (C := RX8) (T := TX8) (N := 4) hx hb ht iFX8 hown hK hP ks hs0 rfl 2 (by decide) (ht _ kw1_56) (fun _ h9 => h9) rfl dX8_draw_65 ?_
    refine nv_if_eq (tgt := 92) hx hb dX8_draw_68 (by decide) (by omega) (fun h68 => ?_) (fun h68 => ?_)
    · skip
      refine lv_ldc2 hx hb hown (ht _ kw1_160) dX8_draw_92 ?_
      exact hend ((by first | (subst h68; exact dr_0) | exact dr_a hbits h6 hhi h79 | exact dr_b h6 h88)) dX8_draw_95
    refine lv_lload_n hx hb dX8_draw_71 rfl (lv_at hl 2 rfl) ?_
    refine lv_lload hx hb dX8_draw_72 (lv_at hl 0 rfl) ?_
    refine lv_land hx hb dX8_draw_74 ?_
    refine lv_aload_n hx hb dX8_draw_75 rfl (lv_at hl 1 rfl) ?_
    refine va_get (ci := 6) (C := RX8) (T := TX8) (N := 4) hx hb ht iFX8 hown hK hP ks hs0 rfl 0 (by decide) (ht _ kw1_54) (fun _ h9 => h9) rfl dX8_draw_76 ?_
    refine nv_lcmp_ne (tgt := 92) hx hb dX8_draw_79 dX8_draw_80 (by decide) (fun h79 => ?_) (fun h79 => ?_)
    · skip
      refine lv_ldc2 hx hb hown (ht _ kw1_160) dX8_draw_92 ?_
      exact hend ((by first | (subst h68; exact dr_0) | exact dr_a hbits h6 hhi h79 | exact dr_b h6 h88)) dX8_draw_95
    refine lv_lload_n hx hb dX8_draw_83 rfl (lv_at hl 3 rfl) ?_
    refine nv_bipush (k := 56) hx hb dX8_draw_84 (by decide) ?_
    refine nv_lushr hx hb (by omega) (by omega) dX8_draw_86 ?_
    refine lv_lconst (v := lN 0) hx hb dX8_draw_87 (by decide) ?_
    refine nv_lcmp_eq (tgt := 96) hx hb dX8_draw_88 dX8_draw_89 (by decide) (fun h88 => ?_) (fun h88 => ?_)
    · skip
      refine lv_lload_n hx hb dX8_draw_96 rfl (lv_at hl 3 rfl) ?_
      refine nv_bipush (k := 56) hx hb dX8_draw_97 (by decide) ?_
      refine lv_aload_n hx hb dX8_draw_99 rfl (lv_at hl 1 rfl) ?_
      refine va_get (ci := 6) (C := RX8) (T := TX8) (N := 4) hx hb ht iFX8 hown hK hP ks hs0 rfl 3 (by decide) (ht _ kw1_57) (fun _ h9 => h9) rfl dX8_draw_100 ?_
      refine nv_isub hx hb (by omega) dX8_draw_103 ?_
      refine nv_lushr hx hb (by omega) (by omega) dX8_draw_104 ?_
      refine lv_aload_n hx hb dX8_draw_105 rfl (lv_at hl 1 rfl) ?_
      refine va_get (ci := 6) (C := RX8) (T := TX8) (N := 4) hx hb ht iFX8 hown hK hP ks hs0 rfl 3 (by decide) (ht _ kw1_57) (fun _ h9 => h9) rfl dX8_draw_106 ?_
      refine ro_S S (c_X8_tailMask (k := bits - 32) (by omega)) kw1_205 yv_X8_tailMask ⟨Nat.le_of_ble_eq_true rfl, Nat.le_of_ble_eq_true rfl⟩ hK hP rfl hl.1 rfl (Nat.le_of_ble_eq_true rfl) dX8_draw_109 ⟨Nat.le_refl _, Nat.le_refl _⟩ ?_
      refine nv_landm (bits - 32) hx hb rfl dX8_draw_112 ?_
      refine lv_lstore (lv' := [(7, .long (lN (((lo) / 2 ^ (56 - (bits - 32))) % 2 ^ (bits - 32)))), (5, .long (tg_hm bits)), (0, .ref st), (1, .long (lN (hi))), (3, .long (lN (lo)))]) hx hb dX8_draw_113 hl (by decide) rfl (fun ls hl => ?_)
      refine lv_lload_n hx hb dX8_draw_115 rfl (lv_at hl 3 rfl) ?_
      refine lv_lload hx hb dX8_draw_116 (lv_at hl 1 rfl) ?_
      refine lv_ldc2 hx hb hown (ht _ kw1_160) dX8_draw_118 ?_
      refine lv_lxor hx hb dX8_draw_121 ?_
      refine lv_land hx hb dX8_draw_122 ?_
      refine lv_aload_n hx hb dX8_draw_123 rfl (lv_at hl 2 rfl) ?_
      refine va_get (ci := 6) (C := RX8) (T := TX8) (N := 4) hx hb ht iFX8 hown hK hP ks hs0 rfl 3 (by decide) (ht _ kw1_57) (fun _ h9 => h9) rfl dX8_draw_124 ?_
      refine lv_lshl hx hb dX8_draw_127 rfl ?_
      refine lv_lload hx hb dX8_draw_128 (lv_at hl 0 rfl) ?_
      refine lv_lor hx hb dX8_draw_130 ?_
      exact hend ((dr_y hbits h68 h6 hF hhi hlo h79 h88 rfl)) dX8_draw_131
    refine lv_ldc2 hx hb hown (ht _ kw1_160) dX8_draw_92 ?_
    exact hend ((by first | (subst h68; exact dr_0) | exact dr_a hbits h6 hhi h79 | exact dr_b h6 h88)) dX8_draw_95
  refine lv_lload_n hx hb dX8_draw_9 rfl (lv_at hl 1 rfl) ?_
  refine lv_aload_n hx hb dX8_draw_10 rfl (lv_at hl 0 rfl) ?_
  refine va_get (ci := 6) (C := RX8) (T := TX8) (N := 4) hx hb ht iFX8 hown hK hP ks hs0 rfl 0 (by decide) (ht _ kw1_54) (fun _ h9 => h9) rfl dX8_draw_11 ?_
  refine nv_lcmp_ne (tgt := 35) hx hb dX8_draw_14 dX8_draw_15 (by decide) (fun h14 => ?_) (fun h14 => ?_)
  · skip
    refine nv_iconst (k := 0) hx hb dX8_draw_35 rfl ?_
    refine lv_istore (lv' := [(5, .int (nI 0)), (0, .ref st), (1, .long (lN (hi))), (3, .long (lN (lo)))]) hx hb dX8_draw_36 hl (by decide) rfl (fun ls hl => ?_)
    refine lv_iload hx hb dX8_draw_38 (lv_at hl 0 rfl) ?_
    refine nv_if_eq (tgt := 51) hx hb dX8_draw_40 (by decide) (by omega) (fun _ => ?_) (fun h => absurd h (by decide))
    refine lv_ldc2 hx hb hown (ht _ kw1_160) dX8_draw_51 ?_
    exact hend ((by subst h6; first | exact dr_96a h14 | exact dr_96b hlo h27)) dX8_draw_54
  refine lv_lload_n hx hb dX8_draw_18 rfl (lv_at hl 2 rfl) ?_
  refine lv_ldc2 hx hb hown (ht _ kw1_156) dX8_draw_19 ?_
  refine lv_land hx hb dX8_draw_22 ?_
  refine lv_aload_n hx hb dX8_draw_23 rfl (lv_at hl 0 rfl) ?_
  refine va_get (ci := 6) (C := RX8) (T := TX8) (N := 4) hx hb ht iFX8 hown hK hP ks hs0 rfl 1 (by decide) (ht _ kw1_55) (fun _ h9 => h9) rfl dX8_draw_24 ?_
  refine nv_lcmp_ne (tgt := 35) hx hb dX8_draw_27 dX8_draw_28 (by decide) (fun h27 => ?_) (fun h27 => ?_)
  · skip
    refine nv_iconst (k := 0) hx hb dX8_draw_35 rfl ?_
    refine lv_istore (lv' := [(5, .int (nI 0)), (0, .ref st), (1, .long (lN (hi))), (3, .long (lN (lo)))]) hx hb dX8_draw_36 hl (by decide) rfl (fun ls hl => ?_)
    refine lv_iload hx hb dX8_draw_38 (lv_at hl 0 rfl) ?_
    refine nv_if_eq (tgt := 51) hx hb dX8_draw_40 (by decide) (by omega) (fun _ => ?_) (fun h => absurd h (by decide))
    refine lv_ldc2 hx hb hown (ht _ kw1_160) dX8_draw_51 ?_
    exact hend ((by subst h6; first | exact dr_96a h14 | exact dr_96b hlo h27)) dX8_draw_54
  refine nv_iconst (k := 1) hx hb dX8_draw_31 rfl ?_
  refine lv_goto (tgt := 36) hx hb dX8_draw_32 (by decide) ?_
  refine lv_istore (lv' := [(5, .int (nI 1)), (0, .ref st), (1, .long (lN (hi))), (3, .long (lN (lo)))]) hx hb dX8_draw_36 hl (by decide) rfl (fun ls hl => ?_)
  refine lv_iload hx hb dX8_draw_38 (lv_at hl 0 rfl) ?_
  refine nv_if_eq (tgt := 51) hx hb dX8_draw_40 (by decide) (by omega) (fun h => absurd h (by decide)) (fun _ => ?_)
  refine lv_lload_n hx hb dX8_draw_43 rfl (lv_at hl 3 rfl) ?_
  refine nv_ldc2 (k := 4294967295) hx hb hown (ht _ kw1_196) (by decide) dX8_draw_44 ?_
  refine nv_landm 32 hx hb (by decide) dX8_draw_47 ?_
  refine lv_goto (tgt := 54) hx hb dX8_draw_48 (by decide) ?_
  exact hend ((by subst h6; exact dr_96 hG hF hhi hlo h14 h27)) dX8_draw_54
theorem dX8_covers_0 : decode cX8_covers 0 = .ok (.aload_n 0, 1) := by decide +kernel
theorem dX8_covers_1 : decode cX8_covers 1 = .ok (.lload_n 1, 1) := by decide +kernel
theorem dX8_covers_2 : decode cX8_covers 2 = .ok (.lload_n 3, 1) := by decide +kernel
theorem dX8_covers_3 : decode cX8_covers 3 = .ok (.invokevirtual 36, 3) := by decide +kernel
theorem dX8_covers_6 : decode cX8_covers 6 = .ok (.lconst 0, 1) := by decide +kernel
theorem dX8_covers_7 : decode cX8_covers 7 = .ok (.lcmp, 1) := by decide +kernel
theorem dX8_covers_8 : decode cX8_covers 8 = .ok (.ifCond .lt 7, 3) := by decide +kernel
theorem dX8_covers_11 : decode cX8_covers 11 = .ok (.iconst 1, 1) := by decide +kernel
theorem dX8_covers_12 : decode cX8_covers 12 = .ok (.goto 4, 3) := by decide +kernel
theorem dX8_covers_15 : decode cX8_covers 15 = .ok (.iconst 0, 1) := by decide +kernel
theorem dX8_covers_16 : decode cX8_covers 16 = .ok (.ireturn, 1) := by decide +kernel
theorem yv_X8_covers : YV RX8 yX8_covers cX8_covers 5 (some .boolean) 2 := ⟨kw2_84, kw2_85, kw1_4, kw2_86, by decide +kernel⟩
set_option maxHeartbeats 4000000 in
set_option maxRecDepth 100000 in
theorem c_X8_covers {l : Launch} {D : va_G} {cy : Nat → ClassId} {ws : va_W} {st bits F G : Nat} (hST : STP ws st bits F G) {hi lo : Nat} (hhi : hi < 2 ^ 64) (hlo : lo < 2 ^ 64) : RO l yX8_covers cX8_covers 5 (some .boolean) 2 48 [.ref st, .long (lN (hi)), .long (lN (lo))] D cy ws (.int (bI (tg_of bits F G hi lo))) := by
  refine ROz (by decide) (lv0 := [(0, .ref st), (1, .long (lN (hi))), (3, .long (lN (lo)))]) rfl (Nat.le_of_ble_eq_true rfl) ?_
  intro p e s m args below meth c ls Q S hP hK hend hl
  have hx := S.1
  have hb := S.2.1
  have hown : s.vm.findClass RX8 = some m.cls := S.2.2.2.1
  have ht : ∀ w ∈ lw_g, w.before args s = true := fun w h => S.2.2.2.2 w (List.mem_cons_of_mem _ h)
  obtain ⟨ks, hs0, hsi⟩ := id hST
  have hbits := hsi.b
  have hF := hsi.F
  have hG := hsi.G
  refine lv_aload_n hx hb dX8_covers_0 rfl (lv_at hl 0 rfl) ?_
  refine lv_lload_n hx hb dX8_covers_1 rfl (lv_at hl 1 rfl) ?_
  refine lv_lload_n hx hb dX8_covers_2 rfl (lv_at hl 2 rfl) ?_
  refine ro_V S (c_X8_draw hST (hi := hi) (lo := lo) (by omega) (by omega)) kw2_87 yv_X8_draw ⟨Nat.le_of_ble_eq_true rfl, Nat.le_of_ble_eq_true rfl⟩ hK hP (va_recv hK hP (ci := 6) (q0 := ks) rfl hs0) rfl hl.1 rfl (Nat.le_of_ble_eq_true rfl) dX8_covers_3 ⟨Nat.le_refl _, Nat.le_refl _⟩ ?_
  refine lv_lconst (v := lN 0) hx hb dX8_covers_6 (by decide) ?_
  refine nv_lcmp_lt (tgt := 15) hx hb dX8_covers_7 dX8_covers_8 (by decide) (fun h7 => ?_) (fun h7 => ?_)
  · skip
    refine nv_iconst (k := 0) hx hb dX8_covers_15 rfl ?_
    exact hend ((bI_f ((dr_neg hbits).mp (by assumption)))) dX8_covers_16
  refine nv_iconst (k := 1) hx hb dX8_covers_11 rfl ?_
  refine lv_goto (tgt := 16) hx hb dX8_covers_12 (by decide) ?_
  exact hend ((bI_t (by have := mt (dr_neg hbits).mpr (by assumption); simpa using this))) dX8_covers_16
theorem dX5_isOdd_0 : decode cX5_isOdd 0 = .ok (.iload_n 0, 1) := by decide +kernel
theorem dX5_isOdd_1 : decode cX5_isOdd 1 = .ok (.bipush 24, 2) := by decide +kernel
theorem dX5_isOdd_3 : decode cX5_isOdd 3 = .ok (.iushr, 1) := by decide +kernel
theorem dX5_isOdd_4 : decode cX5_isOdd 4 = .ok (.istore_n 1, 1) := by decide +kernel
theorem dX5_isOdd_5 : decode cX5_isOdd 5 = .ok (.iload_n 1, 1) := by decide +kernel
theorem dX5_isOdd_6 : decode cX5_isOdd 6 = .ok (.ifCond .eq 16, 3) := by decide +kernel
theorem dX5_isOdd_9 : decode cX5_isOdd 9 = .ok (.iload_n 1, 1) := by decide +kernel
theorem dX5_isOdd_10 : decode cX5_isOdd 10 = .ok (.bipush 127, 2) := by decide +kernel
theorem dX5_isOdd_12 : decode cX5_isOdd 12 = .ok (.if_icmp .eq 10, 3) := by decide +kernel
theorem dX5_isOdd_15 : decode cX5_isOdd 15 = .ok (.iload_n 1, 1) := by decide +kernel
theorem dX5_isOdd_16 : decode cX5_isOdd 16 = .ok (.sipush 224, 3) := by decide +kernel
theorem dX5_isOdd_19 : decode cX5_isOdd 19 = .ok (.if_icmp .lt 7, 3) := by decide +kernel
theorem dX5_isOdd_22 : decode cX5_isOdd 22 = .ok (.iconst 1, 1) := by decide +kernel
theorem dX5_isOdd_23 : decode cX5_isOdd 23 = .ok (.goto 4, 3) := by decide +kernel
theorem dX5_isOdd_26 : decode cX5_isOdd 26 = .ok (.iconst 0, 1) := by decide +kernel
theorem dX5_isOdd_27 : decode cX5_isOdd 27 = .ok (.ireturn, 1) := by decide +kernel
theorem yv_X5_isOdd : YS yX5_isOdd cX5_isOdd 2 (some .boolean) 1 := ⟨kw1_178, kw1_5, kw1_179, by decide +kernel⟩
set_option maxHeartbeats 4000000 in
set_option maxRecDepth 100000 in
theorem c_X5_isOdd {l : Launch} {D : va_G} {cy : Nat → ClassId} {ws : va_W} {x : Nat} (hx0 : x < 2 ^ 32) : RO l yX5_isOdd cX5_isOdd 2 (some .boolean) 0 0 [.int (nI x)] D cy ws (.int (bI (tg_odd x))) := by
  refine ROz (by decide) (lv0 := [(0, .int (nI x))]) rfl (Nat.le_of_ble_eq_true rfl) ?_
  intro p e s m args below meth c ls Q S hP hK hend hl
  have hx := S.1
  have hb := S.2.1
  have hown : s.vm.findClass RX5 = some m.cls := S.2.2.2.1
  have ht : ∀ w ∈ lw_g, w.before args s = true := fun w h => S.2.2.2.2 w (List.mem_cons_of_mem _ h)
  refine lv_iload_n hx hb dX5_isOdd_0 rfl (lv_at hl 0 rfl) ?_
  refine nv_bipush (k := 24) hx hb dX5_isOdd_1 (by decide) ?_
  refine nv_iushr hx hb (by omega) (by omega) dX5_isOdd_3 ?_
  refine lv_istore_n (lv' := [(1, .int (nI ((x) / 2 ^ 24))), (0, .int (nI x))]) hx hb dX5_isOdd_4 rfl hl (by decide) rfl (fun ls hl => ?_)
  refine lv_iload_n hx hb dX5_isOdd_5 rfl (lv_at hl 0 rfl) ?_
  refine nv_if_eq (tgt := 22) hx hb dX5_isOdd_6 (by decide) (by omega) (fun h6 => ?_) (fun h6 => ?_)
  · skip
    refine nv_iconst (k := 1) hx hb dX5_isOdd_22 rfl ?_
    refine lv_goto (tgt := 27) hx hb dX5_isOdd_23 (by decide) ?_
    exact hend ((bI_t (by simp only [tg_odd]; exact decide_eq_true (by omega)))) dX5_isOdd_27
  refine lv_iload_n hx hb dX5_isOdd_9 rfl (lv_at hl 0 rfl) ?_
  refine nv_bipush (k := 127) hx hb dX5_isOdd_10 (by decide) ?_
  refine nv_icmp_eq (tgt := 22) hx hb dX5_isOdd_12 (by decide) (by omega) (by omega) (fun h12 => ?_) (fun h12 => ?_)
  · skip
    refine nv_iconst (k := 1) hx hb dX5_isOdd_22 rfl ?_
    refine lv_goto (tgt := 27) hx hb dX5_isOdd_23 (by decide) ?_
    exact hend ((bI_t (by simp only [tg_odd]; exact decide_eq_true (by omega)))) dX5_isOdd_27
  refine lv_iload_n hx hb dX5_isOdd_15 rfl (lv_at hl 0 rfl) ?_
  refine nv_sipush (k := 224) hx hb dX5_isOdd_16 (by decide) ?_
  refine nv_icmp_lt (tgt := 26) hx hb dX5_isOdd_19 (by decide) (by omega) (by omega) (fun h19 => ?_) (fun h19 => ?_)
  · skip
    refine nv_iconst (k := 0) hx hb dX5_isOdd_26 rfl ?_
    exact hend ((bI_f (by simp only [tg_odd]; exact decide_eq_false (by omega)))) dX5_isOdd_27
  refine nv_iconst (k := 1) hx hb dX5_isOdd_22 rfl ?_
  refine lv_goto (tgt := 27) hx hb dX5_isOdd_23 (by decide) ?_
  exact hend ((bI_t (by simp only [tg_odd]; exact decide_eq_true (by omega)))) dX5_isOdd_27
theorem dX5_size_0 : decode cX5_size 0 = .ok (.aload_n 0, 1) := by decide +kernel
theorem dX5_size_1 : decode cX5_size 1 = .ok (.getfield 13, 3) := by decide +kernel
theorem dX5_size_4 : decode cX5_size 4 = .ok (.ireturn, 1) := by decide +kernel
theorem yv_X5_size : YV RX5 yX5_size cX5_size 1 (some .int) 0 := ⟨kw2_74, kw2_75, kw1_5, kw2_76, by decide +kernel⟩
set_option maxHeartbeats 4000000 in
set_option maxRecDepth 100000 in
theorem c_X5_size {l : Launch} {D : va_G} {cy : Nat → ClassId} {ws : va_W} {po u : Nat} {g : Nat → Int32} (hPL : PLP cy ws po g u) : RO l yX5_size cX5_size 1 (some .int) 0 0 [.ref po] D cy ws (.int (nI u)) := by
  refine ROi (by decide) (lv0 := [(0, .ref po)]) rfl (Nat.le_of_ble_eq_true rfl) ?_
  intro p e s m args below meth c ls Q S hP hK hend hl
  have hx := S.1
  have hb := S.2.1
  have hown : s.vm.findClass RX5 = some m.cls := S.2.2.2.1
  have ht : ∀ w ∈ lw_g, w.before args s = true := fun w h => S.2.2.2.2 w (List.mem_cons_of_mem _ h)
  obtain ⟨kp, kq, pa, hp0, hq0, hu⟩ := id hPL
  refine lv_aload_n hx hb dX5_size_0 rfl (lv_at hl 0 rfl) ?_
  refine va_get (ci := 4) (C := RX5) (T := TX5) (N := 2) hx hb ht iFX5 hown hK hP kp hp0 rfl 1 (by decide) (ht _ kw1_74) (fun _ h9 => h9) rfl dX5_size_1 ?_
  exact hend (rfl) dX5_size_4
theorem dX5_at_0 : decode cX5_at 0 = .ok (.iload_n 1, 1) := by decide +kernel
theorem dX5_at_1 : decode cX5_at 1 = .ok (.ifCond .lt 20, 3) := by decide +kernel
theorem dX5_at_4 : decode cX5_at 4 = .ok (.iload_n 1, 1) := by decide +kernel
theorem dX5_at_5 : decode cX5_at 5 = .ok (.aload_n 0, 1) := by decide +kernel
theorem dX5_at_6 : decode cX5_at 6 = .ok (.getfield 13, 3) := by decide +kernel
theorem dX5_at_9 : decode cX5_at 9 = .ok (.if_icmp .ge 12, 3) := by decide +kernel
theorem dX5_at_12 : decode cX5_at 12 = .ok (.aload_n 0, 1) := by decide +kernel
theorem dX5_at_13 : decode cX5_at 13 = .ok (.getfield 9, 3) := by decide +kernel
theorem dX5_at_16 : decode cX5_at 16 = .ok (.iload_n 1, 1) := by decide +kernel
theorem dX5_at_17 : decode cX5_at 17 = .ok (.iaload, 1) := by decide +kernel
theorem dX5_at_18 : decode cX5_at 18 = .ok (.goto 4, 3) := by decide +kernel
theorem dX5_at_21 : decode cX5_at 21 = .ok (.iconst 0, 1) := by decide +kernel
theorem dX5_at_22 : decode cX5_at 22 = .ok (.ireturn, 1) := by decide +kernel
theorem yv_X5_at : YV RX5 yX5_at cX5_at 2 (some .int) 1 := ⟨kw3_113, kw3_114, kw1_5, kw3_115, by decide +kernel⟩
set_option maxHeartbeats 4000000 in
set_option maxRecDepth 100000 in
theorem c_X5_at {l : Launch} {D : va_G} {cy : Nat → ClassId} {ws : va_W} {po u : Nat} {g : Nat → Int32} (hPL : PLP cy ws po g u) {k : Nat} (hk : k < u) : RO l yX5_at cX5_at 2 (some .int) 0 0 [.ref po, .int (nI k)] D cy ws (.int (g k)) := by
  refine ROi (by decide) (lv0 := [(0, .ref po), (1, .int (nI k))]) rfl (Nat.le_of_ble_eq_true rfl) ?_
  intro p e s m args below meth c ls Q S hP hK hend hl
  have hx := S.1
  have hb := S.2.1
  have hown : s.vm.findClass RX5 = some m.cls := S.2.2.2.1
  have ht : ∀ w ∈ lw_g, w.before args s = true := fun w h => S.2.2.2.2 w (List.mem_cons_of_mem _ h)
  obtain ⟨kp, kq, pa, hp0, hq0, hu⟩ := id hPL
  refine lv_iload_n hx hb dX5_at_0 rfl (lv_at hl 1 rfl) ?_
  refine nv_if_lt (tgt := 21) hx hb dX5_at_1 (by decide) (by omega) ?_
  refine lv_iload_n hx hb dX5_at_4 rfl (lv_at hl 1 rfl) ?_
  refine lv_aload_n hx hb dX5_at_5 rfl (lv_at hl 0 rfl) ?_
  refine va_get (ci := 4) (C := RX5) (T := TX5) (N := 2) hx hb ht iFX5 hown hK hP kp hp0 rfl 1 (by decide) (ht _ kw1_74) (fun _ h9 => h9) rfl dX5_at_6 ?_
  refine nv_icmp_ge (tgt := 21) hx hb dX5_at_9 (by decide) (by omega) (by omega) (fun h9 => ?_) (fun h9 => ?_)
  · skip
    refine nv_iconst (k := 0) hx hb dX5_at_21 rfl ?_
    exact hend ((by omega)) dX5_at_22
  refine lv_aload_n hx hb dX5_at_12 rfl (lv_at hl 0 rfl) ?_
  refine va_get (ci := 4) (C := RX5) (T := TX5) (N := 2) hx hb ht iFX5 hown hK hP kp hp0 rfl 0 (by decide) (ht _ kw1_73) (fun _ h9 => h9) rfl dX5_at_13 ?_
  refine lv_iload_n hx hb dX5_at_16 rfl (lv_at hl 1 rfl) ?_
  refine nv_iald hx hb hK hP kq hq0 (by omega) (by omega) dX5_at_17 ?_
  refine lv_goto (tgt := 22) hx hb dX5_at_18 (by decide) ?_
  exact hend ((rfl)) dX5_at_22
theorem dX5_numberOf_0 : decode cX5_numberOf 0 = .ok (.iconst 0, 1) := by decide +kernel
theorem dX5_numberOf_1 : decode cX5_numberOf 1 = .ok (.istore_n 2, 1) := by decide +kernel
theorem dX5_numberOf_2 : decode cX5_numberOf 2 = .ok (.iload_n 2, 1) := by decide +kernel
theorem dX5_numberOf_3 : decode cX5_numberOf 3 = .ok (.aload_n 0, 1) := by decide +kernel
theorem dX5_numberOf_4 : decode cX5_numberOf 4 = .ok (.getfield 13, 3) := by decide +kernel
theorem dX5_numberOf_7 : decode cX5_numberOf 7 = .ok (.if_icmp .ge 21, 3) := by decide +kernel
theorem dX5_numberOf_10 : decode cX5_numberOf 10 = .ok (.aload_n 0, 1) := by decide +kernel
theorem dX5_numberOf_11 : decode cX5_numberOf 11 = .ok (.getfield 9, 3) := by decide +kernel
theorem dX5_numberOf_14 : decode cX5_numberOf 14 = .ok (.iload_n 2, 1) := by decide +kernel
theorem dX5_numberOf_15 : decode cX5_numberOf 15 = .ok (.iaload, 1) := by decide +kernel
theorem dX5_numberOf_16 : decode cX5_numberOf 16 = .ok (.iload_n 1, 1) := by decide +kernel
theorem dX5_numberOf_17 : decode cX5_numberOf 17 = .ok (.if_icmp .ne 5, 3) := by decide +kernel
theorem dX5_numberOf_20 : decode cX5_numberOf 20 = .ok (.iload_n 2, 1) := by decide +kernel
theorem dX5_numberOf_21 : decode cX5_numberOf 21 = .ok (.ireturn, 1) := by decide +kernel
theorem dX5_numberOf_22 : decode cX5_numberOf 22 = .ok (.iinc 2 1, 3) := by decide +kernel
theorem dX5_numberOf_25 : decode cX5_numberOf 25 = .ok (.goto (-23), 3) := by decide +kernel
theorem dX5_numberOf_28 : decode cX5_numberOf 28 = .ok (.iconst (-1), 1) := by decide +kernel
theorem dX5_numberOf_29 : decode cX5_numberOf 29 = .ok (.ireturn, 1) := by decide +kernel
theorem yv_X5_numberOf : YV RX5 yX5_numberOf cX5_numberOf 3 (some .int) 1 := ⟨kw1_185, kw1_186, kw1_5, kw1_187, by decide +kernel⟩
set_option maxHeartbeats 4000000 in
set_option maxRecDepth 100000 in
theorem c_X5_numberOf {l : Launch} {D : va_G} {cy : Nat → ClassId} {ws : va_W} {po u : Nat} {g : Nat → Int32} (hPL : PLP cy ws po g u) {x : Nat} (hx0 : x < 2 ^ 32) : RO l yX5_numberOf cX5_numberOf 3 (some .int) 0 0 [.ref po, .int (nI x)] D cy ws (.int (tg_num (tg_first (fun k => decide (g k = nI x)) u) u)) := by
  refine ROi (by decide) (lv0 := [(0, .ref po), (1, .int (nI x))]) rfl (Nat.le_of_ble_eq_true rfl) ?_
  intro p e s m args below meth c ls Q S hP hK hend hl
  have hx := S.1
  have hb := S.2.1
  have hown : s.vm.findClass RX5 = some m.cls := S.2.2.2.1
  have ht : ∀ w ∈ lw_g, w.before args s = true := fun w h => S.2.2.2.2 w (List.mem_cons_of_mem _ h)
  obtain ⟨kp, kq, pa, hp0, hq0, hu⟩ := id hPL
  refine nv_iconst (k := 0) hx hb dX5_numberOf_0 rfl ?_
  refine lv_istore_n (lv' := [(2, .int (nI 0)), (0, .ref po), (1, .int (nI x))]) hx hb dX5_numberOf_1 rfl hl (by decide) rfl (fun ls hl => ?_)
  have L2 : ∀ (fu : Nat) (i : Nat), u - i < fu → i ≤ u → (∀ j, j < i → ¬ g j = nI x) → ∀ ls : Array Slot, lv_has ls 3 [(0, .ref po), (1, .int (nI x)), (2, .int (nI i))] → W p l e (rmo 0 0) s m args below meth c s.heap [] 0 0 Q (F0 m 2 ls []) := by
    intro fu
    induction fu with
    | zero => intro i h9; omega
    | succ fu ih =>
      intro i hfu hi hno ls hl
      refine lv_iload_n hx hb dX5_numberOf_2 rfl (lv_at hl 2 rfl) ?_
      refine lv_aload_n hx hb dX5_numberOf_3 rfl (lv_at hl 0 rfl) ?_
      refine va_get (ci := 4) (C := RX5) (T := TX5) (N := 2) hx hb ht iFX5 hown hK hP kp hp0 rfl 1 (by decide) (ht _ kw1_74) (fun _ h9 => h9) rfl dX5_numberOf_4 ?_
      refine nv_icmp_ge (tgt := 28) hx hb dX5_numberOf_7 (by decide) (by omega) (by omega) (fun h7 => ?_) (fun h7 => ?_)
      · skip
        refine lv_iconst (v := -1) hx hb dX5_numberOf_28 (by decide) ?_
        exact hend ((by rw [tg_first_none (fun j hj => by simp [hno j (by omega)]), tg_num, if_neg (by omega)])) dX5_numberOf_29
      refine lv_aload_n hx hb dX5_numberOf_10 rfl (lv_at hl 0 rfl) ?_
      refine va_get (ci := 4) (C := RX5) (T := TX5) (N := 2) hx hb ht iFX5 hown hK hP kp hp0 rfl 0 (by decide) (ht _ kw1_73) (fun _ h9 => h9) rfl dX5_numberOf_11 ?_
      refine lv_iload_n hx hb dX5_numberOf_14 rfl (lv_at hl 2 rfl) ?_
      refine nv_iald hx hb hK hP kq hq0 (by omega) (by omega) dX5_numberOf_15 ?_
      refine lv_iload_n hx hb dX5_numberOf_16 rfl (lv_at hl 1 rfl) ?_
      refine lv_icmp_ne (tgt := 22) hx hb dX5_numberOf_17 (by decide) (fun h17 => ?_) (fun h17 => ?_)
      · skip
        refine lv_iinc (v := (nI (i + 1))) (lv' := [(2, .int (nI (i + 1))), (0, .ref po), (1, .int (nI x))]) hx hb dX5_numberOf_22 hl (k := 2) rfl (nI_inc _ _) (by decide) rfl (fun ls hl => ?_)
        refine lv_goto (tgt := 2) hx hb dX5_numberOf_25 (by decide) ?_
        exact ih (i + 1) (by omega) (by omega) (fun j hj => by rcases Nat.lt_or_ge j i with q | q; exact hno j q; rw [show j = i by omega]; exact h17) ls (lv_sub hl [1, 2, 0] rfl)
      refine lv_iload_n hx hb dX5_numberOf_20 rfl (lv_at hl 2 rfl) ?_
      exact hend ((by rw [tg_first_at (k := i) (by simp [h17]) (fun j hj => by simp [hno j hj]) (by omega), tg_num, if_pos (by omega)])) dX5_numberOf_21
  exact L2 (u + 1) 0 (by omega) (by omega) (fun j hj => absurd hj (by omega)) ls (lv_sub hl [1, 2, 0] rfl)
theorem dX5_has_0 : decode cX5_has 0 = .ok (.aload_n 0, 1) := by decide +kernel
theorem dX5_has_1 : decode cX5_has 1 = .ok (.iload_n 1, 1) := by decide +kernel
theorem dX5_has_2 : decode cX5_has 2 = .ok (.invokevirtual 17, 3) := by decide +kernel
theorem dX5_has_5 : decode cX5_has 5 = .ok (.ifCond .lt 7, 3) := by decide +kernel
theorem dX5_has_8 : decode cX5_has 8 = .ok (.iconst 1, 1) := by decide +kernel
theorem dX5_has_9 : decode cX5_has 9 = .ok (.goto 4, 3) := by decide +kernel
theorem dX5_has_12 : decode cX5_has 12 = .ok (.iconst 0, 1) := by decide +kernel
theorem dX5_has_13 : decode cX5_has 13 = .ok (.ireturn, 1) := by decide +kernel
theorem yv_X5_has : YV RX5 yX5_has cX5_has 2 (some .boolean) 1 := ⟨kw1_181, kw1_182, kw1_5, kw1_183, by decide +kernel⟩
set_option maxHeartbeats 4000000 in
set_option maxRecDepth 100000 in
theorem c_X5_has {l : Launch} {D : va_G} {cy : Nat → ClassId} {ws : va_W} {po u : Nat} {g : Nat → Int32} (hPL : PLP cy ws po g u) {x : Nat} (hx0 : x < 2 ^ 32) : RO l yX5_has cX5_has 2 (some .boolean) 1 22 [.ref po, .int (nI x)] D cy ws (.int (bI (tg_has g u x))) := by
  refine ROz (by decide) (lv0 := [(0, .ref po), (1, .int (nI x))]) rfl (Nat.le_of_ble_eq_true rfl) ?_
  intro p e s m args below meth c ls Q S hP hK hend hl
  have hx := S.1
  have hb := S.2.1
  have hown : s.vm.findClass RX5 = some m.cls := S.2.2.2.1
  have ht : ∀ w ∈ lw_g, w.before args s = true := fun w h => S.2.2.2.2 w (List.mem_cons_of_mem _ h)
  obtain ⟨kp, kq, pa, hp0, hq0, hu⟩ := id hPL
  refine lv_aload_n hx hb dX5_has_0 rfl (lv_at hl 0 rfl) ?_
  refine lv_iload_n hx hb dX5_has_1 rfl (lv_at hl 1 rfl) ?_
  refine ro_V S (c_X5_numberOf hPL (x := x) (by omega)) kw1_184 yv_X5_numberOf ⟨Nat.le_of_ble_eq_true rfl, Nat.le_of_ble_eq_true rfl⟩ hK hP (va_recv hK hP (ci := 4) (q0 := kp) rfl hp0) rfl hl.1 rfl (Nat.le_of_ble_eq_true rfl) dX5_has_2 ⟨Nat.le_refl _, Nat.le_refl _⟩ ?_
  refine lv_if_lt (tgt := 12) hx hb dX5_has_5 (by decide) (fun h5 => ?_) (fun h5 => ?_)
  · skip
    refine nv_iconst (k := 0) hx hb dX5_has_12 rfl ?_
    exact hend ((bI_f (num_f (by omega) (by assumption)))) dX5_has_13
  refine nv_iconst (k := 1) hx hb dX5_has_8 rfl ?_
  refine lv_goto (tgt := 13) hx hb dX5_has_9 (by decide) ?_
  exact hend ((bI_t (num_t (by omega) (by assumption)))) dX5_has_13
end
section
theorem dX6_isFramedSix_0 : decode cX6_isFramedSix 0 = .ok (.aload_n 0, 1) := by decide +kernel
theorem dX6_isFramedSix_1 : decode cX6_isFramedSix 1 = .ok (.invokevirtual 46, 3) := by decide +kernel
theorem dX6_isFramedSix_4 : decode cX6_isFramedSix 4 = .ok (.istore_n 1, 1) := by decide +kernel
theorem dX6_isFramedSix_5 : decode cX6_isFramedSix 5 = .ok (.iload_n 1, 1) := by decide +kernel
theorem dX6_isFramedSix_6 : decode cX6_isFramedSix 6 = .ok (.bipush 40, 2) := by decide +kernel
theorem dX6_isFramedSix_8 : decode cX6_isFramedSix 8 = .ok (.if_icmp .lt 31, 3) := by decide +kernel
theorem dX6_isFramedSix_11 : decode cX6_isFramedSix 11 = .ok (.aload_n 0, 1) := by decide +kernel
theorem dX6_isFramedSix_12 : decode cX6_isFramedSix 12 = .ok (.iconst 0, 1) := by decide +kernel
theorem dX6_isFramedSix_13 : decode cX6_isFramedSix 13 = .ok (.invokevirtual 24, 3) := by decide +kernel
theorem dX6_isFramedSix_16 : decode cX6_isFramedSix 16 = .ok (.iconst 4, 1) := by decide +kernel
theorem dX6_isFramedSix_17 : decode cX6_isFramedSix 17 = .ok (.iushr, 1) := by decide +kernel
theorem dX6_isFramedSix_18 : decode cX6_isFramedSix 18 = .ok (.bipush 6, 2) := by decide +kernel
theorem dX6_isFramedSix_20 : decode cX6_isFramedSix 20 = .ok (.if_icmp .ne 19, 3) := by decide +kernel
theorem dX6_isFramedSix_23 : decode cX6_isFramedSix 23 = .ok (.aload_n 0, 1) := by decide +kernel
theorem dX6_isFramedSix_24 : decode cX6_isFramedSix 24 = .ok (.iconst 4, 1) := by decide +kernel
theorem dX6_isFramedSix_25 : decode cX6_isFramedSix 25 = .ok (.invokevirtual 50, 3) := by decide +kernel
theorem dX6_isFramedSix_28 : decode cX6_isFramedSix 28 = .ok (.iload_n 1, 1) := by decide +kernel
theorem dX6_isFramedSix_29 : decode cX6_isFramedSix 29 = .ok (.bipush 40, 2) := by decide +kernel
theorem dX6_isFramedSix_31 : decode cX6_isFramedSix 31 = .ok (.isub, 1) := by decide +kernel
theorem dX6_isFramedSix_32 : decode cX6_isFramedSix 32 = .ok (.if_icmp .ne 7, 3) := by decide +kernel
theorem dX6_isFramedSix_35 : decode cX6_isFramedSix 35 = .ok (.iconst 1, 1) := by decide +kernel
theorem dX6_isFramedSix_36 : decode cX6_isFramedSix 36 = .ok (.goto 4, 3) := by decide +kernel
theorem dX6_isFramedSix_39 : decode cX6_isFramedSix 39 = .ok (.iconst 0, 1) := by decide +kernel
theorem dX6_isFramedSix_40 : decode cX6_isFramedSix 40 = .ok (.ireturn, 1) := by decide +kernel
theorem yv_X6_isFramedSix : YS yX6_isFramedSix cX6_isFramedSix 2 (some .boolean) 1 := ⟨kw2_11, kw1_11, kw2_12, by decide +kernel⟩
set_option maxHeartbeats 4000000 in
set_option maxRecDepth 100000 in
theorem c_X6_isFramedSix {l : Launch} {D : va_G} {cy : Nat → ClassId} {ws : va_W} {b n : Nat} {f : Nat → UInt8} (hB : PK cy ws b f n) : RO l yX6_isFramedSix cX6_isFramedSix 2 (some .boolean) 2 47 [.ref b] D cy ws (.int (bI (tg_fr6 (tg_rd f n) n))) := by
  refine ROz (by decide) (lv0 := [(0, .ref b)]) rfl (Nat.le_of_ble_eq_true rfl) ?_
  intro p e s m args below meth c ls Q S hP hK hend hl
  have hx := S.1
  have hb := S.2.1
  have hown : s.vm.findClass RX6 = some m.cls := S.2.2.2.1
  have ht : ∀ w ∈ lw_g, w.before args s = true := fun w h => S.2.2.2.2 w (List.mem_cons_of_mem _ h)
  obtain ⟨kb, ka, ar, N, hb0, ha0, hnN, hN⟩ := id hB
  refine lv_aload_n hx hb dX6_isFramedSix_0 rfl (lv_at hl 0 rfl) ?_
  refine ro_V S (c_X1_length hB) kw2_13 yv_X1_length ⟨Nat.le_of_ble_eq_true rfl, Nat.le_of_ble_eq_true rfl⟩ hK hP (va_recv hK hP (ci := 2) (q0 := kb) rfl hb0) rfl hl.1 rfl (Nat.le_of_ble_eq_true rfl) dX6_isFramedSix_1 ⟨Nat.le_refl _, Nat.le_refl _⟩ ?_
  refine lv_istore_n (lv' := [(1, .int (nI n)), (0, .ref b)]) hx hb dX6_isFramedSix_4 rfl hl (by decide) rfl (fun ls hl => ?_)
  refine lv_iload_n hx hb dX6_isFramedSix_5 rfl (lv_at hl 0 rfl) ?_
  refine nv_bipush (k := 40) hx hb dX6_isFramedSix_6 (by decide) ?_
  refine nv_icmp_lt (tgt := 39) hx hb dX6_isFramedSix_8 (by decide) (by omega) (by omega) (fun h8 => ?_) (fun h8 => ?_)
  · skip
    refine nv_iconst (k := 0) hx hb dX6_isFramedSix_39 rfl ?_
    exact hend ((bI_f (by simp only [tg_fr6]; exact decide_eq_false (by omega)))) dX6_isFramedSix_40
  refine lv_aload_n hx hb dX6_isFramedSix_11 rfl (lv_at hl 1 rfl) ?_
  refine nv_iconst (k := 0) hx hb dX6_isFramedSix_12 rfl ?_
  refine ro_V S (c_X1_octet hB (k := 0) (by omega)) kw2_14 yv_X1_octet ⟨Nat.le_of_ble_eq_true rfl, Nat.le_of_ble_eq_true rfl⟩ hK hP (va_recv hK hP (ci := 2) (q0 := kb) rfl hb0) rfl hl.1 rfl (Nat.le_of_ble_eq_true rfl) dX6_isFramedSix_13 ⟨Nat.le_refl _, Nat.le_refl _⟩ ?_
  have hq13 := tg_rd_lt f n 0
  refine nv_iconst (k := 4) hx hb dX6_isFramedSix_16 rfl ?_
  refine nv_iushr hx hb (by omega) (by omega) dX6_isFramedSix_17 ?_
  refine nv_bipush (k := 6) hx hb dX6_isFramedSix_18 (by decide) ?_
  refine nv_icmp_ne (tgt := 39) hx hb dX6_isFramedSix_20 (by decide) (by omega) (by omega) (fun h20 => ?_) (fun h20 => ?_)
  · skip
    refine nv_iconst (k := 0) hx hb dX6_isFramedSix_39 rfl ?_
    exact hend ((bI_f (by simp only [tg_fr6]; exact decide_eq_false (by omega)))) dX6_isFramedSix_40
  refine lv_aload_n hx hb dX6_isFramedSix_23 rfl (lv_at hl 1 rfl) ?_
  refine nv_iconst (k := 4) hx hb dX6_isFramedSix_24 rfl ?_
  refine ro_V S (c_X1_pair hB (a := 4) (by omega)) kw2_18 yv_X1_pair ⟨Nat.le_of_ble_eq_true rfl, Nat.le_of_ble_eq_true rfl⟩ hK hP (va_recv hK hP (ci := 2) (q0 := kb) rfl hb0) rfl hl.1 rfl (Nat.le_of_ble_eq_true rfl) dX6_isFramedSix_25 ⟨Nat.le_refl _, Nat.le_refl _⟩ ?_
  have hq25 := tg_pr_lt f n 4
  refine lv_iload_n hx hb dX6_isFramedSix_28 rfl (lv_at hl 0 rfl) ?_
  refine nv_bipush (k := 40) hx hb dX6_isFramedSix_29 (by decide) ?_
  refine nv_isub hx hb (by omega) dX6_isFramedSix_31 ?_
  refine nv_icmp_ne (tgt := 39) hx hb dX6_isFramedSix_32 (by decide) (by omega) (by omega) (fun h32 => ?_) (fun h32 => ?_)
  · skip
    refine nv_iconst (k := 0) hx hb dX6_isFramedSix_39 rfl ?_
    exact hend ((bI_f (by simp only [tg_fr6]; exact decide_eq_false (by omega)))) dX6_isFramedSix_40
  refine nv_iconst (k := 1) hx hb dX6_isFramedSix_35 rfl ?_
  refine lv_goto (tgt := 40) hx hb dX6_isFramedSix_36 (by decide) ?_
  exact hend ((bI_t (by simp only [tg_fr6]; exact decide_eq_true (by omega)))) dX6_isFramedSix_40
theorem dX6_isEchoSix_0 : decode cX6_isEchoSix 0 = .ok (.aload_n 0, 1) := by decide +kernel
theorem dX6_isEchoSix_1 : decode cX6_isEchoSix 1 = .ok (.bipush 40, 2) := by decide +kernel
theorem dX6_isEchoSix_3 : decode cX6_isEchoSix 3 = .ok (.invokevirtual 24, 3) := by decide +kernel
theorem dX6_isEchoSix_6 : decode cX6_isEchoSix 6 = .ok (.istore_n 1, 1) := by decide +kernel
theorem dX6_isEchoSix_7 : decode cX6_isEchoSix 7 = .ok (.aload_n 0, 1) := by decide +kernel
theorem dX6_isEchoSix_8 : decode cX6_isEchoSix 8 = .ok (.bipush 40, 2) := by decide +kernel
theorem dX6_isEchoSix_10 : decode cX6_isEchoSix 10 = .ok (.invokestatic 64, 3) := by decide +kernel
theorem dX6_isEchoSix_13 : decode cX6_isEchoSix 13 = .ok (.ifCond .eq 21, 3) := by decide +kernel
theorem dX6_isEchoSix_16 : decode cX6_isEchoSix 16 = .ok (.iload_n 1, 1) := by decide +kernel
theorem dX6_isEchoSix_17 : decode cX6_isEchoSix 17 = .ok (.sipush 128, 3) := by decide +kernel
theorem dX6_isEchoSix_20 : decode cX6_isEchoSix 20 = .ok (.if_icmp .eq 10, 3) := by decide +kernel
theorem dX6_isEchoSix_23 : decode cX6_isEchoSix 23 = .ok (.iload_n 1, 1) := by decide +kernel
theorem dX6_isEchoSix_24 : decode cX6_isEchoSix 24 = .ok (.sipush 129, 3) := by decide +kernel
theorem dX6_isEchoSix_27 : decode cX6_isEchoSix 27 = .ok (.if_icmp .ne 7, 3) := by decide +kernel
theorem dX6_isEchoSix_30 : decode cX6_isEchoSix 30 = .ok (.iconst 1, 1) := by decide +kernel
theorem dX6_isEchoSix_31 : decode cX6_isEchoSix 31 = .ok (.goto 4, 3) := by decide +kernel
theorem dX6_isEchoSix_34 : decode cX6_isEchoSix 34 = .ok (.iconst 0, 1) := by decide +kernel
theorem dX6_isEchoSix_35 : decode cX6_isEchoSix 35 = .ok (.ireturn, 1) := by decide +kernel
theorem yv_X6_isEchoSix : YS yX6_isEchoSix cX6_isEchoSix 2 (some .boolean) 1 := ⟨kw2_39, kw1_11, kw2_40, by decide +kernel⟩
set_option maxHeartbeats 4000000 in
set_option maxRecDepth 100000 in
theorem c_X6_isEchoSix {l : Launch} {D : va_G} {cy : Nat → ClassId} {ws : va_W} {b n : Nat} {f : Nat → UInt8} (hB : PK cy ws b f n) (hn40 : 40 ≤ n) : RO l yX6_isEchoSix cX6_isEchoSix 2 (some .boolean) 2 41 [.ref b] D cy ws (.int (bI (tg_echo6 (tg_rd f n) n))) := by
  refine ROz (by decide) (lv0 := [(0, .ref b)]) rfl (Nat.le_of_ble_eq_true rfl) ?_
  intro p e s m args below meth c ls Q S hP hK hend hl
  have hx := S.1
  have hb := S.2.1
  have hown : s.vm.findClass RX6 = some m.cls := S.2.2.2.1
  have ht : ∀ w ∈ lw_g, w.before args s = true := fun w h => S.2.2.2.2 w (List.mem_cons_of_mem _ h)
  obtain ⟨kb, ka, ar, N, hb0, ha0, hnN, hN⟩ := id hB
  refine lv_aload_n hx hb dX6_isEchoSix_0 rfl (lv_at hl 0 rfl) ?_
  refine nv_bipush (k := 40) hx hb dX6_isEchoSix_1 (by decide) ?_
  refine ro_V S (c_X1_octet hB (k := 40) (by omega)) kw2_14 yv_X1_octet ⟨Nat.le_of_ble_eq_true rfl, Nat.le_of_ble_eq_true rfl⟩ hK hP (va_recv hK hP (ci := 2) (q0 := kb) rfl hb0) rfl hl.1 rfl (Nat.le_of_ble_eq_true rfl) dX6_isEchoSix_3 ⟨Nat.le_refl _, Nat.le_refl _⟩ ?_
  have hq3 := tg_rd_lt f n 40
  refine lv_istore_n (lv' := [(1, .int (nI (tg_rd f n 40))), (0, .ref b)]) hx hb dX6_isEchoSix_6 rfl hl (by decide) rfl (fun ls hl => ?_)
  refine lv_aload_n hx hb dX6_isEchoSix_7 rfl (lv_at hl 1 rfl) ?_
  refine nv_bipush (k := 40) hx hb dX6_isEchoSix_8 (by decide) ?_
  refine ro_S S (c_X4_isLongEnoughIcmp hB (hd := 40) (by omega) (by omega)) kw2_41 yv_X4_isLongEnoughIcmp ⟨Nat.le_of_ble_eq_true rfl, Nat.le_of_ble_eq_true rfl⟩ hK hP rfl hl.1 rfl (Nat.le_of_ble_eq_true rfl) dX6_isEchoSix_10 ⟨Nat.le_refl _, Nat.le_refl _⟩ ?_
  refine nv_if_eqb (tgt := 34) hx hb dX6_isEchoSix_13 (by decide) (fun h13 => ?_) (fun h13 => ?_)
  · skip
    refine nv_iconst (k := 0) hx hb dX6_isEchoSix_34 rfl ?_
    exact hend ((bI_f (by (try simp only [tg_icmp, decide_eq_true_eq, decide_eq_false_iff_not] at *); simp only [tg_echo6]; exact decide_eq_false (by omega)))) dX6_isEchoSix_35
  refine lv_iload_n hx hb dX6_isEchoSix_16 rfl (lv_at hl 0 rfl) ?_
  refine nv_sipush (k := 128) hx hb dX6_isEchoSix_17 (by decide) ?_
  refine nv_icmp_eq (tgt := 30) hx hb dX6_isEchoSix_20 (by decide) (by omega) (by omega) (fun h20 => ?_) (fun h20 => ?_)
  · skip
    refine nv_iconst (k := 1) hx hb dX6_isEchoSix_30 rfl ?_
    refine lv_goto (tgt := 35) hx hb dX6_isEchoSix_31 (by decide) ?_
    exact hend ((bI_t (by (try simp only [tg_icmp, decide_eq_true_eq, decide_eq_false_iff_not] at *); simp only [tg_echo6]; exact decide_eq_true (by omega)))) dX6_isEchoSix_35
  refine lv_iload_n hx hb dX6_isEchoSix_23 rfl (lv_at hl 0 rfl) ?_
  refine nv_sipush (k := 129) hx hb dX6_isEchoSix_24 (by decide) ?_
  refine nv_icmp_ne (tgt := 34) hx hb dX6_isEchoSix_27 (by decide) (by omega) (by omega) (fun h27 => ?_) (fun h27 => ?_)
  · skip
    refine nv_iconst (k := 0) hx hb dX6_isEchoSix_34 rfl ?_
    exact hend ((bI_f (by (try simp only [tg_icmp, decide_eq_true_eq, decide_eq_false_iff_not] at *); simp only [tg_echo6]; exact decide_eq_false (by omega)))) dX6_isEchoSix_35
  refine nv_iconst (k := 1) hx hb dX6_isEchoSix_30 rfl ?_
  refine lv_goto (tgt := 35) hx hb dX6_isEchoSix_31 (by decide) ?_
  exact hend ((bI_t (by (try simp only [tg_icmp, decide_eq_true_eq, decide_eq_false_iff_not] at *); simp only [tg_echo6]; exact decide_eq_true (by omega)))) dX6_isEchoSix_35
theorem dX6_isKnownSix_0 : decode cX6_isKnownSix 0 = .ok (.aload_n 0, 1) := by decide +kernel
theorem dX6_isKnownSix_1 : decode cX6_isKnownSix 1 = .ok (.bipush 6, 2) := by decide +kernel
theorem dX6_isKnownSix_3 : decode cX6_isKnownSix 3 = .ok (.invokevirtual 24, 3) := by decide +kernel
theorem dX6_isKnownSix_6 : decode cX6_isKnownSix 6 = .ok (.lookupswitch 53 #[(6, 34), (17, 41), (58, 48)], 34) := by decide +kernel
theorem dX6_isKnownSix_40 : decode cX6_isKnownSix 40 = .ok (.aload_n 0, 1) := by decide +kernel
theorem dX6_isKnownSix_41 : decode cX6_isKnownSix 41 = .ok (.bipush 40, 2) := by decide +kernel
theorem dX6_isKnownSix_43 : decode cX6_isKnownSix 43 = .ok (.invokestatic 53, 3) := by decide +kernel
theorem dX6_isKnownSix_46 : decode cX6_isKnownSix 46 = .ok (.ireturn, 1) := by decide +kernel
theorem dX6_isKnownSix_47 : decode cX6_isKnownSix 47 = .ok (.aload_n 0, 1) := by decide +kernel
theorem dX6_isKnownSix_48 : decode cX6_isKnownSix 48 = .ok (.bipush 40, 2) := by decide +kernel
theorem dX6_isKnownSix_50 : decode cX6_isKnownSix 50 = .ok (.invokestatic 58, 3) := by decide +kernel
theorem dX6_isKnownSix_53 : decode cX6_isKnownSix 53 = .ok (.ireturn, 1) := by decide +kernel
theorem dX6_isKnownSix_54 : decode cX6_isKnownSix 54 = .ok (.aload_n 0, 1) := by decide +kernel
theorem dX6_isKnownSix_55 : decode cX6_isKnownSix 55 = .ok (.invokestatic 61, 3) := by decide +kernel
theorem dX6_isKnownSix_58 : decode cX6_isKnownSix 58 = .ok (.ireturn, 1) := by decide +kernel
theorem dX6_isKnownSix_59 : decode cX6_isKnownSix 59 = .ok (.iconst 0, 1) := by decide +kernel
theorem dX6_isKnownSix_60 : decode cX6_isKnownSix 60 = .ok (.ireturn, 1) := by decide +kernel
theorem yv_X6_isKnownSix : YS yX6_isKnownSix cX6_isKnownSix 1 (some .boolean) 1 := ⟨kw2_27, kw1_11, kw2_28, by decide +kernel⟩
set_option maxHeartbeats 4000000 in
set_option maxRecDepth 100000 in
theorem c_X6_isKnownSix {l : Launch} {D : va_G} {cy : Nat → ClassId} {ws : va_W} {b n : Nat} {f : Nat → UInt8} (hB : PK cy ws b f n) (hn40 : 40 ≤ n) : RO l yX6_isKnownSix cX6_isKnownSix 1 (some .boolean) 3 69 [.ref b] D cy ws (.int (bI (tg_kn6 (tg_rd f n) n))) := by
  refine ROz (by decide) (lv0 := [(0, .ref b)]) rfl (Nat.le_of_ble_eq_true rfl) ?_
  intro p e s m args below meth c ls Q S hP hK hend hl
  have hx := S.1
  have hb := S.2.1
  have hown : s.vm.findClass RX6 = some m.cls := S.2.2.2.1
  have ht : ∀ w ∈ lw_g, w.before args s = true := fun w h => S.2.2.2.2 w (List.mem_cons_of_mem _ h)
  obtain ⟨kb, ka, ar, N, hb0, ha0, hnN, hN⟩ := id hB
  have hr6 := tg_rd_lt f n 6
  refine lv_aload_n hx hb dX6_isKnownSix_0 rfl (lv_at hl 0 rfl) ?_
  refine nv_bipush (k := 6) hx hb dX6_isKnownSix_1 (by decide) ?_
  refine ro_V S (c_X1_octet hB (k := 6) (by omega)) kw2_14 yv_X1_octet ⟨Nat.le_of_ble_eq_true rfl, Nat.le_of_ble_eq_true rfl⟩ hK hP (va_recv hK hP (ci := 2) (q0 := kb) rfl hb0) rfl hl.1 rfl (Nat.le_of_ble_eq_true rfl) dX6_isKnownSix_3 ⟨Nat.le_refl _, Nat.le_refl _⟩ ?_
  have hq3 := tg_rd_lt f n 6
  by_cases hs6_0 : tg_rd f n 6 = 6
  · refine lv_lookup (off := 34) (tgt := 40) hx hb dX6_isKnownSix_6 (by decide) (by rw [hs6_0]; decide) (by decide) ?_
    refine lv_aload_n hx hb dX6_isKnownSix_40 rfl (lv_at hl 0 rfl) ?_
    refine nv_bipush (k := 40) hx hb dX6_isKnownSix_41 (by decide) ?_
    refine ro_S S (c_X4_isSoundTcp hB (hd := 40) (by omega) (by omega)) kw2_29 yv_X4_isSoundTcp ⟨Nat.le_of_ble_eq_true rfl, Nat.le_of_ble_eq_true rfl⟩ hK hP rfl hl.1 rfl (Nat.le_of_ble_eq_true rfl) dX6_isKnownSix_43 ⟨Nat.le_refl _, Nat.le_refl _⟩ ?_
    exact hend ((congrArg bI (by simp only [tg_kn6]; first | rw [if_pos (by omega)] | rw [if_neg (by omega), if_pos (by omega)] | rw [if_neg (by omega), if_neg (by omega), if_pos (by omega)]))) dX6_isKnownSix_46
  by_cases hs6_1 : tg_rd f n 6 = 17
  · refine lv_lookup (off := 41) (tgt := 47) hx hb dX6_isKnownSix_6 (by decide) (by rw [hs6_1]; decide) (by decide) ?_
    refine lv_aload_n hx hb dX6_isKnownSix_47 rfl (lv_at hl 0 rfl) ?_
    refine nv_bipush (k := 40) hx hb dX6_isKnownSix_48 (by decide) ?_
    refine ro_S S (c_X4_isSoundUdp hB (hd := 40) (by omega) (by omega)) kw2_34 yv_X4_isSoundUdp ⟨Nat.le_of_ble_eq_true rfl, Nat.le_of_ble_eq_true rfl⟩ hK hP rfl hl.1 rfl (Nat.le_of_ble_eq_true rfl) dX6_isKnownSix_50 ⟨Nat.le_refl _, Nat.le_refl _⟩ ?_
    exact hend ((congrArg bI (by simp only [tg_kn6]; first | rw [if_pos (by omega)] | rw [if_neg (by omega), if_pos (by omega)] | rw [if_neg (by omega), if_neg (by omega), if_pos (by omega)]))) dX6_isKnownSix_53
  by_cases hs6_2 : tg_rd f n 6 = 58
  · refine lv_lookup (off := 48) (tgt := 54) hx hb dX6_isKnownSix_6 (by decide) (by rw [hs6_2]; decide) (by decide) ?_
    refine lv_aload_n hx hb dX6_isKnownSix_54 rfl (lv_at hl 0 rfl) ?_
    refine ro_S S (c_X6_isEchoSix hB (by omega)) kw2_38 yv_X6_isEchoSix ⟨Nat.le_of_ble_eq_true rfl, Nat.le_of_ble_eq_true rfl⟩ hK hP rfl hl.1 rfl (Nat.le_of_ble_eq_true rfl) dX6_isKnownSix_55 ⟨Nat.le_refl _, Nat.le_refl _⟩ ?_
    exact hend ((congrArg bI (by simp only [tg_kn6]; first | rw [if_pos (by omega)] | rw [if_neg (by omega), if_pos (by omega)] | rw [if_neg (by omega), if_neg (by omega), if_pos (by omega)]))) dX6_isKnownSix_58
  refine lv_lookup (off := 53) (tgt := 59) hx hb dX6_isKnownSix_6 (by decide) (by rw [nI_toInt (by omega)]; exact (sw_ne (k := 6) hs6_0).trans ((sw_ne (k := 17) hs6_1).trans ((sw_ne (k := 58) hs6_2).trans (rfl)))) (by decide) ?_
  refine nv_iconst (k := 0) hx hb dX6_isKnownSix_59 rfl ?_
  exact hend ((bI_f (by simp only [tg_kn6]; rw [if_neg (by omega), if_neg (by omega), if_neg (by omega)]))) dX6_isKnownSix_60
theorem dX6_isPlacedSix_0 : decode cX6_isPlacedSix 0 = .ok (.aload_n 1, 1) := by decide +kernel
theorem dX6_isPlacedSix_1 : decode cX6_isPlacedSix 1 = .ok (.invokevirtual 67, 3) := by decide +kernel
theorem dX6_isPlacedSix_4 : decode cX6_isPlacedSix 4 = .ok (.ifCond .eq 10, 3) := by decide +kernel
theorem dX6_isPlacedSix_7 : decode cX6_isPlacedSix 7 = .ok (.aload_n 2, 1) := by decide +kernel
theorem dX6_isPlacedSix_8 : decode cX6_isPlacedSix 8 = .ok (.invokevirtual 73, 3) := by decide +kernel
theorem dX6_isPlacedSix_11 : decode cX6_isPlacedSix 11 = .ok (.ifCond .ne 5, 3) := by decide +kernel
theorem dX6_isPlacedSix_14 : decode cX6_isPlacedSix 14 = .ok (.iconst 0, 1) := by decide +kernel
theorem dX6_isPlacedSix_15 : decode cX6_isPlacedSix 15 = .ok (.ireturn, 1) := by decide +kernel
theorem dX6_isPlacedSix_16 : decode cX6_isPlacedSix 16 = .ok (.aload_n 1, 1) := by decide +kernel
theorem dX6_isPlacedSix_17 : decode cX6_isPlacedSix 17 = .ok (.aload_n 0, 1) := by decide +kernel
theorem dX6_isPlacedSix_18 : decode cX6_isPlacedSix 18 = .ok (.bipush 24, 2) := by decide +kernel
theorem dX6_isPlacedSix_20 : decode cX6_isPlacedSix 20 = .ok (.invokevirtual 78, 3) := by decide +kernel
theorem dX6_isPlacedSix_23 : decode cX6_isPlacedSix 23 = .ok (.aload_n 0, 1) := by decide +kernel
theorem dX6_isPlacedSix_24 : decode cX6_isPlacedSix 24 = .ok (.bipush 32, 2) := by decide +kernel
theorem dX6_isPlacedSix_26 : decode cX6_isPlacedSix 26 = .ok (.invokevirtual 78, 3) := by decide +kernel
theorem dX6_isPlacedSix_29 : decode cX6_isPlacedSix 29 = .ok (.invokevirtual 82, 3) := by decide +kernel
theorem dX6_isPlacedSix_32 : decode cX6_isPlacedSix 32 = .ok (.lstore_n 3, 1) := by decide +kernel
theorem dX6_isPlacedSix_33 : decode cX6_isPlacedSix 33 = .ok (.lload_n 3, 1) := by decide +kernel
theorem dX6_isPlacedSix_34 : decode cX6_isPlacedSix 34 = .ok (.lconst 0, 1) := by decide +kernel
theorem dX6_isPlacedSix_35 : decode cX6_isPlacedSix 35 = .ok (.lcmp, 1) := by decide +kernel
theorem dX6_isPlacedSix_36 : decode cX6_isPlacedSix 36 = .ok (.ifCond .lt 11, 3) := by decide +kernel
theorem dX6_isPlacedSix_39 : decode cX6_isPlacedSix 39 = .ok (.lload_n 3, 1) := by decide +kernel
theorem dX6_isPlacedSix_40 : decode cX6_isPlacedSix 40 = .ok (.l2i, 1) := by decide +kernel
theorem dX6_isPlacedSix_41 : decode cX6_isPlacedSix 41 = .ok (.invokestatic 86, 3) := by decide +kernel
theorem dX6_isPlacedSix_44 : decode cX6_isPlacedSix 44 = .ok (.ifCond .eq 5, 3) := by decide +kernel
theorem dX6_isPlacedSix_47 : decode cX6_isPlacedSix 47 = .ok (.iconst 0, 1) := by decide +kernel
theorem dX6_isPlacedSix_48 : decode cX6_isPlacedSix 48 = .ok (.ireturn, 1) := by decide +kernel
theorem dX6_isPlacedSix_49 : decode cX6_isPlacedSix 49 = .ok (.aload_n 1, 1) := by decide +kernel
theorem dX6_isPlacedSix_50 : decode cX6_isPlacedSix 50 = .ok (.aload_n 0, 1) := by decide +kernel
theorem dX6_isPlacedSix_51 : decode cX6_isPlacedSix 51 = .ok (.bipush 8, 2) := by decide +kernel
theorem dX6_isPlacedSix_53 : decode cX6_isPlacedSix 53 = .ok (.invokevirtual 78, 3) := by decide +kernel
theorem dX6_isPlacedSix_56 : decode cX6_isPlacedSix 56 = .ok (.aload_n 0, 1) := by decide +kernel
theorem dX6_isPlacedSix_57 : decode cX6_isPlacedSix 57 = .ok (.bipush 16, 2) := by decide +kernel
theorem dX6_isPlacedSix_59 : decode cX6_isPlacedSix 59 = .ok (.invokevirtual 78, 3) := by decide +kernel
theorem dX6_isPlacedSix_62 : decode cX6_isPlacedSix 62 = .ok (.invokevirtual 90, 3) := by decide +kernel
theorem dX6_isPlacedSix_65 : decode cX6_isPlacedSix 65 = .ok (.ifCond .ne 7, 3) := by decide +kernel
theorem dX6_isPlacedSix_68 : decode cX6_isPlacedSix 68 = .ok (.iconst 1, 1) := by decide +kernel
theorem dX6_isPlacedSix_69 : decode cX6_isPlacedSix 69 = .ok (.goto 4, 3) := by decide +kernel
theorem dX6_isPlacedSix_72 : decode cX6_isPlacedSix 72 = .ok (.iconst 0, 1) := by decide +kernel
theorem dX6_isPlacedSix_73 : decode cX6_isPlacedSix 73 = .ok (.ireturn, 1) := by decide +kernel
theorem yv_X6_isPlacedSix : YS yX6_isPlacedSix cX6_isPlacedSix 5 (some .boolean) 3 := ⟨kw2_67, kw1_11, kw2_68, by decide +kernel⟩
set_option maxHeartbeats 4000000 in
set_option maxRecDepth 100000 in
theorem c_X6_isPlacedSix {l : Launch} {D : va_G} {cy : Nat → ClassId} {ws : va_W} {b n : Nat} {f : Nat → UInt8} (hB : PK cy ws b f n) {st bits F G : Nat} (hST : STP ws st bits F G) {po u : Nat} {g : Nat → Int32} (hPL : PLP cy ws po g u) : RO l yX6_isPlacedSix cX6_isPlacedSix 5 (some .boolean) 3 72 [.ref b, .ref st, .ref po] D cy ws (.int (bI (tg_pl6 (tg_rd f n) bits F G u))) := by
  refine ROz (by decide) (lv0 := [(0, .ref b), (1, .ref st), (2, .ref po)]) rfl (Nat.le_of_ble_eq_true rfl) ?_
  intro p e s m args below meth c ls Q S hP hK hend hl
  have hx := S.1
  have hb := S.2.1
  have hown : s.vm.findClass RX6 = some m.cls := S.2.2.2.1
  have ht : ∀ w ∈ lw_g, w.before args s = true := fun w h => S.2.2.2.2 w (List.mem_cons_of_mem _ h)
  obtain ⟨kb, ka, ar, N, hb0, ha0, hnN, hN⟩ := id hB
  obtain ⟨ks, hs0, hsi⟩ := id hST
  have hbits := hsi.b
  have hF := hsi.F
  have hG := hsi.G
  obtain ⟨kp, kq, pa, hp0, hq0, hu⟩ := id hPL
  refine lv_aload_n hx hb dX6_isPlacedSix_0 rfl (lv_at hl 1 rfl) ?_
  refine ro_V S (c_X8_isSet hST) kw2_69 yv_X8_isSet ⟨Nat.le_of_ble_eq_true rfl, Nat.le_of_ble_eq_true rfl⟩ hK hP (va_recv hK hP (ci := 6) (q0 := ks) rfl hs0) rfl hl.1 rfl (Nat.le_of_ble_eq_true rfl) dX6_isPlacedSix_1 ⟨Nat.le_refl _, Nat.le_refl _⟩ ?_
  refine nv_if_eqb (tgt := 14) hx hb dX6_isPlacedSix_4 (by decide) (fun h4 => ?_) (fun h4 => ?_)
  · skip
    refine nv_iconst (k := 0) hx hb dX6_isPlacedSix_14 rfl ?_
    exact hend ((bI_f (by simp only [tg_pl6, decide_eq_true_eq, decide_eq_false_iff_not] at *; first | (simp_all; done) | (simp [*]; done) | (have hz := (dr_neg hbits).mp (by rw [← ex_1]; exact h35); simp [hz])))) dX6_isPlacedSix_15
  refine lv_aload_n hx hb dX6_isPlacedSix_7 rfl (lv_at hl 2 rfl) ?_
  refine ro_V S (c_X5_size hPL) kw2_73 yv_X5_size ⟨Nat.le_of_ble_eq_true rfl, Nat.le_of_ble_eq_true rfl⟩ hK hP (va_recv hK hP (ci := 4) (q0 := kp) rfl hp0) rfl hl.1 rfl (Nat.le_of_ble_eq_true rfl) dX6_isPlacedSix_8 ⟨Nat.le_refl _, Nat.le_refl _⟩ ?_
  refine nv_if_ne (tgt := 16) hx hb dX6_isPlacedSix_11 (by decide) (by omega) (fun h11 => ?_) (fun h11 => ?_)
  · skip
    refine lv_aload_n hx hb dX6_isPlacedSix_16 rfl (lv_at hl 1 rfl) ?_
    refine lv_aload_n hx hb dX6_isPlacedSix_17 rfl (lv_at hl 0 rfl) ?_
    refine nv_bipush (k := 24) hx hb dX6_isPlacedSix_18 (by decide) ?_
    refine ro_V S (c_X1_eight hB (a := 24) (by omega)) kw2_77 yv_X1_eight ⟨Nat.le_of_ble_eq_true rfl, Nat.le_of_ble_eq_true rfl⟩ hK hP (va_recv hK hP (ci := 2) (q0 := kb) rfl hb0) rfl hl.1 rfl (Nat.le_of_ble_eq_true rfl) dX6_isPlacedSix_20 ⟨Nat.le_refl _, Nat.le_refl _⟩ ?_
    have hq20 := tg_ei_lt f n 24
    refine lv_aload_n hx hb dX6_isPlacedSix_23 rfl (lv_at hl 0 rfl) ?_
    refine nv_bipush (k := 32) hx hb dX6_isPlacedSix_24 (by decide) ?_
    refine ro_V S (c_X1_eight hB (a := 32) (by omega)) kw2_77 yv_X1_eight ⟨Nat.le_of_ble_eq_true rfl, Nat.le_of_ble_eq_true rfl⟩ hK hP (va_recv hK hP (ci := 2) (q0 := kb) rfl hb0) rfl hl.1 rfl (Nat.le_of_ble_eq_true rfl) dX6_isPlacedSix_26 ⟨Nat.le_refl _, Nat.le_refl _⟩ ?_
    have hq26 := tg_ei_lt f n 32
    refine ro_V S (c_X8_draw hST (hi := tg_ei (tg_rd f n) 24) (lo := tg_ei (tg_rd f n) 32) (by omega) (by omega)) kw2_81 yv_X8_draw ⟨Nat.le_of_ble_eq_true rfl, Nat.le_of_ble_eq_true rfl⟩ hK hP (va_recv hK hP (ci := 6) (q0 := ks) rfl hs0) rfl hl.1 rfl (Nat.le_of_ble_eq_true rfl) dX6_isPlacedSix_29 ⟨Nat.le_refl _, Nat.le_refl _⟩ ?_
    refine lv_topl (fun x_1 ex_1 => ?_)
    refine lv_lstore_n (lv' := [(3, .long x_1), (0, .ref b), (1, .ref st), (2, .ref po)]) hx hb dX6_isPlacedSix_32 rfl hl (by decide) rfl (fun ls hl => ?_)
    refine lv_lload_n hx hb dX6_isPlacedSix_33 rfl (lv_at hl 0 rfl) ?_
    refine lv_lconst (v := lN 0) hx hb dX6_isPlacedSix_34 (by decide) ?_
    refine nv_lcmp_lt (tgt := 47) hx hb dX6_isPlacedSix_35 dX6_isPlacedSix_36 (by decide) (fun h35 => ?_) (fun h35 => ?_)
    · skip
      refine nv_iconst (k := 0) hx hb dX6_isPlacedSix_47 rfl ?_
      exact hend ((bI_f (by simp only [tg_pl6, decide_eq_true_eq, decide_eq_false_iff_not] at *; first | (simp_all; done) | (simp [*]; done) | (have hz := (dr_neg hbits).mp (by rw [← ex_1]; exact h35); simp [hz])))) dX6_isPlacedSix_48
    have ho : tg_of bits F G (tg_ei (tg_rd f n) 24) (tg_ei (tg_rd f n) 32) = true := by have := mt (dr_neg hbits).mpr (by rw [← ex_1]; exact h35); simpa using this
    have hdl := tg_dr_lt (bits := bits) (hi := tg_ei (tg_rd f n) 24) (lo := tg_ei (tg_rd f n) 32) (by simp at h4; omega)
    have ex : x_1 = lN (tg_dr bits (tg_ei (tg_rd f n) 24) (tg_ei (tg_rd f n) 32)) := by rw [ex_1, tg_draw, if_pos ho]
    subst ex
    refine lv_lload_n hx hb dX6_isPlacedSix_39 rfl (lv_at hl 0 rfl) ?_
    refine nv_l2i hx hb dX6_isPlacedSix_40 ?_
    refine ro_S S (c_X5_isOdd (x := tg_dr bits (tg_ei (tg_rd f n) 24) (tg_ei (tg_rd f n) 32)) (by omega)) kw2_82 yv_X5_isOdd ⟨Nat.le_of_ble_eq_true rfl, Nat.le_of_ble_eq_true rfl⟩ hK hP rfl hl.1 rfl (Nat.le_of_ble_eq_true rfl) dX6_isPlacedSix_41 ⟨Nat.le_refl _, Nat.le_refl _⟩ ?_
    refine nv_if_eqb (tgt := 49) hx hb dX6_isPlacedSix_44 (by decide) (fun h44 => ?_) (fun h44 => ?_)
    · skip
      refine lv_aload_n hx hb dX6_isPlacedSix_49 rfl (lv_at hl 2 rfl) ?_
      refine lv_aload_n hx hb dX6_isPlacedSix_50 rfl (lv_at hl 1 rfl) ?_
      refine nv_bipush (k := 8) hx hb dX6_isPlacedSix_51 (by decide) ?_
      refine ro_V S (c_X1_eight hB (a := 8) (by omega)) kw2_77 yv_X1_eight ⟨Nat.le_of_ble_eq_true rfl, Nat.le_of_ble_eq_true rfl⟩ hK hP (va_recv hK hP (ci := 2) (q0 := kb) rfl hb0) rfl hl.1 rfl (Nat.le_of_ble_eq_true rfl) dX6_isPlacedSix_53 ⟨Nat.le_refl _, Nat.le_refl _⟩ ?_
      have hq53 := tg_ei_lt f n 8
      refine lv_aload_n hx hb dX6_isPlacedSix_56 rfl (lv_at hl 1 rfl) ?_
      refine nv_bipush (k := 16) hx hb dX6_isPlacedSix_57 (by decide) ?_
      refine ro_V S (c_X1_eight hB (a := 16) (by omega)) kw2_77 yv_X1_eight ⟨Nat.le_of_ble_eq_true rfl, Nat.le_of_ble_eq_true rfl⟩ hK hP (va_recv hK hP (ci := 2) (q0 := kb) rfl hb0) rfl hl.1 rfl (Nat.le_of_ble_eq_true rfl) dX6_isPlacedSix_59 ⟨Nat.le_refl _, Nat.le_refl _⟩ ?_
      have hq59 := tg_ei_lt f n 16
      refine ro_V S (c_X8_covers hST (hi := tg_ei (tg_rd f n) 8) (lo := tg_ei (tg_rd f n) 16) (by omega) (by omega)) kw2_83 yv_X8_covers ⟨Nat.le_of_ble_eq_true rfl, Nat.le_of_ble_eq_true rfl⟩ hK hP (va_recv hK hP (ci := 6) (q0 := ks) rfl hs0) rfl hl.1 rfl (Nat.le_of_ble_eq_true rfl) dX6_isPlacedSix_62 ⟨Nat.le_refl _, Nat.le_refl _⟩ ?_
      refine nv_if_neb (tgt := 72) hx hb dX6_isPlacedSix_65 (by decide) (fun h65 => ?_) (fun h65 => ?_)
      · skip
        refine nv_iconst (k := 0) hx hb dX6_isPlacedSix_72 rfl ?_
        exact hend ((bI_f (by simp only [tg_pl6, decide_eq_true_eq, decide_eq_false_iff_not] at *; first | (simp_all; done) | (simp [*]; done) | (have hz := (dr_neg hbits).mp (by rw [← ex_1]; exact h35); simp [hz])))) dX6_isPlacedSix_73
      refine nv_iconst (k := 1) hx hb dX6_isPlacedSix_68 rfl ?_
      refine lv_goto (tgt := 73) hx hb dX6_isPlacedSix_69 (by decide) ?_
      exact hend ((bI_t (by simp only [tg_pl6, decide_eq_true_eq, decide_eq_false_iff_not] at *; simp_all))) dX6_isPlacedSix_73
    refine nv_iconst (k := 0) hx hb dX6_isPlacedSix_47 rfl ?_
    exact hend ((bI_f (by simp only [tg_pl6, decide_eq_true_eq, decide_eq_false_iff_not] at *; first | (simp_all; done) | (simp [*]; done) | (have hz := (dr_neg hbits).mp (by rw [← ex_1]; exact h35); simp [hz])))) dX6_isPlacedSix_48
  refine nv_iconst (k := 0) hx hb dX6_isPlacedSix_14 rfl ?_
  exact hend ((bI_f (by simp only [tg_pl6, decide_eq_true_eq, decide_eq_false_iff_not] at *; first | (simp_all; done) | (simp [*]; done) | (have hz := (dr_neg hbits).mp (by rw [← ex_1]; exact h35); simp [hz])))) dX6_isPlacedSix_15
theorem dX6_faultFromInside_0 : decode cX6_faultFromInside 0 = .ok (.aload_n 0, 1) := by decide +kernel
theorem dX6_faultFromInside_1 : decode cX6_faultFromInside 1 = .ok (.invokestatic 9, 3) := by decide +kernel
theorem dX6_faultFromInside_4 : decode cX6_faultFromInside 4 = .ok (.ifCond .ne 6, 3) := by decide +kernel
theorem dX6_faultFromInside_7 : decode cX6_faultFromInside 7 = .ok (.bipush 10, 2) := by decide +kernel
theorem dX6_faultFromInside_9 : decode cX6_faultFromInside 9 = .ok (.ireturn, 1) := by decide +kernel
theorem dX6_faultFromInside_10 : decode cX6_faultFromInside 10 = .ok (.aload_n 0, 1) := by decide +kernel
theorem dX6_faultFromInside_11 : decode cX6_faultFromInside 11 = .ok (.invokestatic 15, 3) := by decide +kernel
theorem dX6_faultFromInside_14 : decode cX6_faultFromInside 14 = .ok (.ifCond .ne 6, 3) := by decide +kernel
theorem dX6_faultFromInside_17 : decode cX6_faultFromInside 17 = .ok (.bipush 11, 2) := by decide +kernel
theorem dX6_faultFromInside_19 : decode cX6_faultFromInside 19 = .ok (.ireturn, 1) := by decide +kernel
theorem dX6_faultFromInside_20 : decode cX6_faultFromInside 20 = .ok (.aload_n 0, 1) := by decide +kernel
theorem dX6_faultFromInside_21 : decode cX6_faultFromInside 21 = .ok (.bipush 40, 2) := by decide +kernel
theorem dX6_faultFromInside_23 : decode cX6_faultFromInside 23 = .ok (.invokestatic 18, 3) := by decide +kernel
theorem dX6_faultFromInside_26 : decode cX6_faultFromInside 26 = .ok (.ifCond .ne 6, 3) := by decide +kernel
theorem dX6_faultFromInside_29 : decode cX6_faultFromInside 29 = .ok (.bipush 12, 2) := by decide +kernel
theorem dX6_faultFromInside_31 : decode cX6_faultFromInside 31 = .ok (.ireturn, 1) := by decide +kernel
theorem dX6_faultFromInside_32 : decode cX6_faultFromInside 32 = .ok (.aload_n 0, 1) := by decide +kernel
theorem dX6_faultFromInside_33 : decode cX6_faultFromInside 33 = .ok (.bipush 7, 2) := by decide +kernel
theorem dX6_faultFromInside_35 : decode cX6_faultFromInside 35 = .ok (.invokevirtual 24, 3) := by decide +kernel
theorem dX6_faultFromInside_38 : decode cX6_faultFromInside 38 = .ok (.iconst 2, 1) := by decide +kernel
theorem dX6_faultFromInside_39 : decode cX6_faultFromInside 39 = .ok (.if_icmp .ge 6, 3) := by decide +kernel
theorem dX6_faultFromInside_42 : decode cX6_faultFromInside 42 = .ok (.bipush 13, 2) := by decide +kernel
theorem dX6_faultFromInside_44 : decode cX6_faultFromInside 44 = .ok (.ireturn, 1) := by decide +kernel
theorem dX6_faultFromInside_45 : decode cX6_faultFromInside 45 = .ok (.aload_n 0, 1) := by decide +kernel
theorem dX6_faultFromInside_46 : decode cX6_faultFromInside 46 = .ok (.aload_n 1, 1) := by decide +kernel
theorem dX6_faultFromInside_47 : decode cX6_faultFromInside 47 = .ok (.aload_n 2, 1) := by decide +kernel
theorem dX6_faultFromInside_48 : decode cX6_faultFromInside 48 = .ok (.invokestatic 30, 3) := by decide +kernel
theorem dX6_faultFromInside_51 : decode cX6_faultFromInside 51 = .ok (.ifCond .eq 7, 3) := by decide +kernel
theorem dX6_faultFromInside_54 : decode cX6_faultFromInside 54 = .ok (.iconst 0, 1) := by decide +kernel
theorem dX6_faultFromInside_55 : decode cX6_faultFromInside 55 = .ok (.goto 5, 3) := by decide +kernel
theorem dX6_faultFromInside_58 : decode cX6_faultFromInside 58 = .ok (.bipush 14, 2) := by decide +kernel
theorem dX6_faultFromInside_60 : decode cX6_faultFromInside 60 = .ok (.ireturn, 1) := by decide +kernel
theorem yv_X6_faultFromInside : YS yX6_faultFromInside cX6_faultFromInside 3 (some .int) 3 := ⟨kw2_8, kw1_11, kw2_9, by decide +kernel⟩
set_option maxHeartbeats 4000000 in
set_option maxRecDepth 100000 in
theorem c_X6_faultFromInside {l : Launch} {D : va_G} {cy : Nat → ClassId} {ws : va_W} {b n : Nat} {f : Nat → UInt8} (hB : PK cy ws b f n) {st bits F G : Nat} (hST : STP ws st bits F G) {po u : Nat} {g : Nat → Int32} (hPL : PLP cy ws po g u) : RO l yX6_faultFromInside cX6_faultFromInside 3 (some .int) 4 96 [.ref b, .ref st, .ref po] D cy ws (.int (nI (tg_in (tg_rd f n) n bits F G u))) := by
  refine ROi (by decide) (lv0 := [(0, .ref b), (1, .ref st), (2, .ref po)]) rfl (Nat.le_of_ble_eq_true rfl) ?_
  intro p e s m args below meth c ls Q S hP hK hend hl
  have hx := S.1
  have hb := S.2.1
  have hown : s.vm.findClass RX6 = some m.cls := S.2.2.2.1
  have ht : ∀ w ∈ lw_g, w.before args s = true := fun w h => S.2.2.2.2 w (List.mem_cons_of_mem _ h)
  obtain ⟨kb, ka, ar, N, hb0, ha0, hnN, hN⟩ := id hB
  refine lv_aload_n hx hb dX6_faultFromInside_0 rfl (lv_at hl 0 rfl) ?_
  refine ro_S S (c_X6_isFramedSix hB) kw2_10 yv_X6_isFramedSix ⟨Nat.le_of_ble_eq_true rfl, Nat.le_of_ble_eq_true rfl⟩ hK hP rfl hl.1 rfl (Nat.le_of_ble_eq_true rfl) dX6_faultFromInside_1 ⟨Nat.le_refl _, Nat.le_refl _⟩ ?_
  refine nv_if_neb (tgt := 10) hx hb dX6_faultFromInside_4 (by decide) (fun h4 => ?_) (fun h4 => ?_)
  · skip
    have hn40 : 40 ≤ n := by have := h4; simp only [tg_fr6, decide_eq_true_eq] at this; omega
    refine lv_aload_n hx hb dX6_faultFromInside_10 rfl (lv_at hl 0 rfl) ?_
    refine ro_S S (c_X6_isKnownSix hB (by omega)) kw2_26 yv_X6_isKnownSix ⟨Nat.le_of_ble_eq_true rfl, Nat.le_of_ble_eq_true rfl⟩ hK hP rfl hl.1 rfl (Nat.le_of_ble_eq_true rfl) dX6_faultFromInside_11 ⟨Nat.le_refl _, Nat.le_refl _⟩ ?_
    refine nv_if_neb (tgt := 20) hx hb dX6_faultFromInside_14 (by decide) (fun h14 => ?_) (fun h14 => ?_)
    · skip
      refine lv_aload_n hx hb dX6_faultFromInside_20 rfl (lv_at hl 0 rfl) ?_
      refine nv_bipush (k := 40) hx hb dX6_faultFromInside_21 (by decide) ?_
      refine ro_S S (c_X9_partIsRight hB (hd := 40) (by omega) (by omega)) kw2_44 yv_X9_partIsRight ⟨Nat.le_of_ble_eq_true rfl, Nat.le_of_ble_eq_true rfl⟩ hK hP rfl hl.1 rfl (Nat.le_of_ble_eq_true rfl) dX6_faultFromInside_23 ⟨Nat.le_refl _, Nat.le_refl _⟩ ?_
      refine nv_if_neb (tgt := 32) hx hb dX6_faultFromInside_26 (by decide) (fun h26 => ?_) (fun h26 => ?_)
      · skip
        refine lv_aload_n hx hb dX6_faultFromInside_32 rfl (lv_at hl 0 rfl) ?_
        refine nv_bipush (k := 7) hx hb dX6_faultFromInside_33 (by decide) ?_
        refine ro_V S (c_X1_octet hB (k := 7) (by omega)) kw2_14 yv_X1_octet ⟨Nat.le_of_ble_eq_true rfl, Nat.le_of_ble_eq_true rfl⟩ hK hP (va_recv hK hP (ci := 2) (q0 := kb) rfl hb0) rfl hl.1 rfl (Nat.le_of_ble_eq_true rfl) dX6_faultFromInside_35 ⟨Nat.le_refl _, Nat.le_refl _⟩ ?_
        have hq35 := tg_rd_lt f n 7
        refine nv_iconst (k := 2) hx hb dX6_faultFromInside_38 rfl ?_
        refine nv_icmp_ge (tgt := 45) hx hb dX6_faultFromInside_39 (by decide) (by omega) (by omega) (fun h39 => ?_) (fun h39 => ?_)
        · skip
          refine lv_aload_n hx hb dX6_faultFromInside_45 rfl (lv_at hl 0 rfl) ?_
          refine lv_aload_n hx hb dX6_faultFromInside_46 rfl (lv_at hl 1 rfl) ?_
          refine lv_aload_n hx hb dX6_faultFromInside_47 rfl (lv_at hl 2 rfl) ?_
          refine ro_S S (c_X6_isPlacedSix hB hST hPL) kw2_66 yv_X6_isPlacedSix ⟨Nat.le_of_ble_eq_true rfl, Nat.le_of_ble_eq_true rfl⟩ hK hP rfl hl.1 rfl (Nat.le_of_ble_eq_true rfl) dX6_faultFromInside_48 ⟨Nat.le_refl _, Nat.le_refl _⟩ ?_
          refine nv_if_eqb (tgt := 58) hx hb dX6_faultFromInside_51 (by decide) (fun h51 => ?_) (fun h51 => ?_)
          · skip
            refine nv_bipush (k := 14) hx hb dX6_faultFromInside_58 (by decide) ?_
            exact hend ((congrArg nI (by simp only [tg_in]; simp_all <;> omega))) dX6_faultFromInside_60
          refine nv_iconst (k := 0) hx hb dX6_faultFromInside_54 rfl ?_
          refine lv_goto (tgt := 60) hx hb dX6_faultFromInside_55 (by decide) ?_
          exact hend ((congrArg nI (by simp only [tg_in]; simp_all <;> omega))) dX6_faultFromInside_60
        refine nv_bipush (k := 13) hx hb dX6_faultFromInside_42 (by decide) ?_
        exact hend ((congrArg nI (by simp only [tg_in]; simp_all <;> omega))) dX6_faultFromInside_44
      refine nv_bipush (k := 12) hx hb dX6_faultFromInside_29 (by decide) ?_
      exact hend ((congrArg nI (by simp only [tg_in]; simp_all <;> omega))) dX6_faultFromInside_31
    refine nv_bipush (k := 11) hx hb dX6_faultFromInside_17 (by decide) ?_
    exact hend ((congrArg nI (by simp only [tg_in]; simp_all <;> omega))) dX6_faultFromInside_19
  refine nv_bipush (k := 10) hx hb dX6_faultFromInside_7 (by decide) ?_
  exact hend ((congrArg nI (by simp only [tg_in]; simp_all <;> omega))) dX6_faultFromInside_9
theorem dX6_isFramedFour_0 : decode cX6_isFramedFour 0 = .ok (.aload_n 0, 1) := by decide +kernel
theorem dX6_isFramedFour_1 : decode cX6_isFramedFour 1 = .ok (.invokevirtual 46, 3) := by decide +kernel
theorem dX6_isFramedFour_4 : decode cX6_isFramedFour 4 = .ok (.istore_n 1, 1) := by decide +kernel
theorem dX6_isFramedFour_5 : decode cX6_isFramedFour 5 = .ok (.iload_n 1, 1) := by decide +kernel
theorem dX6_isFramedFour_6 : decode cX6_isFramedFour 6 = .ok (.bipush 20, 2) := by decide +kernel
theorem dX6_isFramedFour_8 : decode cX6_isFramedFour 8 = .ok (.if_icmp .lt 26, 3) := by decide +kernel
theorem dX6_isFramedFour_11 : decode cX6_isFramedFour 11 = .ok (.aload_n 0, 1) := by decide +kernel
theorem dX6_isFramedFour_12 : decode cX6_isFramedFour 12 = .ok (.iconst 0, 1) := by decide +kernel
theorem dX6_isFramedFour_13 : decode cX6_isFramedFour 13 = .ok (.invokevirtual 24, 3) := by decide +kernel
theorem dX6_isFramedFour_16 : decode cX6_isFramedFour 16 = .ok (.bipush 69, 2) := by decide +kernel
theorem dX6_isFramedFour_18 : decode cX6_isFramedFour 18 = .ok (.if_icmp .ne 16, 3) := by decide +kernel
theorem dX6_isFramedFour_21 : decode cX6_isFramedFour 21 = .ok (.aload_n 0, 1) := by decide +kernel
theorem dX6_isFramedFour_22 : decode cX6_isFramedFour 22 = .ok (.iconst 2, 1) := by decide +kernel
theorem dX6_isFramedFour_23 : decode cX6_isFramedFour 23 = .ok (.invokevirtual 50, 3) := by decide +kernel
theorem dX6_isFramedFour_26 : decode cX6_isFramedFour 26 = .ok (.iload_n 1, 1) := by decide +kernel
theorem dX6_isFramedFour_27 : decode cX6_isFramedFour 27 = .ok (.if_icmp .ne 7, 3) := by decide +kernel
theorem dX6_isFramedFour_30 : decode cX6_isFramedFour 30 = .ok (.iconst 1, 1) := by decide +kernel
theorem dX6_isFramedFour_31 : decode cX6_isFramedFour 31 = .ok (.goto 4, 3) := by decide +kernel
theorem dX6_isFramedFour_34 : decode cX6_isFramedFour 34 = .ok (.iconst 0, 1) := by decide +kernel
theorem dX6_isFramedFour_35 : decode cX6_isFramedFour 35 = .ok (.ireturn, 1) := by decide +kernel
theorem yv_X6_isFramedFour : YS yX6_isFramedFour cX6_isFramedFour 2 (some .boolean) 1 := ⟨kw3_162, kw1_11, kw3_163, by decide +kernel⟩
set_option maxHeartbeats 4000000 in
set_option maxRecDepth 100000 in
theorem c_X6_isFramedFour {l : Launch} {D : va_G} {cy : Nat → ClassId} {ws : va_W} {b n : Nat} {f : Nat → UInt8} (hB : PK cy ws b f n) : RO l yX6_isFramedFour cX6_isFramedFour 2 (some .boolean) 2 47 [.ref b] D cy ws (.int (bI (tg_fr4 (tg_rd f n) n))) := by
  refine ROz (by decide) (lv0 := [(0, .ref b)]) rfl (Nat.le_of_ble_eq_true rfl) ?_
  intro p e s m args below meth c ls Q S hP hK hend hl
  have hx := S.1
  have hb := S.2.1
  have hown : s.vm.findClass RX6 = some m.cls := S.2.2.2.1
  have ht : ∀ w ∈ lw_g, w.before args s = true := fun w h => S.2.2.2.2 w (List.mem_cons_of_mem _ h)
  obtain ⟨kb, ka, ar, N, hb0, ha0, hnN, hN⟩ := id hB
  refine lv_aload_n hx hb dX6_isFramedFour_0 rfl (lv_at hl 0 rfl) ?_
  refine ro_V S (c_X1_length hB) kw2_13 yv_X1_length ⟨Nat.le_of_ble_eq_true rfl, Nat.le_of_ble_eq_true rfl⟩ hK hP (va_recv hK hP (ci := 2) (q0 := kb) rfl hb0) rfl hl.1 rfl (Nat.le_of_ble_eq_true rfl) dX6_isFramedFour_1 ⟨Nat.le_refl _, Nat.le_refl _⟩ ?_
  refine lv_istore_n (lv' := [(1, .int (nI n)), (0, .ref b)]) hx hb dX6_isFramedFour_4 rfl hl (by decide) rfl (fun ls hl => ?_)
  refine lv_iload_n hx hb dX6_isFramedFour_5 rfl (lv_at hl 0 rfl) ?_
  refine nv_bipush (k := 20) hx hb dX6_isFramedFour_6 (by decide) ?_
  refine nv_icmp_lt (tgt := 34) hx hb dX6_isFramedFour_8 (by decide) (by omega) (by omega) (fun h8 => ?_) (fun h8 => ?_)
  · skip
    refine nv_iconst (k := 0) hx hb dX6_isFramedFour_34 rfl ?_
    exact hend ((bI_f (by simp only [tg_fr4]; exact decide_eq_false (by omega)))) dX6_isFramedFour_35
  refine lv_aload_n hx hb dX6_isFramedFour_11 rfl (lv_at hl 1 rfl) ?_
  refine nv_iconst (k := 0) hx hb dX6_isFramedFour_12 rfl ?_
  refine ro_V S (c_X1_octet hB (k := 0) (by omega)) kw2_14 yv_X1_octet ⟨Nat.le_of_ble_eq_true rfl, Nat.le_of_ble_eq_true rfl⟩ hK hP (va_recv hK hP (ci := 2) (q0 := kb) rfl hb0) rfl hl.1 rfl (Nat.le_of_ble_eq_true rfl) dX6_isFramedFour_13 ⟨Nat.le_refl _, Nat.le_refl _⟩ ?_
  have hq13 := tg_rd_lt f n 0
  refine nv_bipush (k := 69) hx hb dX6_isFramedFour_16 (by decide) ?_
  refine nv_icmp_ne (tgt := 34) hx hb dX6_isFramedFour_18 (by decide) (by omega) (by omega) (fun h18 => ?_) (fun h18 => ?_)
  · skip
    refine nv_iconst (k := 0) hx hb dX6_isFramedFour_34 rfl ?_
    exact hend ((bI_f (by simp only [tg_fr4]; exact decide_eq_false (by omega)))) dX6_isFramedFour_35
  refine lv_aload_n hx hb dX6_isFramedFour_21 rfl (lv_at hl 1 rfl) ?_
  refine nv_iconst (k := 2) hx hb dX6_isFramedFour_22 rfl ?_
  refine ro_V S (c_X1_pair hB (a := 2) (by omega)) kw2_18 yv_X1_pair ⟨Nat.le_of_ble_eq_true rfl, Nat.le_of_ble_eq_true rfl⟩ hK hP (va_recv hK hP (ci := 2) (q0 := kb) rfl hb0) rfl hl.1 rfl (Nat.le_of_ble_eq_true rfl) dX6_isFramedFour_23 ⟨Nat.le_refl _, Nat.le_refl _⟩ ?_
  have hq23 := tg_pr_lt f n 2
  refine lv_iload_n hx hb dX6_isFramedFour_26 rfl (lv_at hl 0 rfl) ?_
  refine nv_icmp_ne (tgt := 34) hx hb dX6_isFramedFour_27 (by decide) (by omega) (by omega) (fun h27 => ?_) (fun h27 => ?_)
  · skip
    refine nv_iconst (k := 0) hx hb dX6_isFramedFour_34 rfl ?_
    exact hend ((bI_f (by simp only [tg_fr4]; exact decide_eq_false (by omega)))) dX6_isFramedFour_35
  refine nv_iconst (k := 1) hx hb dX6_isFramedFour_30 rfl ?_
  refine lv_goto (tgt := 35) hx hb dX6_isFramedFour_31 (by decide) ?_
  exact hend ((bI_t (by simp only [tg_fr4]; exact decide_eq_true (by omega)))) dX6_isFramedFour_35
theorem dX6_hasKnownWithin_0 : decode cX6_hasKnownWithin 0 = .ok (.aload_n 0, 1) := by decide +kernel
theorem dX6_hasKnownWithin_1 : decode cX6_hasKnownWithin 1 = .ok (.invokevirtual 46, 3) := by decide +kernel
theorem dX6_hasKnownWithin_4 : decode cX6_hasKnownWithin 4 = .ok (.bipush 56, 2) := by decide +kernel
theorem dX6_hasKnownWithin_6 : decode cX6_hasKnownWithin 6 = .ok (.if_icmp .lt 7, 3) := by decide +kernel
theorem dX6_hasKnownWithin_9 : decode cX6_hasKnownWithin 9 = .ok (.iconst 1, 1) := by decide +kernel
theorem dX6_hasKnownWithin_10 : decode cX6_hasKnownWithin 10 = .ok (.goto 4, 3) := by decide +kernel
theorem dX6_hasKnownWithin_13 : decode cX6_hasKnownWithin 13 = .ok (.iconst 0, 1) := by decide +kernel
theorem dX6_hasKnownWithin_14 : decode cX6_hasKnownWithin 14 = .ok (.istore_n 1, 1) := by decide +kernel
theorem dX6_hasKnownWithin_15 : decode cX6_hasKnownWithin 15 = .ok (.iload_n 1, 1) := by decide +kernel
theorem dX6_hasKnownWithin_16 : decode cX6_hasKnownWithin 16 = .ok (.ifCond .eq 14, 3) := by decide +kernel
theorem dX6_hasKnownWithin_19 : decode cX6_hasKnownWithin 19 = .ok (.aload_n 0, 1) := by decide +kernel
theorem dX6_hasKnownWithin_20 : decode cX6_hasKnownWithin 20 = .ok (.bipush 28, 2) := by decide +kernel
theorem dX6_hasKnownWithin_22 : decode cX6_hasKnownWithin 22 = .ok (.invokevirtual 24, 3) := by decide +kernel
theorem dX6_hasKnownWithin_25 : decode cX6_hasKnownWithin 25 = .ok (.bipush 69, 2) := by decide +kernel
theorem dX6_hasKnownWithin_27 : decode cX6_hasKnownWithin 27 = .ok (.if_icmp .eq 5, 3) := by decide +kernel
theorem dX6_hasKnownWithin_30 : decode cX6_hasKnownWithin 30 = .ok (.iconst 0, 1) := by decide +kernel
theorem dX6_hasKnownWithin_31 : decode cX6_hasKnownWithin 31 = .ok (.ireturn, 1) := by decide +kernel
theorem dX6_hasKnownWithin_32 : decode cX6_hasKnownWithin 32 = .ok (.aload_n 0, 1) := by decide +kernel
theorem dX6_hasKnownWithin_33 : decode cX6_hasKnownWithin 33 = .ok (.bipush 37, 2) := by decide +kernel
theorem dX6_hasKnownWithin_35 : decode cX6_hasKnownWithin 35 = .ok (.invokevirtual 24, 3) := by decide +kernel
theorem dX6_hasKnownWithin_38 : decode cX6_hasKnownWithin 38 = .ok (.istore_n 2, 1) := by decide +kernel
theorem dX6_hasKnownWithin_39 : decode cX6_hasKnownWithin 39 = .ok (.iload_n 2, 1) := by decide +kernel
theorem dX6_hasKnownWithin_40 : decode cX6_hasKnownWithin 40 = .ok (.iconst 1, 1) := by decide +kernel
theorem dX6_hasKnownWithin_41 : decode cX6_hasKnownWithin 41 = .ok (.if_icmp .ne 20, 3) := by decide +kernel
theorem dX6_hasKnownWithin_44 : decode cX6_hasKnownWithin 44 = .ok (.aload_n 0, 1) := by decide +kernel
theorem dX6_hasKnownWithin_45 : decode cX6_hasKnownWithin 45 = .ok (.bipush 48, 2) := by decide +kernel
theorem dX6_hasKnownWithin_47 : decode cX6_hasKnownWithin 47 = .ok (.invokevirtual 24, 3) := by decide +kernel
theorem dX6_hasKnownWithin_50 : decode cX6_hasKnownWithin 50 = .ok (.bipush 8, 2) := by decide +kernel
theorem dX6_hasKnownWithin_52 : decode cX6_hasKnownWithin 52 = .ok (.if_icmp .ne 7, 3) := by decide +kernel
theorem dX6_hasKnownWithin_55 : decode cX6_hasKnownWithin 55 = .ok (.iconst 1, 1) := by decide +kernel
theorem dX6_hasKnownWithin_56 : decode cX6_hasKnownWithin 56 = .ok (.goto 4, 3) := by decide +kernel
theorem dX6_hasKnownWithin_59 : decode cX6_hasKnownWithin 59 = .ok (.iconst 0, 1) := by decide +kernel
theorem dX6_hasKnownWithin_60 : decode cX6_hasKnownWithin 60 = .ok (.ireturn, 1) := by decide +kernel
theorem dX6_hasKnownWithin_61 : decode cX6_hasKnownWithin 61 = .ok (.iload_n 2, 1) := by decide +kernel
theorem dX6_hasKnownWithin_62 : decode cX6_hasKnownWithin 62 = .ok (.invokestatic 100, 3) := by decide +kernel
theorem dX6_hasKnownWithin_65 : decode cX6_hasKnownWithin 65 = .ok (.ireturn, 1) := by decide +kernel
theorem yv_X6_hasKnownWithin : YS yX6_hasKnownWithin cX6_hasKnownWithin 3 (some .boolean) 1 := ⟨kw3_175, kw1_11, kw3_176, by decide +kernel⟩
set_option maxHeartbeats 4000000 in
set_option maxRecDepth 100000 in
theorem c_X6_hasKnownWithin {l : Launch} {D : va_G} {cy : Nat → ClassId} {ws : va_W} {b n : Nat} {f : Nat → UInt8} (hB : PK cy ws b f n) : RO l yX6_hasKnownWithin cX6_hasKnownWithin 3 (some .boolean) 1 21 [.ref b] D cy ws (.int (bI (tg_within (tg_rd f n) n))) := by
  refine ROz (by decide) (lv0 := [(0, .ref b)]) rfl (Nat.le_of_ble_eq_true rfl) ?_
  intro p e s m args below meth c ls Q S hP hK hend hl
  have hx := S.1
  have hb := S.2.1
  have hown : s.vm.findClass RX6 = some m.cls := S.2.2.2.1
  have ht : ∀ w ∈ lw_g, w.before args s = true := fun w h => S.2.2.2.2 w (List.mem_cons_of_mem _ h)
  obtain ⟨kb, ka, ar, N, hb0, ha0, hnN, hN⟩ := id hB
  refine lv_aload_n hx hb dX6_hasKnownWithin_0 rfl (lv_at hl 0 rfl) ?_
  refine ro_V S (c_X1_length hB) kw2_13 yv_X1_length ⟨Nat.le_of_ble_eq_true rfl, Nat.le_of_ble_eq_true rfl⟩ hK hP (va_recv hK hP (ci := 2) (q0 := kb) rfl hb0) rfl hl.1 rfl (Nat.le_of_ble_eq_true rfl) dX6_hasKnownWithin_1 ⟨Nat.le_refl _, Nat.le_refl _⟩ ?_
  refine nv_bipush (k := 56) hx hb dX6_hasKnownWithin_4 (by decide) ?_
  refine nv_icmp_lt (tgt := 13) hx hb dX6_hasKnownWithin_6 (by decide) (by omega) (by omega) (fun h6 => ?_) (fun h6 => ?_)
  · skip
    refine nv_iconst (k := 0) hx hb dX6_hasKnownWithin_13 rfl ?_
    refine lv_istore_n (lv' := [(1, .int (nI 0)), (0, .ref b)]) hx hb dX6_hasKnownWithin_14 rfl hl (by decide) rfl (fun ls hl => ?_)
    refine lv_iload_n hx hb dX6_hasKnownWithin_15 rfl (lv_at hl 0 rfl) ?_
    refine nv_if_eq (tgt := 30) hx hb dX6_hasKnownWithin_16 (by decide) (by omega) (fun _ => ?_) (fun h => absurd h (by decide))
    refine nv_iconst (k := 0) hx hb dX6_hasKnownWithin_30 rfl ?_
    exact hend ((bI_f (by simp only [tg_within]; exact decide_eq_false (by omega)))) dX6_hasKnownWithin_31
  refine nv_iconst (k := 1) hx hb dX6_hasKnownWithin_9 rfl ?_
  refine lv_goto (tgt := 14) hx hb dX6_hasKnownWithin_10 (by decide) ?_
  refine lv_istore_n (lv' := [(1, .int (nI 1)), (0, .ref b)]) hx hb dX6_hasKnownWithin_14 rfl hl (by decide) rfl (fun ls hl => ?_)
  refine lv_iload_n hx hb dX6_hasKnownWithin_15 rfl (lv_at hl 0 rfl) ?_
  refine nv_if_eq (tgt := 30) hx hb dX6_hasKnownWithin_16 (by decide) (by omega) (fun h => absurd h (by decide)) (fun _ => ?_)
  refine lv_aload_n hx hb dX6_hasKnownWithin_19 rfl (lv_at hl 1 rfl) ?_
  refine nv_bipush (k := 28) hx hb dX6_hasKnownWithin_20 (by decide) ?_
  refine ro_V S (c_X1_octet hB (k := 28) (by omega)) kw2_14 yv_X1_octet ⟨Nat.le_of_ble_eq_true rfl, Nat.le_of_ble_eq_true rfl⟩ hK hP (va_recv hK hP (ci := 2) (q0 := kb) rfl hb0) rfl hl.1 rfl (Nat.le_of_ble_eq_true rfl) dX6_hasKnownWithin_22 ⟨Nat.le_refl _, Nat.le_refl _⟩ ?_
  have hq22 := tg_rd_lt f n 28
  refine nv_bipush (k := 69) hx hb dX6_hasKnownWithin_25 (by decide) ?_
  refine nv_icmp_eq (tgt := 32) hx hb dX6_hasKnownWithin_27 (by decide) (by omega) (by omega) (fun h27 => ?_) (fun h27 => ?_)
  · skip
    refine lv_aload_n hx hb dX6_hasKnownWithin_32 rfl (lv_at hl 1 rfl) ?_
    refine nv_bipush (k := 37) hx hb dX6_hasKnownWithin_33 (by decide) ?_
    refine ro_V S (c_X1_octet hB (k := 37) (by omega)) kw2_14 yv_X1_octet ⟨Nat.le_of_ble_eq_true rfl, Nat.le_of_ble_eq_true rfl⟩ hK hP (va_recv hK hP (ci := 2) (q0 := kb) rfl hb0) rfl hl.1 rfl (Nat.le_of_ble_eq_true rfl) dX6_hasKnownWithin_35 ⟨Nat.le_refl _, Nat.le_refl _⟩ ?_
    have hq35 := tg_rd_lt f n 37
    refine lv_istore_n (lv' := [(2, .int (nI (tg_rd f n 37))), (1, .int (nI 1)), (0, .ref b)]) hx hb dX6_hasKnownWithin_38 rfl hl (by decide) rfl (fun ls hl => ?_)
    refine lv_iload_n hx hb dX6_hasKnownWithin_39 rfl (lv_at hl 0 rfl) ?_
    refine nv_iconst (k := 1) hx hb dX6_hasKnownWithin_40 rfl ?_
    refine nv_icmp_ne (tgt := 61) hx hb dX6_hasKnownWithin_41 (by decide) (by omega) (by omega) (fun h41 => ?_) (fun h41 => ?_)
    · skip
      refine lv_iload_n hx hb dX6_hasKnownWithin_61 rfl (lv_at hl 0 rfl) ?_
      refine ro_S S (c_X4_hasPorts (q := tg_rd f n 37) (by omega)) kw3_177 yv_X4_hasPorts ⟨Nat.le_of_ble_eq_true rfl, Nat.le_of_ble_eq_true rfl⟩ hK hP rfl hl.1 rfl (Nat.le_of_ble_eq_true rfl) dX6_hasKnownWithin_62 ⟨Nat.le_refl _, Nat.le_refl _⟩ ?_
      exact hend ((congrArg bI (by simp only [tg_within, tg_ports]; congr 1; apply propext; constructor <;> intro hz <;> omega))) dX6_hasKnownWithin_65
    refine lv_aload_n hx hb dX6_hasKnownWithin_44 rfl (lv_at hl 2 rfl) ?_
    refine nv_bipush (k := 48) hx hb dX6_hasKnownWithin_45 (by decide) ?_
    refine ro_V S (c_X1_octet hB (k := 48) (by omega)) kw2_14 yv_X1_octet ⟨Nat.le_of_ble_eq_true rfl, Nat.le_of_ble_eq_true rfl⟩ hK hP (va_recv hK hP (ci := 2) (q0 := kb) rfl hb0) rfl hl.1 rfl (Nat.le_of_ble_eq_true rfl) dX6_hasKnownWithin_47 ⟨Nat.le_refl _, Nat.le_refl _⟩ ?_
    have hq47 := tg_rd_lt f n 48
    refine nv_bipush (k := 8) hx hb dX6_hasKnownWithin_50 (by decide) ?_
    refine nv_icmp_ne (tgt := 59) hx hb dX6_hasKnownWithin_52 (by decide) (by omega) (by omega) (fun h52 => ?_) (fun h52 => ?_)
    · skip
      refine nv_iconst (k := 0) hx hb dX6_hasKnownWithin_59 rfl ?_
      exact hend ((bI_f (by simp only [tg_within]; exact decide_eq_false (by omega)))) dX6_hasKnownWithin_60
    refine nv_iconst (k := 1) hx hb dX6_hasKnownWithin_55 rfl ?_
    refine lv_goto (tgt := 60) hx hb dX6_hasKnownWithin_56 (by decide) ?_
    exact hend ((bI_t (by simp only [tg_within]; exact decide_eq_true (by omega)))) dX6_hasKnownWithin_60
  refine nv_iconst (k := 0) hx hb dX6_hasKnownWithin_30 rfl ?_
  exact hend ((bI_f (by simp only [tg_within]; exact decide_eq_false (by omega)))) dX6_hasKnownWithin_31
theorem dX6_isKnownIcmpFour_0 : decode cX6_isKnownIcmpFour 0 = .ok (.aload_n 0, 1) := by decide +kernel
theorem dX6_isKnownIcmpFour_1 : decode cX6_isKnownIcmpFour 1 = .ok (.bipush 20, 2) := by decide +kernel
theorem dX6_isKnownIcmpFour_3 : decode cX6_isKnownIcmpFour 3 = .ok (.invokestatic 64, 3) := by decide +kernel
theorem dX6_isKnownIcmpFour_6 : decode cX6_isKnownIcmpFour 6 = .ok (.ifCond .ne 5, 3) := by decide +kernel
theorem dX6_isKnownIcmpFour_9 : decode cX6_isKnownIcmpFour 9 = .ok (.iconst 0, 1) := by decide +kernel
theorem dX6_isKnownIcmpFour_10 : decode cX6_isKnownIcmpFour 10 = .ok (.ireturn, 1) := by decide +kernel
theorem dX6_isKnownIcmpFour_11 : decode cX6_isKnownIcmpFour 11 = .ok (.aload_n 0, 1) := by decide +kernel
theorem dX6_isKnownIcmpFour_12 : decode cX6_isKnownIcmpFour 12 = .ok (.bipush 21, 2) := by decide +kernel
theorem dX6_isKnownIcmpFour_14 : decode cX6_isKnownIcmpFour 14 = .ok (.invokevirtual 24, 3) := by decide +kernel
theorem dX6_isKnownIcmpFour_17 : decode cX6_isKnownIcmpFour 17 = .ok (.istore_n 1, 1) := by decide +kernel
theorem dX6_isKnownIcmpFour_18 : decode cX6_isKnownIcmpFour 18 = .ok (.aload_n 0, 1) := by decide +kernel
theorem dX6_isKnownIcmpFour_19 : decode cX6_isKnownIcmpFour 19 = .ok (.bipush 20, 2) := by decide +kernel
theorem dX6_isKnownIcmpFour_21 : decode cX6_isKnownIcmpFour 21 = .ok (.invokevirtual 24, 3) := by decide +kernel
theorem dX6_isKnownIcmpFour_24 : decode cX6_isKnownIcmpFour 24 = .ok (.lookupswitch 94 #[(0, 44), (3, 46), (8, 44), (11, 76)], 44) := by decide +kernel
theorem dX6_isKnownIcmpFour_68 : decode cX6_isKnownIcmpFour 68 = .ok (.iconst 1, 1) := by decide +kernel
theorem dX6_isKnownIcmpFour_69 : decode cX6_isKnownIcmpFour 69 = .ok (.ireturn, 1) := by decide +kernel
theorem dX6_isKnownIcmpFour_70 : decode cX6_isKnownIcmpFour 70 = .ok (.iload_n 1, 1) := by decide +kernel
theorem dX6_isKnownIcmpFour_71 : decode cX6_isKnownIcmpFour 71 = .ok (.iconst 2, 1) := by decide +kernel
theorem dX6_isKnownIcmpFour_72 : decode cX6_isKnownIcmpFour 72 = .ok (.if_icmp .eq 26, 3) := by decide +kernel
theorem dX6_isKnownIcmpFour_75 : decode cX6_isKnownIcmpFour 75 = .ok (.iload_n 1, 1) := by decide +kernel
theorem dX6_isKnownIcmpFour_76 : decode cX6_isKnownIcmpFour 76 = .ok (.bipush 14, 2) := by decide +kernel
theorem dX6_isKnownIcmpFour_78 : decode cX6_isKnownIcmpFour 78 = .ok (.if_icmp .eq 20, 3) := by decide +kernel
theorem dX6_isKnownIcmpFour_81 : decode cX6_isKnownIcmpFour 81 = .ok (.iload_n 1, 1) := by decide +kernel
theorem dX6_isKnownIcmpFour_82 : decode cX6_isKnownIcmpFour 82 = .ok (.bipush 15, 2) := by decide +kernel
theorem dX6_isKnownIcmpFour_84 : decode cX6_isKnownIcmpFour 84 = .ok (.if_icmp .gt 14, 3) := by decide +kernel
theorem dX6_isKnownIcmpFour_87 : decode cX6_isKnownIcmpFour 87 = .ok (.aload_n 0, 1) := by decide +kernel
theorem dX6_isKnownIcmpFour_88 : decode cX6_isKnownIcmpFour 88 = .ok (.invokestatic 97, 3) := by decide +kernel
theorem dX6_isKnownIcmpFour_91 : decode cX6_isKnownIcmpFour 91 = .ok (.ifCond .eq 7, 3) := by decide +kernel
theorem dX6_isKnownIcmpFour_94 : decode cX6_isKnownIcmpFour 94 = .ok (.iconst 1, 1) := by decide +kernel
theorem dX6_isKnownIcmpFour_95 : decode cX6_isKnownIcmpFour 95 = .ok (.goto 4, 3) := by decide +kernel
theorem dX6_isKnownIcmpFour_98 : decode cX6_isKnownIcmpFour 98 = .ok (.iconst 0, 1) := by decide +kernel
theorem dX6_isKnownIcmpFour_99 : decode cX6_isKnownIcmpFour 99 = .ok (.ireturn, 1) := by decide +kernel
theorem dX6_isKnownIcmpFour_100 : decode cX6_isKnownIcmpFour 100 = .ok (.iload_n 1, 1) := by decide +kernel
theorem dX6_isKnownIcmpFour_101 : decode cX6_isKnownIcmpFour 101 = .ok (.iconst 1, 1) := by decide +kernel
theorem dX6_isKnownIcmpFour_102 : decode cX6_isKnownIcmpFour 102 = .ok (.if_icmp .gt 14, 3) := by decide +kernel
theorem dX6_isKnownIcmpFour_105 : decode cX6_isKnownIcmpFour 105 = .ok (.aload_n 0, 1) := by decide +kernel
theorem dX6_isKnownIcmpFour_106 : decode cX6_isKnownIcmpFour 106 = .ok (.invokestatic 97, 3) := by decide +kernel
theorem dX6_isKnownIcmpFour_109 : decode cX6_isKnownIcmpFour 109 = .ok (.ifCond .eq 7, 3) := by decide +kernel
theorem dX6_isKnownIcmpFour_112 : decode cX6_isKnownIcmpFour 112 = .ok (.iconst 1, 1) := by decide +kernel
theorem dX6_isKnownIcmpFour_113 : decode cX6_isKnownIcmpFour 113 = .ok (.goto 4, 3) := by decide +kernel
theorem dX6_isKnownIcmpFour_116 : decode cX6_isKnownIcmpFour 116 = .ok (.iconst 0, 1) := by decide +kernel
theorem dX6_isKnownIcmpFour_117 : decode cX6_isKnownIcmpFour 117 = .ok (.ireturn, 1) := by decide +kernel
theorem dX6_isKnownIcmpFour_118 : decode cX6_isKnownIcmpFour 118 = .ok (.iconst 0, 1) := by decide +kernel
theorem dX6_isKnownIcmpFour_119 : decode cX6_isKnownIcmpFour 119 = .ok (.ireturn, 1) := by decide +kernel
theorem yv_X6_isKnownIcmpFour : YS yX6_isKnownIcmpFour cX6_isKnownIcmpFour 2 (some .boolean) 1 := ⟨kw3_172, kw1_11, kw3_173, by decide +kernel⟩
set_option maxHeartbeats 4000000 in
set_option maxRecDepth 100000 in
theorem c_X6_isKnownIcmpFour {l : Launch} {D : va_G} {cy : Nat → ClassId} {ws : va_W} {b n : Nat} {f : Nat → UInt8} (hB : PK cy ws b f n) (hn20 : 20 ≤ n) : RO l yX6_isKnownIcmpFour cX6_isKnownIcmpFour 2 (some .boolean) 2 43 [.ref b] D cy ws (.int (bI (tg_kicmp4 (tg_rd f n) n))) := by
  refine ROz (by decide) (lv0 := [(0, .ref b)]) rfl (Nat.le_of_ble_eq_true rfl) ?_
  intro p e s m args below meth c ls Q S hP hK hend hl
  have hx := S.1
  have hb := S.2.1
  have hown : s.vm.findClass RX6 = some m.cls := S.2.2.2.1
  have ht : ∀ w ∈ lw_g, w.before args s = true := fun w h => S.2.2.2.2 w (List.mem_cons_of_mem _ h)
  obtain ⟨kb, ka, ar, N, hb0, ha0, hnN, hN⟩ := id hB
  have hr20 := tg_rd_lt f n 20
  refine lv_aload_n hx hb dX6_isKnownIcmpFour_0 rfl (lv_at hl 0 rfl) ?_
  refine nv_bipush (k := 20) hx hb dX6_isKnownIcmpFour_1 (by decide) ?_
  refine ro_S S (c_X4_isLongEnoughIcmp hB (hd := 20) (by omega) (by omega)) kw2_41 yv_X4_isLongEnoughIcmp ⟨Nat.le_of_ble_eq_true rfl, Nat.le_of_ble_eq_true rfl⟩ hK hP rfl hl.1 rfl (Nat.le_of_ble_eq_true rfl) dX6_isKnownIcmpFour_3 ⟨Nat.le_refl _, Nat.le_refl _⟩ ?_
  refine nv_if_neb (tgt := 11) hx hb dX6_isKnownIcmpFour_6 (by decide) (fun h6 => ?_) (fun h6 => ?_)
  · skip
    refine lv_aload_n hx hb dX6_isKnownIcmpFour_11 rfl (lv_at hl 0 rfl) ?_
    refine nv_bipush (k := 21) hx hb dX6_isKnownIcmpFour_12 (by decide) ?_
    refine ro_V S (c_X1_octet hB (k := 21) (by omega)) kw2_14 yv_X1_octet ⟨Nat.le_of_ble_eq_true rfl, Nat.le_of_ble_eq_true rfl⟩ hK hP (va_recv hK hP (ci := 2) (q0 := kb) rfl hb0) rfl hl.1 rfl (Nat.le_of_ble_eq_true rfl) dX6_isKnownIcmpFour_14 ⟨Nat.le_refl _, Nat.le_refl _⟩ ?_
    have hq14 := tg_rd_lt f n 21
    refine lv_istore_n (lv' := [(1, .int (nI (tg_rd f n 21))), (0, .ref b)]) hx hb dX6_isKnownIcmpFour_17 rfl hl (by decide) rfl (fun ls hl => ?_)
    refine lv_aload_n hx hb dX6_isKnownIcmpFour_18 rfl (lv_at hl 1 rfl) ?_
    refine nv_bipush (k := 20) hx hb dX6_isKnownIcmpFour_19 (by decide) ?_
    refine ro_V S (c_X1_octet hB (k := 20) (by omega)) kw2_14 yv_X1_octet ⟨Nat.le_of_ble_eq_true rfl, Nat.le_of_ble_eq_true rfl⟩ hK hP (va_recv hK hP (ci := 2) (q0 := kb) rfl hb0) rfl hl.1 rfl (Nat.le_of_ble_eq_true rfl) dX6_isKnownIcmpFour_21 ⟨Nat.le_refl _, Nat.le_refl _⟩ ?_
    have hq21 := tg_rd_lt f n 20
    by_cases hs24_0 : tg_rd f n 20 = 0
    · refine lv_lookup (off := 44) (tgt := 68) hx hb dX6_isKnownIcmpFour_24 (by decide) (by rw [hs24_0]; decide) (by decide) ?_
      refine nv_iconst (k := 1) hx hb dX6_isKnownIcmpFour_68 rfl ?_
      exact hend ((bI_t (by simp only [tg_kicmp4, tg_icmp, decide_eq_true_eq, decide_eq_false_iff_not] at *; simp_all <;> omega))) dX6_isKnownIcmpFour_69
    by_cases hs24_1 : tg_rd f n 20 = 3
    · refine lv_lookup (off := 46) (tgt := 70) hx hb dX6_isKnownIcmpFour_24 (by decide) (by rw [hs24_1]; decide) (by decide) ?_
      refine lv_iload_n hx hb dX6_isKnownIcmpFour_70 rfl (lv_at hl 0 rfl) ?_
      refine nv_iconst (k := 2) hx hb dX6_isKnownIcmpFour_71 rfl ?_
      refine nv_icmp_eq (tgt := 98) hx hb dX6_isKnownIcmpFour_72 (by decide) (by omega) (by omega) (fun h72 => ?_) (fun h72 => ?_)
      · skip
        refine nv_iconst (k := 0) hx hb dX6_isKnownIcmpFour_98 rfl ?_
        exact hend ((bI_f (by simp only [tg_kicmp4, tg_icmp, decide_eq_true_eq, decide_eq_false_iff_not] at *; simp_all <;> omega))) dX6_isKnownIcmpFour_99
      refine lv_iload_n hx hb dX6_isKnownIcmpFour_75 rfl (lv_at hl 0 rfl) ?_
      refine nv_bipush (k := 14) hx hb dX6_isKnownIcmpFour_76 (by decide) ?_
      refine nv_icmp_eq (tgt := 98) hx hb dX6_isKnownIcmpFour_78 (by decide) (by omega) (by omega) (fun h78 => ?_) (fun h78 => ?_)
      · skip
        refine nv_iconst (k := 0) hx hb dX6_isKnownIcmpFour_98 rfl ?_
        exact hend ((bI_f (by simp only [tg_kicmp4, tg_icmp, decide_eq_true_eq, decide_eq_false_iff_not] at *; simp_all <;> omega))) dX6_isKnownIcmpFour_99
      refine lv_iload_n hx hb dX6_isKnownIcmpFour_81 rfl (lv_at hl 0 rfl) ?_
      refine nv_bipush (k := 15) hx hb dX6_isKnownIcmpFour_82 (by decide) ?_
      refine nv_icmp_gt (tgt := 98) hx hb dX6_isKnownIcmpFour_84 (by decide) (by omega) (by omega) (fun h84 => ?_) (fun h84 => ?_)
      · skip
        refine nv_iconst (k := 0) hx hb dX6_isKnownIcmpFour_98 rfl ?_
        exact hend ((bI_f (by simp only [tg_kicmp4, tg_icmp, decide_eq_true_eq, decide_eq_false_iff_not] at *; simp_all <;> omega))) dX6_isKnownIcmpFour_99
      refine lv_aload_n hx hb dX6_isKnownIcmpFour_87 rfl (lv_at hl 1 rfl) ?_
      refine ro_S S (c_X6_hasKnownWithin hB) kw3_174 yv_X6_hasKnownWithin ⟨Nat.le_of_ble_eq_true rfl, Nat.le_of_ble_eq_true rfl⟩ hK hP rfl hl.1 rfl (Nat.le_of_ble_eq_true rfl) dX6_isKnownIcmpFour_88 ⟨Nat.le_refl _, Nat.le_refl _⟩ ?_
      refine nv_if_eqb (tgt := 98) hx hb dX6_isKnownIcmpFour_91 (by decide) (fun h91 => ?_) (fun h91 => ?_)
      · skip
        refine nv_iconst (k := 0) hx hb dX6_isKnownIcmpFour_98 rfl ?_
        exact hend ((bI_f (by simp only [tg_kicmp4, tg_icmp, decide_eq_true_eq, decide_eq_false_iff_not] at *; simp_all <;> omega))) dX6_isKnownIcmpFour_99
      refine nv_iconst (k := 1) hx hb dX6_isKnownIcmpFour_94 rfl ?_
      refine lv_goto (tgt := 99) hx hb dX6_isKnownIcmpFour_95 (by decide) ?_
      exact hend ((bI_t (by simp only [tg_kicmp4, tg_icmp, decide_eq_true_eq, decide_eq_false_iff_not] at *; simp_all <;> omega))) dX6_isKnownIcmpFour_99
    by_cases hs24_2 : tg_rd f n 20 = 8
    · refine lv_lookup (off := 44) (tgt := 68) hx hb dX6_isKnownIcmpFour_24 (by decide) (by rw [hs24_2]; decide) (by decide) ?_
      refine nv_iconst (k := 1) hx hb dX6_isKnownIcmpFour_68 rfl ?_
      exact hend ((bI_t (by simp only [tg_kicmp4, tg_icmp, decide_eq_true_eq, decide_eq_false_iff_not] at *; simp_all <;> omega))) dX6_isKnownIcmpFour_69
    by_cases hs24_3 : tg_rd f n 20 = 11
    · refine lv_lookup (off := 76) (tgt := 100) hx hb dX6_isKnownIcmpFour_24 (by decide) (by rw [hs24_3]; decide) (by decide) ?_
      refine lv_iload_n hx hb dX6_isKnownIcmpFour_100 rfl (lv_at hl 0 rfl) ?_
      refine nv_iconst (k := 1) hx hb dX6_isKnownIcmpFour_101 rfl ?_
      refine nv_icmp_gt (tgt := 116) hx hb dX6_isKnownIcmpFour_102 (by decide) (by omega) (by omega) (fun h102 => ?_) (fun h102 => ?_)
      · skip
        refine nv_iconst (k := 0) hx hb dX6_isKnownIcmpFour_116 rfl ?_
        exact hend ((bI_f (by simp only [tg_kicmp4, tg_icmp, decide_eq_true_eq, decide_eq_false_iff_not] at *; simp_all <;> omega))) dX6_isKnownIcmpFour_117
      refine lv_aload_n hx hb dX6_isKnownIcmpFour_105 rfl (lv_at hl 1 rfl) ?_
      refine ro_S S (c_X6_hasKnownWithin hB) kw3_174 yv_X6_hasKnownWithin ⟨Nat.le_of_ble_eq_true rfl, Nat.le_of_ble_eq_true rfl⟩ hK hP rfl hl.1 rfl (Nat.le_of_ble_eq_true rfl) dX6_isKnownIcmpFour_106 ⟨Nat.le_refl _, Nat.le_refl _⟩ ?_
      refine nv_if_eqb (tgt := 116) hx hb dX6_isKnownIcmpFour_109 (by decide) (fun h109 => ?_) (fun h109 => ?_)
      · skip
        refine nv_iconst (k := 0) hx hb dX6_isKnownIcmpFour_116 rfl ?_
        exact hend ((bI_f (by simp only [tg_kicmp4, tg_icmp, decide_eq_true_eq, decide_eq_false_iff_not] at *; simp_all <;> omega))) dX6_isKnownIcmpFour_117
      refine nv_iconst (k := 1) hx hb dX6_isKnownIcmpFour_112 rfl ?_
      refine lv_goto (tgt := 117) hx hb dX6_isKnownIcmpFour_113 (by decide) ?_
      exact hend ((bI_t (by simp only [tg_kicmp4, tg_icmp, decide_eq_true_eq, decide_eq_false_iff_not] at *; simp_all <;> omega))) dX6_isKnownIcmpFour_117
    refine lv_lookup (off := 94) (tgt := 118) hx hb dX6_isKnownIcmpFour_24 (by decide) (by rw [nI_toInt (by omega)]; exact (sw_ne (k := 0) hs24_0).trans ((sw_ne (k := 3) hs24_1).trans ((sw_ne (k := 8) hs24_2).trans ((sw_ne (k := 11) hs24_3).trans (rfl))))) (by decide) ?_
    refine nv_iconst (k := 0) hx hb dX6_isKnownIcmpFour_118 rfl ?_
    exact hend ((bI_f (by simp only [tg_kicmp4, tg_icmp, decide_eq_true_eq, decide_eq_false_iff_not] at *; simp_all <;> omega))) dX6_isKnownIcmpFour_119
  refine nv_iconst (k := 0) hx hb dX6_isKnownIcmpFour_9 rfl ?_
  exact hend ((bI_f (by simp only [tg_kicmp4, tg_icmp, decide_eq_true_eq, decide_eq_false_iff_not] at *; simp_all <;> omega))) dX6_isKnownIcmpFour_10
theorem dX6_isKnownFour_0 : decode cX6_isKnownFour 0 = .ok (.aload_n 0, 1) := by decide +kernel
theorem dX6_isKnownFour_1 : decode cX6_isKnownFour 1 = .ok (.bipush 6, 2) := by decide +kernel
theorem dX6_isKnownFour_3 : decode cX6_isKnownFour 3 = .ok (.invokevirtual 50, 3) := by decide +kernel
theorem dX6_isKnownFour_6 : decode cX6_isKnownFour 6 = .ok (.sipush 16383, 3) := by decide +kernel
theorem dX6_isKnownFour_9 : decode cX6_isKnownFour 9 = .ok (.iand, 1) := by decide +kernel
theorem dX6_isKnownFour_10 : decode cX6_isKnownFour 10 = .ok (.ifCond .eq 5, 3) := by decide +kernel
theorem dX6_isKnownFour_13 : decode cX6_isKnownFour 13 = .ok (.iconst 0, 1) := by decide +kernel
theorem dX6_isKnownFour_14 : decode cX6_isKnownFour 14 = .ok (.ireturn, 1) := by decide +kernel
theorem dX6_isKnownFour_15 : decode cX6_isKnownFour 15 = .ok (.aload_n 0, 1) := by decide +kernel
theorem dX6_isKnownFour_16 : decode cX6_isKnownFour 16 = .ok (.bipush 9, 2) := by decide +kernel
theorem dX6_isKnownFour_18 : decode cX6_isKnownFour 18 = .ok (.invokevirtual 24, 3) := by decide +kernel
theorem dX6_isKnownFour_21 : decode cX6_isKnownFour 21 = .ok (.lookupswitch 54 #[(1, 49), (6, 35), (17, 42)], 35) := by decide +kernel
theorem dX6_isKnownFour_56 : decode cX6_isKnownFour 56 = .ok (.aload_n 0, 1) := by decide +kernel
theorem dX6_isKnownFour_57 : decode cX6_isKnownFour 57 = .ok (.bipush 20, 2) := by decide +kernel
theorem dX6_isKnownFour_59 : decode cX6_isKnownFour 59 = .ok (.invokestatic 53, 3) := by decide +kernel
theorem dX6_isKnownFour_62 : decode cX6_isKnownFour 62 = .ok (.ireturn, 1) := by decide +kernel
theorem dX6_isKnownFour_63 : decode cX6_isKnownFour 63 = .ok (.aload_n 0, 1) := by decide +kernel
theorem dX6_isKnownFour_64 : decode cX6_isKnownFour 64 = .ok (.bipush 20, 2) := by decide +kernel
theorem dX6_isKnownFour_66 : decode cX6_isKnownFour 66 = .ok (.invokestatic 58, 3) := by decide +kernel
theorem dX6_isKnownFour_69 : decode cX6_isKnownFour 69 = .ok (.ireturn, 1) := by decide +kernel
theorem dX6_isKnownFour_70 : decode cX6_isKnownFour 70 = .ok (.aload_n 0, 1) := by decide +kernel
theorem dX6_isKnownFour_71 : decode cX6_isKnownFour 71 = .ok (.invokestatic 94, 3) := by decide +kernel
theorem dX6_isKnownFour_74 : decode cX6_isKnownFour 74 = .ok (.ireturn, 1) := by decide +kernel
theorem dX6_isKnownFour_75 : decode cX6_isKnownFour 75 = .ok (.iconst 0, 1) := by decide +kernel
theorem dX6_isKnownFour_76 : decode cX6_isKnownFour 76 = .ok (.ireturn, 1) := by decide +kernel
theorem yv_X6_isKnownFour : YS yX6_isKnownFour cX6_isKnownFour 1 (some .boolean) 1 := ⟨kw3_169, kw1_11, kw3_170, by decide +kernel⟩
set_option maxHeartbeats 4000000 in
set_option maxRecDepth 100000 in
theorem c_X6_isKnownFour {l : Launch} {D : va_G} {cy : Nat → ClassId} {ws : va_W} {b n : Nat} {f : Nat → UInt8} (hB : PK cy ws b f n) (hn20 : 20 ≤ n) : RO l yX6_isKnownFour cX6_isKnownFour 1 (some .boolean) 3 69 [.ref b] D cy ws (.int (bI (tg_kn4 (tg_rd f n) n))) := by
  refine ROz (by decide) (lv0 := [(0, .ref b)]) rfl (Nat.le_of_ble_eq_true rfl) ?_
  intro p e s m args below meth c ls Q S hP hK hend hl
  have hx := S.1
  have hb := S.2.1
  have hown : s.vm.findClass RX6 = some m.cls := S.2.2.2.1
  have ht : ∀ w ∈ lw_g, w.before args s = true := fun w h => S.2.2.2.2 w (List.mem_cons_of_mem _ h)
  obtain ⟨kb, ka, ar, N, hb0, ha0, hnN, hN⟩ := id hB
  have hr9 := tg_rd_lt f n 9
  refine lv_aload_n hx hb dX6_isKnownFour_0 rfl (lv_at hl 0 rfl) ?_
  refine nv_bipush (k := 6) hx hb dX6_isKnownFour_1 (by decide) ?_
  refine ro_V S (c_X1_pair hB (a := 6) (by omega)) kw2_18 yv_X1_pair ⟨Nat.le_of_ble_eq_true rfl, Nat.le_of_ble_eq_true rfl⟩ hK hP (va_recv hK hP (ci := 2) (q0 := kb) rfl hb0) rfl hl.1 rfl (Nat.le_of_ble_eq_true rfl) dX6_isKnownFour_3 ⟨Nat.le_refl _, Nat.le_refl _⟩ ?_
  have hq3 := tg_pr_lt f n 6
  refine nv_sipush (k := 16383) hx hb dX6_isKnownFour_6 (by decide) ?_
  refine nv_iand 14 hx hb (by omega) (by decide) dX6_isKnownFour_9 ?_
  refine nv_if_eq (tgt := 15) hx hb dX6_isKnownFour_10 (by decide) (by omega) (fun h10 => ?_) (fun h10 => ?_)
  · skip
    refine lv_aload_n hx hb dX6_isKnownFour_15 rfl (lv_at hl 0 rfl) ?_
    refine nv_bipush (k := 9) hx hb dX6_isKnownFour_16 (by decide) ?_
    refine ro_V S (c_X1_octet hB (k := 9) (by omega)) kw2_14 yv_X1_octet ⟨Nat.le_of_ble_eq_true rfl, Nat.le_of_ble_eq_true rfl⟩ hK hP (va_recv hK hP (ci := 2) (q0 := kb) rfl hb0) rfl hl.1 rfl (Nat.le_of_ble_eq_true rfl) dX6_isKnownFour_18 ⟨Nat.le_refl _, Nat.le_refl _⟩ ?_
    have hq18 := tg_rd_lt f n 9
    by_cases hs21_0 : tg_rd f n 9 = 1
    · refine lv_lookup (off := 49) (tgt := 70) hx hb dX6_isKnownFour_21 (by decide) (by rw [hs21_0]; decide) (by decide) ?_
      refine lv_aload_n hx hb dX6_isKnownFour_70 rfl (lv_at hl 0 rfl) ?_
      refine ro_S S (c_X6_isKnownIcmpFour hB (by omega)) kw3_171 yv_X6_isKnownIcmpFour ⟨Nat.le_of_ble_eq_true rfl, Nat.le_of_ble_eq_true rfl⟩ hK hP rfl hl.1 rfl (Nat.le_of_ble_eq_true rfl) dX6_isKnownFour_71 ⟨Nat.le_refl _, Nat.le_refl _⟩ ?_
      exact hend ((congrArg bI (by simp only [tg_kn4]; first | rw [if_neg (by omega), if_pos (by omega)] | rw [if_neg (by omega), if_neg (by omega), if_pos (by omega)] | rw [if_neg (by omega), if_neg (by omega), if_neg (by omega), if_pos (by omega)]))) dX6_isKnownFour_74
    by_cases hs21_1 : tg_rd f n 9 = 6
    · refine lv_lookup (off := 35) (tgt := 56) hx hb dX6_isKnownFour_21 (by decide) (by rw [hs21_1]; decide) (by decide) ?_
      refine lv_aload_n hx hb dX6_isKnownFour_56 rfl (lv_at hl 0 rfl) ?_
      refine nv_bipush (k := 20) hx hb dX6_isKnownFour_57 (by decide) ?_
      refine ro_S S (c_X4_isSoundTcp hB (hd := 20) (by omega) (by omega)) kw2_29 yv_X4_isSoundTcp ⟨Nat.le_of_ble_eq_true rfl, Nat.le_of_ble_eq_true rfl⟩ hK hP rfl hl.1 rfl (Nat.le_of_ble_eq_true rfl) dX6_isKnownFour_59 ⟨Nat.le_refl _, Nat.le_refl _⟩ ?_
      exact hend ((congrArg bI (by simp only [tg_kn4]; first | rw [if_neg (by omega), if_pos (by omega)] | rw [if_neg (by omega), if_neg (by omega), if_pos (by omega)] | rw [if_neg (by omega), if_neg (by omega), if_neg (by omega), if_pos (by omega)]))) dX6_isKnownFour_62
    by_cases hs21_2 : tg_rd f n 9 = 17
    · refine lv_lookup (off := 42) (tgt := 63) hx hb dX6_isKnownFour_21 (by decide) (by rw [hs21_2]; decide) (by decide) ?_
      refine lv_aload_n hx hb dX6_isKnownFour_63 rfl (lv_at hl 0 rfl) ?_
      refine nv_bipush (k := 20) hx hb dX6_isKnownFour_64 (by decide) ?_
      refine ro_S S (c_X4_isSoundUdp hB (hd := 20) (by omega) (by omega)) kw2_34 yv_X4_isSoundUdp ⟨Nat.le_of_ble_eq_true rfl, Nat.le_of_ble_eq_true rfl⟩ hK hP rfl hl.1 rfl (Nat.le_of_ble_eq_true rfl) dX6_isKnownFour_66 ⟨Nat.le_refl _, Nat.le_refl _⟩ ?_
      exact hend ((congrArg bI (by simp only [tg_kn4]; first | rw [if_neg (by omega), if_pos (by omega)] | rw [if_neg (by omega), if_neg (by omega), if_pos (by omega)] | rw [if_neg (by omega), if_neg (by omega), if_neg (by omega), if_pos (by omega)]))) dX6_isKnownFour_69
    refine lv_lookup (off := 54) (tgt := 75) hx hb dX6_isKnownFour_21 (by decide) (by rw [nI_toInt (by omega)]; exact (sw_ne (k := 1) hs21_0).trans ((sw_ne (k := 6) hs21_1).trans ((sw_ne (k := 17) hs21_2).trans (rfl)))) (by decide) ?_
    refine nv_iconst (k := 0) hx hb dX6_isKnownFour_75 rfl ?_
    exact hend ((bI_f (by simp only [tg_kn4]; first | rw [if_pos (by omega)] | rw [if_neg (by omega), if_neg (by omega), if_neg (by omega), if_neg (by omega)]))) dX6_isKnownFour_76
  refine nv_iconst (k := 0) hx hb dX6_isKnownFour_13 rfl ?_
  exact hend ((bI_f (by simp only [tg_kn4]; first | rw [if_pos (by omega)] | rw [if_neg (by omega), if_neg (by omega), if_neg (by omega), if_neg (by omega)]))) dX6_isKnownFour_14
theorem dX6_isPlacedFour_0 : decode cX6_isPlacedFour 0 = .ok (.aload_n 1, 1) := by decide +kernel
theorem dX6_isPlacedFour_1 : decode cX6_isPlacedFour 1 = .ok (.invokevirtual 67, 3) := by decide +kernel
theorem dX6_isPlacedFour_4 : decode cX6_isPlacedFour 4 = .ok (.ifCond .eq 32, 3) := by decide +kernel
theorem dX6_isPlacedFour_7 : decode cX6_isPlacedFour 7 = .ok (.aload_n 2, 1) := by decide +kernel
theorem dX6_isPlacedFour_8 : decode cX6_isPlacedFour 8 = .ok (.aload_n 0, 1) := by decide +kernel
theorem dX6_isPlacedFour_9 : decode cX6_isPlacedFour 9 = .ok (.bipush 16, 2) := by decide +kernel
theorem dX6_isPlacedFour_11 : decode cX6_isPlacedFour 11 = .ok (.invokevirtual 103, 3) := by decide +kernel
theorem dX6_isPlacedFour_14 : decode cX6_isPlacedFour 14 = .ok (.invokevirtual 106, 3) := by decide +kernel
theorem dX6_isPlacedFour_17 : decode cX6_isPlacedFour 17 = .ok (.ifCond .eq 19, 3) := by decide +kernel
theorem dX6_isPlacedFour_20 : decode cX6_isPlacedFour 20 = .ok (.aload_n 0, 1) := by decide +kernel
theorem dX6_isPlacedFour_21 : decode cX6_isPlacedFour 21 = .ok (.bipush 12, 2) := by decide +kernel
theorem dX6_isPlacedFour_23 : decode cX6_isPlacedFour 23 = .ok (.invokevirtual 103, 3) := by decide +kernel
theorem dX6_isPlacedFour_26 : decode cX6_isPlacedFour 26 = .ok (.invokestatic 86, 3) := by decide +kernel
theorem dX6_isPlacedFour_29 : decode cX6_isPlacedFour 29 = .ok (.ifCond .ne 7, 3) := by decide +kernel
theorem dX6_isPlacedFour_32 : decode cX6_isPlacedFour 32 = .ok (.iconst 1, 1) := by decide +kernel
theorem dX6_isPlacedFour_33 : decode cX6_isPlacedFour 33 = .ok (.goto 4, 3) := by decide +kernel
theorem dX6_isPlacedFour_36 : decode cX6_isPlacedFour 36 = .ok (.iconst 0, 1) := by decide +kernel
theorem dX6_isPlacedFour_37 : decode cX6_isPlacedFour 37 = .ok (.istore_n 3, 1) := by decide +kernel
theorem dX6_isPlacedFour_38 : decode cX6_isPlacedFour 38 = .ok (.iload_n 3, 1) := by decide +kernel
theorem dX6_isPlacedFour_39 : decode cX6_isPlacedFour 39 = .ok (.ifCond .eq 10, 3) := by decide +kernel
theorem dX6_isPlacedFour_42 : decode cX6_isPlacedFour 42 = .ok (.aload_n 0, 1) := by decide +kernel
theorem dX6_isPlacedFour_43 : decode cX6_isPlacedFour 43 = .ok (.invokestatic 109, 3) := by decide +kernel
theorem dX6_isPlacedFour_46 : decode cX6_isPlacedFour 46 = .ok (.ifCond .ne 5, 3) := by decide +kernel
theorem dX6_isPlacedFour_49 : decode cX6_isPlacedFour 49 = .ok (.iload_n 3, 1) := by decide +kernel
theorem dX6_isPlacedFour_50 : decode cX6_isPlacedFour 50 = .ok (.ireturn, 1) := by decide +kernel
theorem dX6_isPlacedFour_51 : decode cX6_isPlacedFour 51 = .ok (.aload_n 2, 1) := by decide +kernel
theorem dX6_isPlacedFour_52 : decode cX6_isPlacedFour 52 = .ok (.aload_n 0, 1) := by decide +kernel
theorem dX6_isPlacedFour_53 : decode cX6_isPlacedFour 53 = .ok (.bipush 40, 2) := by decide +kernel
theorem dX6_isPlacedFour_55 : decode cX6_isPlacedFour 55 = .ok (.invokevirtual 103, 3) := by decide +kernel
theorem dX6_isPlacedFour_58 : decode cX6_isPlacedFour 58 = .ok (.invokevirtual 106, 3) := by decide +kernel
theorem dX6_isPlacedFour_61 : decode cX6_isPlacedFour 61 = .ok (.ifCond .eq 19, 3) := by decide +kernel
theorem dX6_isPlacedFour_64 : decode cX6_isPlacedFour 64 = .ok (.aload_n 0, 1) := by decide +kernel
theorem dX6_isPlacedFour_65 : decode cX6_isPlacedFour 65 = .ok (.bipush 44, 2) := by decide +kernel
theorem dX6_isPlacedFour_67 : decode cX6_isPlacedFour 67 = .ok (.invokevirtual 103, 3) := by decide +kernel
theorem dX6_isPlacedFour_70 : decode cX6_isPlacedFour 70 = .ok (.invokestatic 86, 3) := by decide +kernel
theorem dX6_isPlacedFour_73 : decode cX6_isPlacedFour 73 = .ok (.ifCond .ne 7, 3) := by decide +kernel
theorem dX6_isPlacedFour_76 : decode cX6_isPlacedFour 76 = .ok (.iconst 1, 1) := by decide +kernel
theorem dX6_isPlacedFour_77 : decode cX6_isPlacedFour 77 = .ok (.goto 4, 3) := by decide +kernel
theorem dX6_isPlacedFour_80 : decode cX6_isPlacedFour 80 = .ok (.iconst 0, 1) := by decide +kernel
theorem dX6_isPlacedFour_81 : decode cX6_isPlacedFour 81 = .ok (.ireturn, 1) := by decide +kernel
theorem yv_X6_isPlacedFour : YS yX6_isPlacedFour cX6_isPlacedFour 4 (some .boolean) 3 := ⟨kw3_179, kw1_11, kw3_180, by decide +kernel⟩
set_option maxHeartbeats 4000000 in
set_option maxRecDepth 100000 in
theorem c_X6_isPlacedFour {l : Launch} {D : va_G} {cy : Nat → ClassId} {ws : va_W} {b n : Nat} {f : Nat → UInt8} (hB : PK cy ws b f n) {st bits F G : Nat} (hST : STP ws st bits F G) {po u : Nat} {g : Nat → Int32} (hPL : PLP cy ws po g u) : RO l yX6_isPlacedFour cX6_isPlacedFour 4 (some .boolean) 2 47 [.ref b, .ref st, .ref po] D cy ws (.int (bI (tg_pl4 (tg_rd f n) bits g u))) := by
  refine ROz (by decide) (lv0 := [(0, .ref b), (1, .ref st), (2, .ref po)]) rfl (Nat.le_of_ble_eq_true rfl) ?_
  intro p e s m args below meth c ls Q S hP hK hend hl
  have hx := S.1
  have hb := S.2.1
  have hown : s.vm.findClass RX6 = some m.cls := S.2.2.2.1
  have ht : ∀ w ∈ lw_g, w.before args s = true := fun w h => S.2.2.2.2 w (List.mem_cons_of_mem _ h)
  obtain ⟨kb, ka, ar, N, hb0, ha0, hnN, hN⟩ := id hB
  obtain ⟨ks, hs0, hsi⟩ := id hST
  have hbits := hsi.b
  have hF := hsi.F
  have hG := hsi.G
  obtain ⟨kp, kq, pa, hp0, hq0, hu⟩ := id hPL
  refine lv_aload_n hx hb dX6_isPlacedFour_0 rfl (lv_at hl 1 rfl) ?_
  refine ro_V S (c_X8_isSet hST) kw2_69 yv_X8_isSet ⟨Nat.le_of_ble_eq_true rfl, Nat.le_of_ble_eq_true rfl⟩ hK hP (va_recv hK hP (ci := 6) (q0 := ks) rfl hs0) rfl hl.1 rfl (Nat.le_of_ble_eq_true rfl) dX6_isPlacedFour_1 ⟨Nat.le_refl _, Nat.le_refl _⟩ ?_
  refine nv_if_eqb (tgt := 36) hx hb dX6_isPlacedFour_4 (by decide) (fun h4 => ?_) (fun h4 => ?_)
  · skip
    refine nv_iconst (k := 0) hx hb dX6_isPlacedFour_36 rfl ?_
    refine lv_istore_n (lv' := [(3, .int (nI 0)), (0, .ref b), (1, .ref st), (2, .ref po)]) hx hb dX6_isPlacedFour_37 rfl hl (by decide) rfl (fun ls hl => ?_)
    refine lv_iload_n hx hb dX6_isPlacedFour_38 rfl (lv_at hl 0 rfl) ?_
    refine nv_if_eq (tgt := 49) hx hb dX6_isPlacedFour_39 (by decide) (by omega) (fun _ => ?_) (fun h => absurd h (by decide))
    refine lv_iload_n hx hb dX6_isPlacedFour_49 rfl (lv_at hl 0 rfl) ?_
    exact hend ((bI_f (by simp only [tg_pl4] at *; simp_all))) dX6_isPlacedFour_50
  refine lv_aload_n hx hb dX6_isPlacedFour_7 rfl (lv_at hl 2 rfl) ?_
  refine lv_aload_n hx hb dX6_isPlacedFour_8 rfl (lv_at hl 0 rfl) ?_
  refine nv_bipush (k := 16) hx hb dX6_isPlacedFour_9 (by decide) ?_
  refine ro_V S (c_X1_quad hB (a := 16) (by omega)) kw3_181 yv_X1_quad ⟨Nat.le_of_ble_eq_true rfl, Nat.le_of_ble_eq_true rfl⟩ hK hP (va_recv hK hP (ci := 2) (q0 := kb) rfl hb0) rfl hl.1 rfl (Nat.le_of_ble_eq_true rfl) dX6_isPlacedFour_11 ⟨Nat.le_refl _, Nat.le_refl _⟩ ?_
  have hq11 := tg_qd_lt f n 16
  refine ro_V S (c_X5_has hPL (x := tg_qd (tg_rd f n) 16) (by omega)) kw3_185 yv_X5_has ⟨Nat.le_of_ble_eq_true rfl, Nat.le_of_ble_eq_true rfl⟩ hK hP (va_recv hK hP (ci := 4) (q0 := kp) rfl hp0) rfl hl.1 rfl (Nat.le_of_ble_eq_true rfl) dX6_isPlacedFour_14 ⟨Nat.le_refl _, Nat.le_refl _⟩ ?_
  refine nv_if_eqb (tgt := 36) hx hb dX6_isPlacedFour_17 (by decide) (fun h17 => ?_) (fun h17 => ?_)
  · skip
    refine nv_iconst (k := 0) hx hb dX6_isPlacedFour_36 rfl ?_
    refine lv_istore_n (lv' := [(3, .int (nI 0)), (0, .ref b), (1, .ref st), (2, .ref po)]) hx hb dX6_isPlacedFour_37 rfl hl (by decide) rfl (fun ls hl => ?_)
    refine lv_iload_n hx hb dX6_isPlacedFour_38 rfl (lv_at hl 0 rfl) ?_
    refine nv_if_eq (tgt := 49) hx hb dX6_isPlacedFour_39 (by decide) (by omega) (fun _ => ?_) (fun h => absurd h (by decide))
    refine lv_iload_n hx hb dX6_isPlacedFour_49 rfl (lv_at hl 0 rfl) ?_
    exact hend ((bI_f (by simp only [tg_pl4] at *; simp_all))) dX6_isPlacedFour_50
  refine lv_aload_n hx hb dX6_isPlacedFour_20 rfl (lv_at hl 0 rfl) ?_
  refine nv_bipush (k := 12) hx hb dX6_isPlacedFour_21 (by decide) ?_
  refine ro_V S (c_X1_quad hB (a := 12) (by omega)) kw3_181 yv_X1_quad ⟨Nat.le_of_ble_eq_true rfl, Nat.le_of_ble_eq_true rfl⟩ hK hP (va_recv hK hP (ci := 2) (q0 := kb) rfl hb0) rfl hl.1 rfl (Nat.le_of_ble_eq_true rfl) dX6_isPlacedFour_23 ⟨Nat.le_refl _, Nat.le_refl _⟩ ?_
  have hq23 := tg_qd_lt f n 12
  refine ro_S S (c_X5_isOdd (x := tg_qd (tg_rd f n) 12) (by omega)) kw2_82 yv_X5_isOdd ⟨Nat.le_of_ble_eq_true rfl, Nat.le_of_ble_eq_true rfl⟩ hK hP rfl hl.1 rfl (Nat.le_of_ble_eq_true rfl) dX6_isPlacedFour_26 ⟨Nat.le_refl _, Nat.le_refl _⟩ ?_
  refine nv_if_neb (tgt := 36) hx hb dX6_isPlacedFour_29 (by decide) (fun h29 => ?_) (fun h29 => ?_)
  · skip
    refine nv_iconst (k := 0) hx hb dX6_isPlacedFour_36 rfl ?_
    refine lv_istore_n (lv' := [(3, .int (nI 0)), (0, .ref b), (1, .ref st), (2, .ref po)]) hx hb dX6_isPlacedFour_37 rfl hl (by decide) rfl (fun ls hl => ?_)
    refine lv_iload_n hx hb dX6_isPlacedFour_38 rfl (lv_at hl 0 rfl) ?_
    refine nv_if_eq (tgt := 49) hx hb dX6_isPlacedFour_39 (by decide) (by omega) (fun _ => ?_) (fun h => absurd h (by decide))
    refine lv_iload_n hx hb dX6_isPlacedFour_49 rfl (lv_at hl 0 rfl) ?_
    exact hend ((bI_f (by simp only [tg_pl4] at *; simp_all))) dX6_isPlacedFour_50
  refine nv_iconst (k := 1) hx hb dX6_isPlacedFour_32 rfl ?_
  refine lv_goto (tgt := 37) hx hb dX6_isPlacedFour_33 (by decide) ?_
  refine lv_istore_n (lv' := [(3, .int (nI 1)), (0, .ref b), (1, .ref st), (2, .ref po)]) hx hb dX6_isPlacedFour_37 rfl hl (by decide) rfl (fun ls hl => ?_)
  refine lv_iload_n hx hb dX6_isPlacedFour_38 rfl (lv_at hl 0 rfl) ?_
  refine nv_if_eq (tgt := 49) hx hb dX6_isPlacedFour_39 (by decide) (by omega) (fun h => absurd h (by decide)) (fun _ => ?_)
  refine lv_aload_n hx hb dX6_isPlacedFour_42 rfl (lv_at hl 1 rfl) ?_
  refine ro_S S (c_X4_isError hB) kw3_186 yv_X4_isError ⟨Nat.le_of_ble_eq_true rfl, Nat.le_of_ble_eq_true rfl⟩ hK hP rfl hl.1 rfl (Nat.le_of_ble_eq_true rfl) dX6_isPlacedFour_43 ⟨Nat.le_refl _, Nat.le_refl _⟩ ?_
  refine nv_if_neb (tgt := 51) hx hb dX6_isPlacedFour_46 (by decide) (fun h46 => ?_) (fun h46 => ?_)
  · skip
    refine lv_aload_n hx hb dX6_isPlacedFour_51 rfl (lv_at hl 3 rfl) ?_
    refine lv_aload_n hx hb dX6_isPlacedFour_52 rfl (lv_at hl 1 rfl) ?_
    refine nv_bipush (k := 40) hx hb dX6_isPlacedFour_53 (by decide) ?_
    refine ro_V S (c_X1_quad hB (a := 40) (by omega)) kw3_181 yv_X1_quad ⟨Nat.le_of_ble_eq_true rfl, Nat.le_of_ble_eq_true rfl⟩ hK hP (va_recv hK hP (ci := 2) (q0 := kb) rfl hb0) rfl hl.1 rfl (Nat.le_of_ble_eq_true rfl) dX6_isPlacedFour_55 ⟨Nat.le_refl _, Nat.le_refl _⟩ ?_
    have hq55 := tg_qd_lt f n 40
    refine ro_V S (c_X5_has hPL (x := tg_qd (tg_rd f n) 40) (by omega)) kw3_185 yv_X5_has ⟨Nat.le_of_ble_eq_true rfl, Nat.le_of_ble_eq_true rfl⟩ hK hP (va_recv hK hP (ci := 4) (q0 := kp) rfl hp0) rfl hl.1 rfl (Nat.le_of_ble_eq_true rfl) dX6_isPlacedFour_58 ⟨Nat.le_refl _, Nat.le_refl _⟩ ?_
    refine nv_if_eqb (tgt := 80) hx hb dX6_isPlacedFour_61 (by decide) (fun h61 => ?_) (fun h61 => ?_)
    · skip
      refine nv_iconst (k := 0) hx hb dX6_isPlacedFour_80 rfl ?_
      exact hend ((bI_f (by simp only [tg_pl4] at *; simp_all))) dX6_isPlacedFour_81
    refine lv_aload_n hx hb dX6_isPlacedFour_64 rfl (lv_at hl 1 rfl) ?_
    refine nv_bipush (k := 44) hx hb dX6_isPlacedFour_65 (by decide) ?_
    refine ro_V S (c_X1_quad hB (a := 44) (by omega)) kw3_181 yv_X1_quad ⟨Nat.le_of_ble_eq_true rfl, Nat.le_of_ble_eq_true rfl⟩ hK hP (va_recv hK hP (ci := 2) (q0 := kb) rfl hb0) rfl hl.1 rfl (Nat.le_of_ble_eq_true rfl) dX6_isPlacedFour_67 ⟨Nat.le_refl _, Nat.le_refl _⟩ ?_
    have hq67 := tg_qd_lt f n 44
    refine ro_S S (c_X5_isOdd (x := tg_qd (tg_rd f n) 44) (by omega)) kw2_82 yv_X5_isOdd ⟨Nat.le_of_ble_eq_true rfl, Nat.le_of_ble_eq_true rfl⟩ hK hP rfl hl.1 rfl (Nat.le_of_ble_eq_true rfl) dX6_isPlacedFour_70 ⟨Nat.le_refl _, Nat.le_refl _⟩ ?_
    refine nv_if_neb (tgt := 80) hx hb dX6_isPlacedFour_73 (by decide) (fun h73 => ?_) (fun h73 => ?_)
    · skip
      refine nv_iconst (k := 0) hx hb dX6_isPlacedFour_80 rfl ?_
      exact hend ((bI_f (by simp only [tg_pl4] at *; simp_all))) dX6_isPlacedFour_81
    refine nv_iconst (k := 1) hx hb dX6_isPlacedFour_76 rfl ?_
    refine lv_goto (tgt := 81) hx hb dX6_isPlacedFour_77 (by decide) ?_
    exact hend ((bI_t (by simp only [tg_pl4] at *; simp_all))) dX6_isPlacedFour_81
  refine lv_iload_n hx hb dX6_isPlacedFour_49 rfl (lv_at hl 0 rfl) ?_
  exact hend ((bI_t (by simp only [tg_pl4] at *; simp_all))) dX6_isPlacedFour_50
theorem dX6_faultFromOutside_0 : decode cX6_faultFromOutside 0 = .ok (.aload_n 0, 1) := by decide +kernel
theorem dX6_faultFromOutside_1 : decode cX6_faultFromOutside 1 = .ok (.invokestatic 34, 3) := by decide +kernel
theorem dX6_faultFromOutside_4 : decode cX6_faultFromOutside 4 = .ok (.ifCond .ne 6, 3) := by decide +kernel
theorem dX6_faultFromOutside_7 : decode cX6_faultFromOutside 7 = .ok (.bipush 10, 2) := by decide +kernel
theorem dX6_faultFromOutside_9 : decode cX6_faultFromOutside 9 = .ok (.ireturn, 1) := by decide +kernel
theorem dX6_faultFromOutside_10 : decode cX6_faultFromOutside 10 = .ok (.aload_n 0, 1) := by decide +kernel
theorem dX6_faultFromOutside_11 : decode cX6_faultFromOutside 11 = .ok (.invokestatic 37, 3) := by decide +kernel
theorem dX6_faultFromOutside_14 : decode cX6_faultFromOutside 14 = .ok (.ifCond .ne 6, 3) := by decide +kernel
theorem dX6_faultFromOutside_17 : decode cX6_faultFromOutside 17 = .ok (.bipush 12, 2) := by decide +kernel
theorem dX6_faultFromOutside_19 : decode cX6_faultFromOutside 19 = .ok (.ireturn, 1) := by decide +kernel
theorem dX6_faultFromOutside_20 : decode cX6_faultFromOutside 20 = .ok (.aload_n 0, 1) := by decide +kernel
theorem dX6_faultFromOutside_21 : decode cX6_faultFromOutside 21 = .ok (.invokestatic 40, 3) := by decide +kernel
theorem dX6_faultFromOutside_24 : decode cX6_faultFromOutside 24 = .ok (.ifCond .ne 6, 3) := by decide +kernel
theorem dX6_faultFromOutside_27 : decode cX6_faultFromOutside 27 = .ok (.bipush 11, 2) := by decide +kernel
theorem dX6_faultFromOutside_29 : decode cX6_faultFromOutside 29 = .ok (.ireturn, 1) := by decide +kernel
theorem dX6_faultFromOutside_30 : decode cX6_faultFromOutside 30 = .ok (.aload_n 0, 1) := by decide +kernel
theorem dX6_faultFromOutside_31 : decode cX6_faultFromOutside 31 = .ok (.bipush 20, 2) := by decide +kernel
theorem dX6_faultFromOutside_33 : decode cX6_faultFromOutside 33 = .ok (.invokestatic 18, 3) := by decide +kernel
theorem dX6_faultFromOutside_36 : decode cX6_faultFromOutside 36 = .ok (.ifCond .ne 6, 3) := by decide +kernel
theorem dX6_faultFromOutside_39 : decode cX6_faultFromOutside 39 = .ok (.bipush 12, 2) := by decide +kernel
theorem dX6_faultFromOutside_41 : decode cX6_faultFromOutside 41 = .ok (.ireturn, 1) := by decide +kernel
theorem dX6_faultFromOutside_42 : decode cX6_faultFromOutside 42 = .ok (.aload_n 0, 1) := by decide +kernel
theorem dX6_faultFromOutside_43 : decode cX6_faultFromOutside 43 = .ok (.bipush 8, 2) := by decide +kernel
theorem dX6_faultFromOutside_45 : decode cX6_faultFromOutside 45 = .ok (.invokevirtual 24, 3) := by decide +kernel
theorem dX6_faultFromOutside_48 : decode cX6_faultFromOutside 48 = .ok (.iconst 2, 1) := by decide +kernel
theorem dX6_faultFromOutside_49 : decode cX6_faultFromOutside 49 = .ok (.if_icmp .ge 6, 3) := by decide +kernel
theorem dX6_faultFromOutside_52 : decode cX6_faultFromOutside 52 = .ok (.bipush 13, 2) := by decide +kernel
theorem dX6_faultFromOutside_54 : decode cX6_faultFromOutside 54 = .ok (.ireturn, 1) := by decide +kernel
theorem dX6_faultFromOutside_55 : decode cX6_faultFromOutside 55 = .ok (.aload_n 0, 1) := by decide +kernel
theorem dX6_faultFromOutside_56 : decode cX6_faultFromOutside 56 = .ok (.aload_n 1, 1) := by decide +kernel
theorem dX6_faultFromOutside_57 : decode cX6_faultFromOutside 57 = .ok (.aload_n 2, 1) := by decide +kernel
theorem dX6_faultFromOutside_58 : decode cX6_faultFromOutside 58 = .ok (.invokestatic 43, 3) := by decide +kernel
theorem dX6_faultFromOutside_61 : decode cX6_faultFromOutside 61 = .ok (.ifCond .eq 7, 3) := by decide +kernel
theorem dX6_faultFromOutside_64 : decode cX6_faultFromOutside 64 = .ok (.iconst 0, 1) := by decide +kernel
theorem dX6_faultFromOutside_65 : decode cX6_faultFromOutside 65 = .ok (.goto 5, 3) := by decide +kernel
theorem dX6_faultFromOutside_68 : decode cX6_faultFromOutside 68 = .ok (.bipush 14, 2) := by decide +kernel
theorem dX6_faultFromOutside_70 : decode cX6_faultFromOutside 70 = .ok (.ireturn, 1) := by decide +kernel
theorem yv_X6_faultFromOutside : YS yX6_faultFromOutside cX6_faultFromOutside 3 (some .int) 3 := ⟨kw3_159, kw1_11, kw3_160, by decide +kernel⟩
set_option maxHeartbeats 4000000 in
set_option maxRecDepth 100000 in
theorem c_X6_faultFromOutside {l : Launch} {D : va_G} {cy : Nat → ClassId} {ws : va_W} {b n : Nat} {f : Nat → UInt8} (hB : PK cy ws b f n) {st bits F G : Nat} (hST : STP ws st bits F G) {po u : Nat} {g : Nat → Int32} (hPL : PLP cy ws po g u) : RO l yX6_faultFromOutside cX6_faultFromOutside 3 (some .int) 4 94 [.ref b, .ref st, .ref po] D cy ws (.int (nI (tg_out (tg_rd f n) n bits g u))) := by
  refine ROi (by decide) (lv0 := [(0, .ref b), (1, .ref st), (2, .ref po)]) rfl (Nat.le_of_ble_eq_true rfl) ?_
  intro p e s m args below meth c ls Q S hP hK hend hl
  have hx := S.1
  have hb := S.2.1
  have hown : s.vm.findClass RX6 = some m.cls := S.2.2.2.1
  have ht : ∀ w ∈ lw_g, w.before args s = true := fun w h => S.2.2.2.2 w (List.mem_cons_of_mem _ h)
  obtain ⟨kb, ka, ar, N, hb0, ha0, hnN, hN⟩ := id hB
  refine lv_aload_n hx hb dX6_faultFromOutside_0 rfl (lv_at hl 0 rfl) ?_
  refine ro_S S (c_X6_isFramedFour hB) kw3_161 yv_X6_isFramedFour ⟨Nat.le_of_ble_eq_true rfl, Nat.le_of_ble_eq_true rfl⟩ hK hP rfl hl.1 rfl (Nat.le_of_ble_eq_true rfl) dX6_faultFromOutside_1 ⟨Nat.le_refl _, Nat.le_refl _⟩ ?_
  refine nv_if_neb (tgt := 10) hx hb dX6_faultFromOutside_4 (by decide) (fun h4 => ?_) (fun h4 => ?_)
  · skip
    have hn20 : 20 ≤ n := by have := h4; simp only [tg_fr4, decide_eq_true_eq] at this; omega
    refine lv_aload_n hx hb dX6_faultFromOutside_10 rfl (lv_at hl 0 rfl) ?_
    refine ro_S S (c_X9_headIsRight hB) kw3_164 yv_X9_headIsRight ⟨Nat.le_of_ble_eq_true rfl, Nat.le_of_ble_eq_true rfl⟩ hK hP rfl hl.1 rfl (Nat.le_of_ble_eq_true rfl) dX6_faultFromOutside_11 ⟨Nat.le_refl _, Nat.le_refl _⟩ ?_
    refine nv_if_neb (tgt := 20) hx hb dX6_faultFromOutside_14 (by decide) (fun h14 => ?_) (fun h14 => ?_)
    · skip
      refine lv_aload_n hx hb dX6_faultFromOutside_20 rfl (lv_at hl 0 rfl) ?_
      refine ro_S S (c_X6_isKnownFour hB (by omega)) kw3_168 yv_X6_isKnownFour ⟨Nat.le_of_ble_eq_true rfl, Nat.le_of_ble_eq_true rfl⟩ hK hP rfl hl.1 rfl (Nat.le_of_ble_eq_true rfl) dX6_faultFromOutside_21 ⟨Nat.le_refl _, Nat.le_refl _⟩ ?_
      refine nv_if_neb (tgt := 30) hx hb dX6_faultFromOutside_24 (by decide) (fun h24 => ?_) (fun h24 => ?_)
      · skip
        refine lv_aload_n hx hb dX6_faultFromOutside_30 rfl (lv_at hl 0 rfl) ?_
        refine nv_bipush (k := 20) hx hb dX6_faultFromOutside_31 (by decide) ?_
        refine ro_S S (c_X9_partIsRight hB (hd := 20) (by omega) (by omega)) kw2_44 yv_X9_partIsRight ⟨Nat.le_of_ble_eq_true rfl, Nat.le_of_ble_eq_true rfl⟩ hK hP rfl hl.1 rfl (Nat.le_of_ble_eq_true rfl) dX6_faultFromOutside_33 ⟨Nat.le_refl _, Nat.le_refl _⟩ ?_
        refine nv_if_neb (tgt := 42) hx hb dX6_faultFromOutside_36 (by decide) (fun h36 => ?_) (fun h36 => ?_)
        · skip
          refine lv_aload_n hx hb dX6_faultFromOutside_42 rfl (lv_at hl 0 rfl) ?_
          refine nv_bipush (k := 8) hx hb dX6_faultFromOutside_43 (by decide) ?_
          refine ro_V S (c_X1_octet hB (k := 8) (by omega)) kw2_14 yv_X1_octet ⟨Nat.le_of_ble_eq_true rfl, Nat.le_of_ble_eq_true rfl⟩ hK hP (va_recv hK hP (ci := 2) (q0 := kb) rfl hb0) rfl hl.1 rfl (Nat.le_of_ble_eq_true rfl) dX6_faultFromOutside_45 ⟨Nat.le_refl _, Nat.le_refl _⟩ ?_
          have hq45 := tg_rd_lt f n 8
          refine nv_iconst (k := 2) hx hb dX6_faultFromOutside_48 rfl ?_
          refine nv_icmp_ge (tgt := 55) hx hb dX6_faultFromOutside_49 (by decide) (by omega) (by omega) (fun h49 => ?_) (fun h49 => ?_)
          · skip
            refine lv_aload_n hx hb dX6_faultFromOutside_55 rfl (lv_at hl 0 rfl) ?_
            refine lv_aload_n hx hb dX6_faultFromOutside_56 rfl (lv_at hl 1 rfl) ?_
            refine lv_aload_n hx hb dX6_faultFromOutside_57 rfl (lv_at hl 2 rfl) ?_
            refine ro_S S (c_X6_isPlacedFour hB hST hPL) kw3_178 yv_X6_isPlacedFour ⟨Nat.le_of_ble_eq_true rfl, Nat.le_of_ble_eq_true rfl⟩ hK hP rfl hl.1 rfl (Nat.le_of_ble_eq_true rfl) dX6_faultFromOutside_58 ⟨Nat.le_refl _, Nat.le_refl _⟩ ?_
            refine nv_if_eqb (tgt := 68) hx hb dX6_faultFromOutside_61 (by decide) (fun h61 => ?_) (fun h61 => ?_)
            · skip
              refine nv_bipush (k := 14) hx hb dX6_faultFromOutside_68 (by decide) ?_
              exact hend ((congrArg nI (by simp only [tg_out]; simp_all <;> omega))) dX6_faultFromOutside_70
            refine nv_iconst (k := 0) hx hb dX6_faultFromOutside_64 rfl ?_
            refine lv_goto (tgt := 70) hx hb dX6_faultFromOutside_65 (by decide) ?_
            exact hend ((congrArg nI (by simp only [tg_out]; simp_all <;> omega))) dX6_faultFromOutside_70
          refine nv_bipush (k := 13) hx hb dX6_faultFromOutside_52 (by decide) ?_
          exact hend ((congrArg nI (by simp only [tg_out]; simp_all <;> omega))) dX6_faultFromOutside_54
        refine nv_bipush (k := 12) hx hb dX6_faultFromOutside_39 (by decide) ?_
        exact hend ((congrArg nI (by simp only [tg_out]; simp_all <;> omega))) dX6_faultFromOutside_41
      refine nv_bipush (k := 11) hx hb dX6_faultFromOutside_27 (by decide) ?_
      exact hend ((congrArg nI (by simp only [tg_out]; simp_all <;> omega))) dX6_faultFromOutside_29
    refine nv_bipush (k := 12) hx hb dX6_faultFromOutside_17 (by decide) ?_
    exact hend ((congrArg nI (by simp only [tg_out]; simp_all <;> omega))) dX6_faultFromOutside_19
  refine nv_bipush (k := 10) hx hb dX6_faultFromOutside_7 (by decide) ?_
  exact hend ((congrArg nI (by simp only [tg_out]; simp_all <;> omega))) dX6_faultFromOutside_9
end
section
/-! A WORLD IN WHICH A Bytes OBJECT (at place kb, its array at ka) HOLDS f, n -/
def wB (ws : va_W) (kb ka b ar N : Nat) (cy : Nat → ClassId) (f : Nat → UInt8) (n : Nat) : va_W := (ws.set kb (b, .inr (2, [.ref ar, .int (nI n)]))).set ka (ar, .inl (cy 0, N, .inl (bt f)))
section WB
variable {ws : va_W} {kb ka b ar N : Nat} {cy : Nat → ClassId} {f g : Nat → UInt8} {n n2 : Nat}
theorem lst_lt {α : Type} {l : List α} {k : Nat} {x : α} (h : l[k]? = some x) : k < l.length := (List.getElem?_eq_some_iff.mp h).1
theorem lst_same {α : Type} {l : List α} {k : Nat} {x : α} (h : l[k]? = some x) : l.set k x = l := by
  apply List.ext_getElem?
  intro i
  by_cases e : k = i
  · subst e; rw [List.getElem?_set_self (lst_lt h), h]
  · rw [List.getElem?_set_ne e]
theorem lst_ne {ws : va_W} {i j : Nat} {p q : Nat × va_E} (hi : ws[i]? = some p) (hj : ws[j]? = some q) (h : p ≠ q) : i ≠ j := fun e => h (by subst e; rw [hi] at hj; exact Option.some.inj hj)
theorem wB_self (hb : ws[kb]? = some (b, .inr (2, [.ref ar, .int (nI n)]))) (ha : ws[ka]? = some (ar, .inl (cy 0, N, .inl (bt f)))) : wB ws kb ka b ar N cy f n = ws := by
  unfold wB
  rw [lst_same hb, lst_same ha]
theorem wB_b {x : Nat × va_E} (hne : kb ≠ ka) (hb : ws[kb]? = some x) : (wB ws kb ka b ar N cy f n)[kb]? = some (b, .inr (2, [.ref ar, .int (nI n)])) := by
  unfold wB
  rw [List.getElem?_set_ne (Ne.symm hne), List.getElem?_set_self (lst_lt hb)]
theorem wB_a {x : Nat × va_E} (ha : ws[ka]? = some x) : (wB ws kb ka b ar N cy f n)[ka]? = some (ar, .inl (cy 0, N, .inl (bt f))) := by
  unfold wB
  rw [List.getElem?_set_self (by rw [List.length_set]; exact lst_lt ha)]
theorem wB_o {k : Nat} {x : Nat × va_E} (h1 : kb ≠ k) (h2 : ka ≠ k) (h : ws[k]? = some x) : (wB ws kb ka b ar N cy f n)[k]? = some x := by
  unfold wB
  rw [List.getElem?_set_ne h2, List.getElem?_set_ne h1, h]
theorem wB_setA : (wB ws kb ka b ar N cy f n).set ka (ar, .inl (cy 0, N, .inl (bt g))) = wB ws kb ka b ar N cy g n := by
  unfold wB
  rw [List.set_set]
theorem wB_setB (hne : kb ≠ ka) : (wB ws kb ka b ar N cy f n).set kb (b, .inr (2, [.ref ar, .int (nI n2)])) = wB ws kb ka b ar N cy f n2 := by
  unfold wB
  rw [List.set_comm _ _ (Ne.symm hne), List.set_set]
theorem wB_wB (hne : kb ≠ ka) : wB (wB ws kb ka b ar N cy f n) kb ka b ar N cy g n2 = wB ws kb ka b ar N cy g n2 := by
  show ((wB ws kb ka b ar N cy f n).set kb (b, .inr (2, [.ref ar, .int (nI n2)]))).set ka (ar, .inl (cy 0, N, .inl (bt g))) = _
  rw [wB_setB hne, wB_setA]
end WB
/-- the low `many` bytes of x, highest first, put at `a` -/
def tg_put (f : Nat → UInt8) (a many x : Nat) : Nat → UInt8 := fun i => if a ≤ i ∧ i < a + many then UInt8.ofNat (x / 2 ^ (8 * (many - 1 - (i - a)))) else f i
theorem by8_lr {v : Int64} {x k : Nat} (hk : k < 64) (hv : v.toBitVec.toNat / 2 ^ k % 256 = x / 2 ^ k % 256) : by8 ((v.toUInt64 >>> ((nI k).toInt64.toUInt64 &&& Int64.toUInt64 63)).toInt64.toInt32) = UInt8.ofNat (x / 2 ^ k) := by
  obtain ⟨a, ha, rfl⟩ := lN_of v
  rw [lN_toNat ha] at hv
  rw [lN_ushr ha hk, lN_i, by8_nI]
  apply UInt8.toNat_inj.mp
  rw [UInt8.toNat_ofNat', UInt8.toNat_ofNat']
  exact hv
theorem tg_put_step (f : Nat → UInt8) (a many x j : Nat) (hj : j < many) : va_up (fun i => if a ≤ i ∧ i < a + j then UInt8.ofNat (x / 2 ^ (8 * (many - 1 - (i - a)))) else f i) (a + j) (UInt8.ofNat (x / 2 ^ (8 * (many - 1 - j)))) = (fun i => if a ≤ i ∧ i < a + (j + 1) then UInt8.ofNat (x / 2 ^ (8 * (many - 1 - (i - a)))) else f i) := by
  funext i
  unfold va_up
  by_cases e : i = a + j
  · subst e
    rw [if_pos rfl, if_pos (by omega), show a + j - a = j by omega]
  · rw [if_neg e]
    dsimp only
    by_cases h : a ≤ i ∧ i < a + j
    · rw [if_pos h, if_pos (by omega)]
    · rw [if_neg h, if_neg (by omega)]
theorem bt_cpy (f g : Nat → UInt8) (a z k : Nat) : va_cpy (bt f) (bt g) a z k = bt (va_cpy f g a z k) := by
  funext i
  unfold va_cpy bt
  by_cases h : z ≤ i ∧ i < z + k
  · simp [h]
  · simp [h]
section NV4
variable {p : Program} {l : Launch} {e : Env} {R : Room} {s : State} {m : MethodId} {args : Array Value} {below : List Frame} {meth : Method} {c : Code} {H : Heap} {locs : List Loc} {cells slots : Nat} {Q : State → Prop}
variable {cc : ByteArray} {pc : Nat} {ls : Array Slot} {rest : List Value} {a b : Nat} {own : String} {index : Nat}
theorem nI_min {a b : Nat} (ha : a < 2 ^ 31) (hb : b < 2 ^ 31) : (if nI b < nI a then nI b else nI a) = nI (min a b) := by
  by_cases h : b < a
  · rw [if_pos ((nI_ltI hb ha).mpr h), Nat.min_eq_right (Nat.le_of_lt h)]
  · rw [if_neg (fun z => h ((nI_ltI hb ha).mp z)), Nat.min_eq_left (Nat.le_of_not_lt h)]
theorem nI_max {a b : Nat} (ha : a < 2 ^ 31) (hb : b < 2 ^ 31) : (if nI a < nI b then nI b else nI a) = nI (max a b) := by
  by_cases h : a < b
  · rw [if_pos ((nI_ltI ha hb).mpr h), Nat.max_eq_right (Nat.le_of_lt h)]
  · rw [if_neg (fun z => h ((nI_ltI ha hb).mp z)), Nat.max_eq_left (Nat.le_of_not_lt h)]
theorem nv_min (hx : p.tables.exec = Jvm.exec) (hb : c.code = cc) (hml : c.maxLocals = ls.size) (hown : s.vm.findClass own = some m.cls) (hlink : (Cond.methodLink own index Lib.Math.min.name).before args s = true) (hstat : (Cond.static Lib.Math.min.name).before args s = true) (hini : (Cond.initialized "java/lang/Math").before args s = true) (hcode : (Cond.code Lib.Math.min.name Lib.Math.min.code 2 (some .int)).before args s = true)
    (hframes : 1 ≤ R.frames) (hlocals : (rest.map fun v => v.category).sum + 13 ≤ R.locals) (hc : cells ≤ R.cells) (hs : slots ≤ R.slots) (ha : a < 2 ^ 31) (hb2 : b < 2 ^ 31) (hdg : decode cc pc = .ok (.invokestatic index, 3))
    (kk : W p l e R s m args below meth c H locs cells slots Q (F0 m (pc + 3) ls (.int (nI (min a b)) :: rest))) : W p l e R s m args below meth c H locs cells slots Q (F0 m pc ls (.int (nI b) :: .int (nI a) :: rest)) :=
  va_mmin hx hb hml hown hlink hstat hini hcode hframes hlocals hc hs hdg (by rw [nI_min ha hb2]; exact kk)
theorem nv_max (hx : p.tables.exec = Jvm.exec) (hb : c.code = cc) (hml : c.maxLocals = ls.size) (hown : s.vm.findClass own = some m.cls) (hlink : (Cond.methodLink own index Lib.Math.max.name).before args s = true) (hstat : (Cond.static Lib.Math.max.name).before args s = true) (hini : (Cond.initialized "java/lang/Math").before args s = true) (hcode : (Cond.code Lib.Math.max.name Lib.Math.max.code 2 (some .int)).before args s = true)
    (hframes : 1 ≤ R.frames) (hlocals : (rest.map fun v => v.category).sum + 13 ≤ R.locals) (hc : cells ≤ R.cells) (hs : slots ≤ R.slots) (ha : a < 2 ^ 31) (hb2 : b < 2 ^ 31) (hdg : decode cc pc = .ok (.invokestatic index, 3))
    (kk : W p l e R s m args below meth c H locs cells slots Q (F0 m (pc + 3) ls (.int (nI (max a b)) :: rest))) : W p l e R s m args below meth c H locs cells slots Q (F0 m pc ls (.int (nI b) :: .int (nI a) :: rest)) :=
  va_mmax hx hb hml hown hlink hstat hini hcode hframes hlocals hc hs hdg (by rw [nI_max ha hb2]; exact kk)
end NV4
theorem by8_n (x : Int32) : by8 x.toInt8.toInt32 = by8 x := by
  have h : x.toInt8.toInt32.toInt8 = x.toInt8 := by
    have := u8_rt x.toInt8.toUInt8
    unfold by8 at this
    have h2 : x.toInt8.toUInt8.toInt8 = x.toInt8 := rfl
    rw [h2] at this
    have h3 := congrArg UInt8.toInt8 this
    exact h3
  unfold by8
  rw [h]
theorem w_low {x : Nat} (h : x < 2 ^ 32) : (nI x).toInt64.toBitVec.toNat % 2 ^ 32 = x := by
  show ((BitVec.ofNat 32 x).signExtend 64).toNat % 2 ^ 32 = x
  have h1 : ((BitVec.ofNat 32 x).signExtend 64).setWidth 32 = BitVec.ofNat 32 x := by
    apply BitVec.eq_of_getLsbD_eq
    intro i hi
    rw [BitVec.getLsbD_setWidth, BitVec.getLsbD_signExtend]
    simp [hi, show i < 64 by omega]
  have h2 := congrArg BitVec.toNat h1
  rw [BitVec.toNat_setWidth, BitVec.toNat_ofNat, Nat.mod_eq_of_lt h] at h2
  exact h2
theorem w_byte {x : Nat} (h : x < 2 ^ 32) (k : Nat) (hk : k < 4) : (nI x).toInt64.toBitVec.toNat / 2 ^ (8 * k) % 256 = x / 2 ^ (8 * k) % 256 := by
  have h1 := w_low h
  generalize (nI x).toInt64.toBitVec.toNat = y at h1
  rcases (show k = 0 ∨ k = 1 ∨ k = 2 ∨ k = 3 by omega) with rfl | rfl | rfl | rfl <;> simp <;> omega
theorem nI_subw {a b : Nat} (hb : b ≤ 4294967296) : nI a - nI b = nI ((a + 4294967296 - b) % 4294967296) := by
  apply Int32.toBitVec_inj.mp
  apply BitVec.eq_of_toNat_eq
  show (BitVec.ofNat 32 a - BitVec.ofNat 32 b).toNat = (BitVec.ofNat 32 ((a + 4294967296 - b) % 4294967296)).toNat
  rw [BitVec.toNat_sub, BitVec.toNat_ofNat, BitVec.toNat_ofNat, BitVec.toNat_ofNat]
  omega
theorem va_cpy0 {f g : Nat → UInt8} {a z : Nat} : g = va_cpy f g a z 0 := by
  funext i
  unfold va_cpy
  rw [if_neg (by omega)]
end
section
theorem dX1_resize_0 : decode cX1_resize 0 = .ok (.aload_n 0, 1) := by decide +kernel
theorem dX1_resize_1 : decode cX1_resize 1 = .ok (.iconst 0, 1) := by decide +kernel
theorem dX1_resize_2 : decode cX1_resize 2 = .ok (.iload_n 1, 1) := by decide +kernel
theorem dX1_resize_3 : decode cX1_resize 3 = .ok (.aload_n 0, 1) := by decide +kernel
theorem dX1_resize_4 : decode cX1_resize 4 = .ok (.getfield 13, 3) := by decide +kernel
theorem dX1_resize_7 : decode cX1_resize 7 = .ok (.arraylength, 1) := by decide +kernel
theorem dX1_resize_8 : decode cX1_resize 8 = .ok (.invokestatic 23, 3) := by decide +kernel
theorem dX1_resize_11 : decode cX1_resize 11 = .ok (.invokestatic 7, 3) := by decide +kernel
theorem dX1_resize_14 : decode cX1_resize 14 = .ok (.putfield 19, 3) := by decide +kernel
theorem dX1_resize_17 : decode cX1_resize 17 = .ok (.return_, 1) := by decide +kernel
theorem yv_X1_resize : YV RX1 yX1_resize cX1_resize 2 none 1 := ⟨kw1_225, kw1_226, kw1_2, kw1_227, by decide +kernel⟩
set_option maxHeartbeats 4000000 in
set_option maxRecDepth 100000 in
theorem c_X1_resize {l : Launch} {D : va_G} {cy : Nat → ClassId} {ws : va_W} {kb ka b ar N n : Nat} {f : Nat → UInt8} (hb0 : ws[kb]? = some (b, .inr (2, [.ref ar, .int (nI n)]))) (ha0 : ws[ka]? = some (ar, .inl (cy 0, N, .inl (bt f)))) (hnN : n ≤ N) (hN : N ≤ 1700) {x : Nat} (hx0 : x ≤ N) : WR (S := Unit) l yX1_resize cX1_resize 2 none 1 0 0 15 [.ref b, .int (nI x)] D cy ws (fun _ => none) (fun _ => True) (fun _ => wB ws kb ka b ar N cy f x) := by
  refine WRv (by decide) (lv0 := [(0, .ref b), (1, .int (nI x))]) rfl (Nat.le_of_ble_eq_true rfl) ?_
  intro p e s m args below meth c ls A Q S hnm hP hK hD hS hA hend hl
  have hx := S.1
  have hb := S.2.1
  have hown : s.vm.findClass RX1 = some m.cls := S.2.2.2.1
  have ht : ∀ w ∈ lw_g, w.before args s = true := fun w h => S.2.2.2.2 w (List.mem_cons_of_mem _ h)
  have hne : kb ≠ ka := lst_ne hb0 ha0 (fun z => by cases z)
  have hP : va_P D vwCl (wB ws kb ka b ar N cy f n) s.heap := by rw [wB_self hb0 ha0]; exact hP
  have hD : va_D A (wB ws kb ka b ar N cy f n) := by rw [wB_self hb0 ha0]; exact hD
  refine lv_aload_n hx hb dX1_resize_0 rfl (lv_at hl 0 rfl) ?_
  refine nv_iconst (k := 0) hx hb dX1_resize_1 rfl ?_
  refine lv_iload_n hx hb dX1_resize_2 rfl (lv_at hl 1 rfl) ?_
  refine lv_aload_n hx hb dX1_resize_3 rfl (lv_at hl 0 rfl) ?_
  refine va_get (ci := 2) (C := RX1) (T := TX1) (N := 2) hx hb ht iFX1 hown hK hP kb (wB_b hne hb0) rfl 0 (by decide) (ht _ kw1_40) (fun _ h9 => h9) rfl dX1_resize_4 ?_
  refine va_alen (v := nI (N)) hx hb hK hP ka 0 (wB_a ha0) rfl rfl dX1_resize_7 ?_
  refine nv_min hx hb (S.2.2.1.trans hl.1.symm) hown (ht _ kw1_228) (ht _ kw1_229) (ht _ kw1_3) (ht _ kw1_230) (Nat.le_of_ble_eq_true rfl) (Nat.le_of_ble_eq_true rfl) (Nat.zero_le _) (Nat.zero_le _) (by omega) (by omega) dX1_resize_8 ?_
  refine nv_max hx hb (S.2.2.1.trans hl.1.symm) hown (ht _ kw1_37) (ht _ kw1_38) (ht _ kw1_3) (ht _ kw1_39) (Nat.le_of_ble_eq_true rfl) (Nat.le_of_ble_eq_true rfl) (Nat.zero_le _) (Nat.zero_le _) (by omega) (by omega) dX1_resize_11 ?_
  refine va_put (ci := 2) (C := RX1) (T := TX1) (N := 2) (ty := tyX1 1) hx hb ht iFX1 tyX1 tyX1_ok nmX1 hown hK hP hD hS kb (wB_b hne hb0) rfl 1 (by decide) (ht _ kw1_41) (fun _ h9 => h9) rfl (by decide +kernel) (by first | rfl | decide) (by first | rfl | decide) (Nat.le_of_ble_eq_true rfl) dX1_resize_14 (fun H locs hP hD hS => ?_)
  rw [show ([.ref ar, .int (nI n)] : List Value).set 1 (.int (nI (max 0 (min x N)))) = [.ref ar, .int (nI (max 0 (min x N)))] from rfl, wB_setB hne] at hP hD
  rw [show max 0 (min x N) = x by omega] at hP hD
  exact hend () trivial hP hD hS dX1_resize_17
theorem dX1_put_0 : decode cX1_put 0 = .ok (.iload_n 1, 1) := by decide +kernel
theorem dX1_put_1 : decode cX1_put 1 = .ok (.ifCond .lt 19, 3) := by decide +kernel
theorem dX1_put_4 : decode cX1_put 4 = .ok (.iload_n 1, 1) := by decide +kernel
theorem dX1_put_5 : decode cX1_put 5 = .ok (.aload_n 0, 1) := by decide +kernel
theorem dX1_put_6 : decode cX1_put 6 = .ok (.getfield 19, 3) := by decide +kernel
theorem dX1_put_9 : decode cX1_put 9 = .ok (.if_icmp .ge 11, 3) := by decide +kernel
theorem dX1_put_12 : decode cX1_put 12 = .ok (.aload_n 0, 1) := by decide +kernel
theorem dX1_put_13 : decode cX1_put 13 = .ok (.getfield 13, 3) := by decide +kernel
theorem dX1_put_16 : decode cX1_put 16 = .ok (.iload_n 1, 1) := by decide +kernel
theorem dX1_put_17 : decode cX1_put 17 = .ok (.iload_n 2, 1) := by decide +kernel
theorem dX1_put_18 : decode cX1_put 18 = .ok (.i2b, 1) := by decide +kernel
theorem dX1_put_19 : decode cX1_put 19 = .ok (.bastore, 1) := by decide +kernel
theorem dX1_put_20 : decode cX1_put 20 = .ok (.return_, 1) := by decide +kernel
theorem yv_X1_put : YV RX1 yX1_put cX1_put 3 none 2 := ⟨kw3_122, kw3_123, kw1_2, kw3_124, by decide +kernel⟩
set_option maxHeartbeats 4000000 in
set_option maxRecDepth 100000 in
theorem c_X1_put {l : Launch} {D : va_G} {cy : Nat → ClassId} {ws : va_W} {kb ka b ar N n : Nat} {f : Nat → UInt8} (hb0 : ws[kb]? = some (b, .inr (2, [.ref ar, .int (nI n)]))) (ha0 : ws[ka]? = some (ar, .inl (cy 0, N, .inl (bt f)))) (hnN : n ≤ N) (hN : N ≤ 1700) {k : Nat} {x : Int32} (hk : k < n) : WR (S := (Nat → UInt8)) l yX1_put cX1_put 3 none 0 0 0 0 [.ref b, .int (nI k), .int x] D cy ws (fun _ => none) (fun g => g = va_up f k (by8 x)) (fun g => wB ws kb ka b ar N cy g n) := by
  refine WRv (by decide) (lv0 := [(0, .ref b), (1, .int (nI k)), (2, .int x)]) rfl (Nat.le_of_ble_eq_true rfl) ?_
  intro p e s m args below meth c ls A Q S hnm hP hK hD hS hA hend hl
  have hx := S.1
  have hb := S.2.1
  have hown : s.vm.findClass RX1 = some m.cls := S.2.2.2.1
  have ht : ∀ w ∈ lw_g, w.before args s = true := fun w h => S.2.2.2.2 w (List.mem_cons_of_mem _ h)
  have hne : kb ≠ ka := lst_ne hb0 ha0 (fun z => by cases z)
  have hP : va_P D vwCl (wB ws kb ka b ar N cy f n) s.heap := by rw [wB_self hb0 ha0]; exact hP
  have hD : va_D A (wB ws kb ka b ar N cy f n) := by rw [wB_self hb0 ha0]; exact hD
  refine lv_iload_n hx hb dX1_put_0 rfl (lv_at hl 1 rfl) ?_
  refine nv_if_lt (tgt := 20) hx hb dX1_put_1 (by decide) (by omega) ?_
  refine lv_iload_n hx hb dX1_put_4 rfl (lv_at hl 1 rfl) ?_
  refine lv_aload_n hx hb dX1_put_5 rfl (lv_at hl 0 rfl) ?_
  refine va_get (ci := 2) (C := RX1) (T := TX1) (N := 2) hx hb ht iFX1 hown hK hP kb (wB_b hne hb0) rfl 1 (by decide) (ht _ kw1_41) (fun _ h9 => h9) rfl dX1_put_6 ?_
  refine nv_icmp_ge (tgt := 20) hx hb dX1_put_9 (by decide) (by omega) (by omega) (fun h9 => ?_) (fun h9 => ?_)
  · skip
    exact absurd hk (by omega)
  refine lv_aload_n hx hb dX1_put_12 rfl (lv_at hl 0 rfl) ?_
  refine va_get (ci := 2) (C := RX1) (T := TX1) (N := 2) hx hb ht iFX1 hown hK hP kb (wB_b hne hb0) rfl 0 (by decide) (ht _ kw1_40) (fun _ h9 => h9) rfl dX1_put_13 ?_
  refine lv_iload_n hx hb dX1_put_16 rfl (lv_at hl 1 rfl) ?_
  refine lv_iload_n hx hb dX1_put_17 rfl (lv_at hl 2 rfl) ?_
  refine lv_i2b hx hb dX1_put_18 rfl ?_
  refine nv_bast hx hb hK hP hD hS ka (wB_a ha0) (by omega) (by omega) dX1_put_19 (fun H locs hP hD hS => ?_)
  rw [wB_setA] at hP hD
  rw [by8_n] at hP hD
  exact hend _ rfl hP hD hS dX1_put_20
theorem dX1_putNumber_0 : decode cX1_putNumber 0 = .ok (.iconst 0, 1) := by decide +kernel
theorem dX1_putNumber_1 : decode cX1_putNumber 1 = .ok (.istore 5, 2) := by decide +kernel
theorem dX1_putNumber_3 : decode cX1_putNumber 3 = .ok (.iload 5, 2) := by decide +kernel
theorem dX1_putNumber_5 : decode cX1_putNumber 5 = .ok (.iload_n 2, 1) := by decide +kernel
theorem dX1_putNumber_6 : decode cX1_putNumber 6 = .ok (.if_icmp .ge 49, 3) := by decide +kernel
theorem dX1_putNumber_9 : decode cX1_putNumber 9 = .ok (.iload_n 1, 1) := by decide +kernel
theorem dX1_putNumber_10 : decode cX1_putNumber 10 = .ok (.iload 5, 2) := by decide +kernel
theorem dX1_putNumber_12 : decode cX1_putNumber 12 = .ok (.iadd, 1) := by decide +kernel
theorem dX1_putNumber_13 : decode cX1_putNumber 13 = .ok (.istore 6, 2) := by decide +kernel
theorem dX1_putNumber_15 : decode cX1_putNumber 15 = .ok (.iload 6, 2) := by decide +kernel
theorem dX1_putNumber_17 : decode cX1_putNumber 17 = .ok (.ifCond .lt 32, 3) := by decide +kernel
theorem dX1_putNumber_20 : decode cX1_putNumber 20 = .ok (.iload 6, 2) := by decide +kernel
theorem dX1_putNumber_22 : decode cX1_putNumber 22 = .ok (.aload_n 0, 1) := by decide +kernel
theorem dX1_putNumber_23 : decode cX1_putNumber 23 = .ok (.getfield 19, 3) := by decide +kernel
theorem dX1_putNumber_26 : decode cX1_putNumber 26 = .ok (.if_icmp .ge 23, 3) := by decide +kernel
theorem dX1_putNumber_29 : decode cX1_putNumber 29 = .ok (.aload_n 0, 1) := by decide +kernel
theorem dX1_putNumber_30 : decode cX1_putNumber 30 = .ok (.getfield 13, 3) := by decide +kernel
theorem dX1_putNumber_33 : decode cX1_putNumber 33 = .ok (.iload 6, 2) := by decide +kernel
theorem dX1_putNumber_35 : decode cX1_putNumber 35 = .ok (.lload_n 3, 1) := by decide +kernel
theorem dX1_putNumber_36 : decode cX1_putNumber 36 = .ok (.bipush 8, 2) := by decide +kernel
theorem dX1_putNumber_38 : decode cX1_putNumber 38 = .ok (.iload_n 2, 1) := by decide +kernel
theorem dX1_putNumber_39 : decode cX1_putNumber 39 = .ok (.iconst 1, 1) := by decide +kernel
theorem dX1_putNumber_40 : decode cX1_putNumber 40 = .ok (.isub, 1) := by decide +kernel
theorem dX1_putNumber_41 : decode cX1_putNumber 41 = .ok (.iload 5, 2) := by decide +kernel
theorem dX1_putNumber_43 : decode cX1_putNumber 43 = .ok (.isub, 1) := by decide +kernel
theorem dX1_putNumber_44 : decode cX1_putNumber 44 = .ok (.imul, 1) := by decide +kernel
theorem dX1_putNumber_45 : decode cX1_putNumber 45 = .ok (.lushr, 1) := by decide +kernel
theorem dX1_putNumber_46 : decode cX1_putNumber 46 = .ok (.l2i, 1) := by decide +kernel
theorem dX1_putNumber_47 : decode cX1_putNumber 47 = .ok (.i2b, 1) := by decide +kernel
theorem dX1_putNumber_48 : decode cX1_putNumber 48 = .ok (.bastore, 1) := by decide +kernel
theorem dX1_putNumber_49 : decode cX1_putNumber 49 = .ok (.iinc 5 1, 3) := by decide +kernel
theorem dX1_putNumber_52 : decode cX1_putNumber 52 = .ok (.goto (-49), 3) := by decide +kernel
theorem dX1_putNumber_55 : decode cX1_putNumber 55 = .ok (.return_, 1) := by decide +kernel
theorem yv_X1_putNumber : YV RX1 yX1_putNumber cX1_putNumber 7 none 3 := ⟨kw1_237, kws_0, kw1_2, kw1_238, by decide +kernel⟩
set_option maxHeartbeats 4000000 in
set_option maxRecDepth 100000 in
theorem c_X1_putNumber {l : Launch} {D : va_G} {cy : Nat → ClassId} {ws : va_W} {kb ka b ar N n : Nat} {f : Nat → UInt8} (hb0 : ws[kb]? = some (b, .inr (2, [.ref ar, .int (nI n)]))) (ha0 : ws[ka]? = some (ar, .inl (cy 0, N, .inl (bt f)))) (hnN : n ≤ N) (hN : N ≤ 1700) {a many x : Nat} {v : Int64} (hm : many ≤ 8) (hk : a + many ≤ n) (hv : ∀ k, k < many → v.toBitVec.toNat / 2 ^ (8 * k) % 256 = x / 2 ^ (8 * k) % 256) : WR (S := (Nat → UInt8)) l yX1_putNumber cX1_putNumber 7 none 0 0 0 0 [.ref b, .int (nI a), .int (nI many), .long v] D cy ws (fun _ => none) (fun g => g = tg_put f a many x) (fun g => wB ws kb ka b ar N cy g n) := by
  refine WRv (by decide) (lv0 := [(0, .ref b), (1, .int (nI a)), (2, .int (nI many)), (3, .long v)]) rfl (Nat.le_of_ble_eq_true rfl) ?_
  intro p e s m args below meth c ls A Q S hnm hP hK hD hS hA hend hl
  have hx := S.1
  have hb := S.2.1
  have hown : s.vm.findClass RX1 = some m.cls := S.2.2.2.1
  have ht : ∀ w ∈ lw_g, w.before args s = true := fun w h => S.2.2.2.2 w (List.mem_cons_of_mem _ h)
  have hne : kb ≠ ka := lst_ne hb0 ha0 (fun z => by cases z)
  have hP : va_P D vwCl (wB ws kb ka b ar N cy f n) s.heap := by rw [wB_self hb0 ha0]; exact hP
  have hD : va_D A (wB ws kb ka b ar N cy f n) := by rw [wB_self hb0 ha0]; exact hD
  refine nv_iconst (k := 0) hx hb dX1_putNumber_0 rfl ?_
  refine lv_istore (lv' := [(5, .int (nI 0)), (0, .ref b), (1, .int (nI a)), (2, .int (nI many)), (3, .long v)]) hx hb dX1_putNumber_1 hl (by decide) rfl (fun ls hl => ?_)
  have L3 : ∀ (fu j : Nat) (H : Heap) (locs : List Loc), many - j < fu → j ≤ many → va_P D vwCl (wB ws kb ka b ar N cy (fun i => if a ≤ i ∧ i < a + j then UInt8.ofNat (x / 2 ^ (8 * (many - 1 - (i - a)))) else f i) n) H → va_D A (wB ws kb ka b ar N cy (fun i => if a ≤ i ∧ i < a + j then UInt8.ofNat (x / 2 ^ (8 * (many - 1 - (i - a)))) else f i) n) → va_S A s.heap H locs → ∀ ls : Array Slot, lv_has ls 7 [(0, .ref b), (1, .int (nI a)), (2, .int (nI many)), (3, .long v), (5, .int (nI j))] → W p l e (rmw 0 0 0 0) s m args below meth c H locs 0 0 Q (F0 m 3 ls []) := by
    intro fu
    induction fu with
    | zero => intro j H locs h9; omega
    | succ fu ih =>
      intro j H locs hfu hj hP hD hS ls hl
      refine lv_iload hx hb dX1_putNumber_3 (lv_at hl 4 rfl) ?_
      refine lv_iload_n hx hb dX1_putNumber_5 rfl (lv_at hl 2 rfl) ?_
      refine nv_icmp_ge (tgt := 55) hx hb dX1_putNumber_6 (by decide) (by omega) (by omega) (fun h6 => ?_) (fun h6 => ?_)
      · skip
        rw [show j = many by omega] at hP hD
        exact hend _ rfl hP hD hS dX1_putNumber_55
      refine lv_iload_n hx hb dX1_putNumber_9 rfl (lv_at hl 1 rfl) ?_
      refine lv_iload hx hb dX1_putNumber_10 (lv_at hl 4 rfl) ?_
      refine nv_iadd hx hb dX1_putNumber_12 ?_
      refine lv_istore (lv' := [(6, .int (nI (a + j))), (0, .ref b), (1, .int (nI a)), (2, .int (nI many)), (3, .long v), (5, .int (nI j))]) hx hb dX1_putNumber_13 hl (by decide) rfl (fun ls hl => ?_)
      refine lv_iload hx hb dX1_putNumber_15 (lv_at hl 0 rfl) ?_
      refine nv_if_lt (tgt := 49) hx hb dX1_putNumber_17 (by decide) (by omega) ?_
      refine lv_iload hx hb dX1_putNumber_20 (lv_at hl 0 rfl) ?_
      refine lv_aload_n hx hb dX1_putNumber_22 rfl (lv_at hl 1 rfl) ?_
      refine va_get (ci := 2) (C := RX1) (T := TX1) (N := 2) hx hb ht iFX1 hown hK hP kb (wB_b hne hb0) rfl 1 (by decide) (ht _ kw1_41) (fun _ h9 => h9) rfl dX1_putNumber_23 ?_
      refine nv_icmp_ge (tgt := 49) hx hb dX1_putNumber_26 (by decide) (by omega) (by omega) (fun h26 => ?_) (fun h26 => ?_)
      · skip
        refine lv_iinc (v := (nI (j + 1))) (lv' := [(5, .int (nI (j + 1))), (6, .int (nI (a + j))), (0, .ref b), (1, .int (nI a)), (2, .int (nI many)), (3, .long v)]) hx hb dX1_putNumber_49 hl (k := 5) rfl (nI_inc _ _) (by decide) rfl (fun ls hl => ?_)
        refine lv_goto (tgt := 3) hx hb dX1_putNumber_52 (by decide) ?_
        exact absurd hk (by omega)
      refine lv_aload_n hx hb dX1_putNumber_29 rfl (lv_at hl 1 rfl) ?_
      refine va_get (ci := 2) (C := RX1) (T := TX1) (N := 2) hx hb ht iFX1 hown hK hP kb (wB_b hne hb0) rfl 0 (by decide) (ht _ kw1_40) (fun _ h9 => h9) rfl dX1_putNumber_30 ?_
      refine lv_iload hx hb dX1_putNumber_33 (lv_at hl 0 rfl) ?_
      refine lv_lload_n hx hb dX1_putNumber_35 rfl (lv_at hl 4 rfl) ?_
      refine nv_bipush (k := 8) hx hb dX1_putNumber_36 (by decide) ?_
      refine lv_iload_n hx hb dX1_putNumber_38 rfl (lv_at hl 3 rfl) ?_
      refine nv_iconst (k := 1) hx hb dX1_putNumber_39 rfl ?_
      refine nv_isub hx hb (by omega) dX1_putNumber_40 ?_
      refine lv_iload hx hb dX1_putNumber_41 (lv_at hl 5 rfl) ?_
      refine nv_isub hx hb (by omega) dX1_putNumber_43 ?_
      refine nv_imul hx hb dX1_putNumber_44 ?_
      refine lv_lushr hx hb dX1_putNumber_45 rfl ?_
      refine lv_l2i hx hb dX1_putNumber_46 rfl ?_
      refine lv_i2b hx hb dX1_putNumber_47 rfl ?_
      refine nv_bast hx hb hK hP hD hS ka (wB_a ha0) (by omega) (by omega) dX1_putNumber_48 (fun H locs hP hD hS => ?_)
      rw [wB_setA] at hP hD
      refine lv_iinc (v := (nI (j + 1))) (lv' := [(5, .int (nI (j + 1))), (6, .int (nI (a + j))), (0, .ref b), (1, .int (nI a)), (2, .int (nI many)), (3, .long v)]) hx hb dX1_putNumber_49 hl (k := 5) rfl (nI_inc _ _) (by decide) rfl (fun ls hl => ?_)
      refine lv_goto (tgt := 3) hx hb dX1_putNumber_52 (by decide) ?_
      have e1 : by8 ((((v).toUInt64 >>> ((nI (8 * (many - 1 - j))).toInt64.toUInt64 &&& Int64.toUInt64 63)).toInt64).toInt32) = UInt8.ofNat (x / 2 ^ (8 * (many - 1 - j))) := by8_lr (by omega) (hv (many - 1 - j) (by omega))
      rw [by8_n, e1, tg_put_step f a many x j (by omega)] at hP hD
      exact ih (j + 1) H locs (by omega) (by omega) hP hD hS ls (lv_sub hl [2, 3, 4, 5, 0] rfl)
  have e0 : f = (fun i => if a ≤ i ∧ i < a + 0 then UInt8.ofNat (x / 2 ^ (8 * (many - 1 - (i - a)))) else f i) := by funext i; rw [if_neg (by omega)]
  exact L3 (many + 1) 0 s.heap [] (by omega) (by omega) (by rw [← e0]; exact hP) (by rw [← e0]; exact hD) hS ls (lv_sub hl [1, 2, 3, 4, 0] rfl)
theorem dX1_putPair_0 : decode cX1_putPair 0 = .ok (.aload_n 0, 1) := by decide +kernel
theorem dX1_putPair_1 : decode cX1_putPair 1 = .ok (.iload_n 1, 1) := by decide +kernel
theorem dX1_putPair_2 : decode cX1_putPair 2 = .ok (.iconst 2, 1) := by decide +kernel
theorem dX1_putPair_3 : decode cX1_putPair 3 = .ok (.iload_n 2, 1) := by decide +kernel
theorem dX1_putPair_4 : decode cX1_putPair 4 = .ok (.i2l, 1) := by decide +kernel
theorem dX1_putPair_5 : decode cX1_putPair 5 = .ok (.invokevirtual 30, 3) := by decide +kernel
theorem dX1_putPair_8 : decode cX1_putPair 8 = .ok (.return_, 1) := by decide +kernel
theorem yv_X1_putPair : YV RX1 yX1_putPair cX1_putPair 3 none 2 := ⟨kw3_127, kw3_128, kw1_2, kw3_129, by decide +kernel⟩
set_option maxHeartbeats 4000000 in
set_option maxRecDepth 100000 in
theorem c_X1_putPair {l : Launch} {D : va_G} {cy : Nat → ClassId} {ws : va_W} {kb ka b ar N n : Nat} {f : Nat → UInt8} (hb0 : ws[kb]? = some (b, .inr (2, [.ref ar, .int (nI n)]))) (ha0 : ws[ka]? = some (ar, .inl (cy 0, N, .inl (bt f)))) (hnN : n ≤ N) (hN : N ≤ 1700) {a x : Nat} (hk : a + 2 ≤ n) (hx0 : x < 2 ^ 32) : WR (S := (Nat → UInt8)) l yX1_putPair cX1_putPair 3 none 1 0 0 26 [.ref b, .int (nI a), .int (nI x)] D cy ws (fun _ => none) (fun g => g = tg_put f a 2 x) (fun g => wB ws kb ka b ar N cy g n) := by
  refine WRv (by decide) (lv0 := [(0, .ref b), (1, .int (nI a)), (2, .int (nI x))]) rfl (Nat.le_of_ble_eq_true rfl) ?_
  intro p e s m args below meth c ls A Q S hnm hP hK hD hS hA hend hl
  have hx := S.1
  have hb := S.2.1
  have hown : s.vm.findClass RX1 = some m.cls := S.2.2.2.1
  have ht : ∀ w ∈ lw_g, w.before args s = true := fun w h => S.2.2.2.2 w (List.mem_cons_of_mem _ h)
  have hne : kb ≠ ka := lst_ne hb0 ha0 (fun z => by cases z)
  have hP : va_P D vwCl (wB ws kb ka b ar N cy f n) s.heap := by rw [wB_self hb0 ha0]; exact hP
  have hD : va_D A (wB ws kb ka b ar N cy f n) := by rw [wB_self hb0 ha0]; exact hD
  refine lv_aload_n hx hb dX1_putPair_0 rfl (lv_at hl 0 rfl) ?_
  refine lv_iload_n hx hb dX1_putPair_1 rfl (lv_at hl 1 rfl) ?_
  refine nv_iconst (k := 2) hx hb dX1_putPair_2 rfl ?_
  refine lv_iload_n hx hb dX1_putPair_3 rfl (lv_at hl 2 rfl) ?_
  refine lv_i2l hx hb dX1_putPair_4 rfl ?_
  refine wr_V S (c_X1_putNumber (wB_b hne hb0) (wB_a ha0) hnN hN (a := a) (many := 2) (x := x) (v := (nI (x)).toInt64) (by omega) (by omega) (fun k hk => w_byte (by omega) k (by omega))) kw1_235 yv_X1_putNumber ⟨Nat.le_of_ble_eq_true rfl, Nat.le_of_ble_eq_true rfl⟩ hK hP hD hS hA (va_recv hK hP (ci := 2) (q0 := kb) rfl (wB_b hne hb0)) rfl hl.1 rfl (Nat.le_of_ble_eq_true rfl) dX1_putPair_5 ⟨Nat.zero_le _, Nat.zero_le _⟩ (fun g_1 H locs hg_1 hP hD hS => ?_)
  rw [wB_wB hne] at hP hD
  refine W.eq (g2 := F0 m 8 ls []) rfl ?_
  exact hend _ hg_1 hP hD hS dX1_putPair_8
theorem dX1_putQuad_0 : decode cX1_putQuad 0 = .ok (.aload_n 0, 1) := by decide +kernel
theorem dX1_putQuad_1 : decode cX1_putQuad 1 = .ok (.iload_n 1, 1) := by decide +kernel
theorem dX1_putQuad_2 : decode cX1_putQuad 2 = .ok (.iconst 4, 1) := by decide +kernel
theorem dX1_putQuad_3 : decode cX1_putQuad 3 = .ok (.iload_n 2, 1) := by decide +kernel
theorem dX1_putQuad_4 : decode cX1_putQuad 4 = .ok (.i2l, 1) := by decide +kernel
theorem dX1_putQuad_5 : decode cX1_putQuad 5 = .ok (.invokevirtual 30, 3) := by decide +kernel
theorem dX1_putQuad_8 : decode cX1_putQuad 8 = .ok (.return_, 1) := by decide +kernel
theorem yv_X1_putQuad : YV RX1 yX1_putQuad cX1_putQuad 3 none 2 := ⟨kw1_232, kw1_233, kw1_2, kw1_234, by decide +kernel⟩
set_option maxHeartbeats 4000000 in
set_option maxRecDepth 100000 in
theorem c_X1_putQuad {l : Launch} {D : va_G} {cy : Nat → ClassId} {ws : va_W} {kb ka b ar N n : Nat} {f : Nat → UInt8} (hb0 : ws[kb]? = some (b, .inr (2, [.ref ar, .int (nI n)]))) (ha0 : ws[ka]? = some (ar, .inl (cy 0, N, .inl (bt f)))) (hnN : n ≤ N) (hN : N ≤ 1700) {a x : Nat} (hk : a + 4 ≤ n) (hx0 : x < 2 ^ 32) : WR (S := (Nat → UInt8)) l yX1_putQuad cX1_putQuad 3 none 1 0 0 26 [.ref b, .int (nI a), .int (nI x)] D cy ws (fun _ => none) (fun g => g = tg_put f a 4 x) (fun g => wB ws kb ka b ar N cy g n) := by
  refine WRv (by decide) (lv0 := [(0, .ref b), (1, .int (nI a)), (2, .int (nI x))]) rfl (Nat.le_of_ble_eq_true rfl) ?_
  intro p e s m args below meth c ls A Q S hnm hP hK hD hS hA hend hl
  have hx := S.1
  have hb := S.2.1
  have hown : s.vm.findClass RX1 = some m.cls := S.2.2.2.1
  have ht : ∀ w ∈ lw_g, w.before args s = true := fun w h => S.2.2.2.2 w (List.mem_cons_of_mem _ h)
  have hne : kb ≠ ka := lst_ne hb0 ha0 (fun z => by cases z)
  have hP : va_P D vwCl (wB ws kb ka b ar N cy f n) s.heap := by rw [wB_self hb0 ha0]; exact hP
  have hD : va_D A (wB ws kb ka b ar N cy f n) := by rw [wB_self hb0 ha0]; exact hD
  refine lv_aload_n hx hb dX1_putQuad_0 rfl (lv_at hl 0 rfl) ?_
  refine lv_iload_n hx hb dX1_putQuad_1 rfl (lv_at hl 1 rfl) ?_
  refine nv_iconst (k := 4) hx hb dX1_putQuad_2 rfl ?_
  refine lv_iload_n hx hb dX1_putQuad_3 rfl (lv_at hl 2 rfl) ?_
  refine lv_i2l hx hb dX1_putQuad_4 rfl ?_
  refine wr_V S (c_X1_putNumber (wB_b hne hb0) (wB_a ha0) hnN hN (a := a) (many := 4) (x := x) (v := (nI (x)).toInt64) (by omega) (by omega) (fun k hk => w_byte (by omega) k (by omega))) kw1_235 yv_X1_putNumber ⟨Nat.le_of_ble_eq_true rfl, Nat.le_of_ble_eq_true rfl⟩ hK hP hD hS hA (va_recv hK hP (ci := 2) (q0 := kb) rfl (wB_b hne hb0)) rfl hl.1 rfl (Nat.le_of_ble_eq_true rfl) dX1_putQuad_5 ⟨Nat.zero_le _, Nat.zero_le _⟩ (fun g_1 H locs hg_1 hP hD hS => ?_)
  rw [wB_wB hne] at hP hD
  refine W.eq (g2 := F0 m 8 ls []) rfl ?_
  exact hend _ hg_1 hP hD hS dX1_putQuad_8
theorem dX1_putEight_0 : decode cX1_putEight 0 = .ok (.aload_n 0, 1) := by decide +kernel
theorem dX1_putEight_1 : decode cX1_putEight 1 = .ok (.iload_n 1, 1) := by decide +kernel
theorem dX1_putEight_2 : decode cX1_putEight 2 = .ok (.bipush 8, 2) := by decide +kernel
theorem dX1_putEight_4 : decode cX1_putEight 4 = .ok (.lload_n 2, 1) := by decide +kernel
theorem dX1_putEight_5 : decode cX1_putEight 5 = .ok (.invokevirtual 30, 3) := by decide +kernel
theorem dX1_putEight_8 : decode cX1_putEight 8 = .ok (.return_, 1) := by decide +kernel
theorem yv_X1_putEight : YV RX1 yX1_putEight cX1_putEight 4 none 2 := ⟨kw3_212, kw3_213, kw1_2, kw3_214, by decide +kernel⟩
set_option maxHeartbeats 4000000 in
set_option maxRecDepth 100000 in
theorem c_X1_putEight {l : Launch} {D : va_G} {cy : Nat → ClassId} {ws : va_W} {kb ka b ar N n : Nat} {f : Nat → UInt8} (hb0 : ws[kb]? = some (b, .inr (2, [.ref ar, .int (nI n)]))) (ha0 : ws[ka]? = some (ar, .inl (cy 0, N, .inl (bt f)))) (hnN : n ≤ N) (hN : N ≤ 1700) {a x : Nat} (hk : a + 8 ≤ n) (hx0 : x < 2 ^ 64) : WR (S := (Nat → UInt8)) l yX1_putEight cX1_putEight 4 none 1 0 0 26 [.ref b, .int (nI a), .long (lN (x))] D cy ws (fun _ => none) (fun g => g = tg_put f a 8 x) (fun g => wB ws kb ka b ar N cy g n) := by
  refine WRv (by decide) (lv0 := [(0, .ref b), (1, .int (nI a)), (2, .long (lN (x)))]) rfl (Nat.le_of_ble_eq_true rfl) ?_
  intro p e s m args below meth c ls A Q S hnm hP hK hD hS hA hend hl
  have hx := S.1
  have hb := S.2.1
  have hown : s.vm.findClass RX1 = some m.cls := S.2.2.2.1
  have ht : ∀ w ∈ lw_g, w.before args s = true := fun w h => S.2.2.2.2 w (List.mem_cons_of_mem _ h)
  have hne : kb ≠ ka := lst_ne hb0 ha0 (fun z => by cases z)
  have hP : va_P D vwCl (wB ws kb ka b ar N cy f n) s.heap := by rw [wB_self hb0 ha0]; exact hP
  have hD : va_D A (wB ws kb ka b ar N cy f n) := by rw [wB_self hb0 ha0]; exact hD
  refine lv_aload_n hx hb dX1_putEight_0 rfl (lv_at hl 0 rfl) ?_
  refine lv_iload_n hx hb dX1_putEight_1 rfl (lv_at hl 1 rfl) ?_
  refine nv_bipush (k := 8) hx hb dX1_putEight_2 (by decide) ?_
  refine lv_lload_n hx hb dX1_putEight_4 rfl (lv_at hl 2 rfl) ?_
  refine wr_V S (c_X1_putNumber (wB_b hne hb0) (wB_a ha0) hnN hN (a := a) (many := 8) (x := x) (v := lN (x)) (by omega) (by omega) (fun k hk => by rw [lN_toNat (by omega)])) kw1_235 yv_X1_putNumber ⟨Nat.le_of_ble_eq_true rfl, Nat.le_of_ble_eq_true rfl⟩ hK hP hD hS hA (va_recv hK hP (ci := 2) (q0 := kb) rfl (wB_b hne hb0)) rfl hl.1 rfl (Nat.le_of_ble_eq_true rfl) dX1_putEight_5 ⟨Nat.zero_le _, Nat.zero_le _⟩ (fun g_1 H locs hg_1 hP hD hS => ?_)
  rw [wB_wB hne] at hP hD
  refine W.eq (g2 := F0 m 8 ls []) rfl ?_
  exact hend _ hg_1 hP hD hS dX1_putEight_8
theorem dX1_copy_0 : decode cX1_copy 0 = .ok (.iload 4, 2) := by decide +kernel
theorem dX1_copy_2 : decode cX1_copy 2 = .ok (.ifCond .le 15, 3) := by decide +kernel
theorem dX1_copy_5 : decode cX1_copy 5 = .ok (.iload_n 2, 1) := by decide +kernel
theorem dX1_copy_6 : decode cX1_copy 6 = .ok (.ifCond .lt 11, 3) := by decide +kernel
theorem dX1_copy_9 : decode cX1_copy 9 = .ok (.iload_n 3, 1) := by decide +kernel
theorem dX1_copy_10 : decode cX1_copy 10 = .ok (.ifCond .lt 7, 3) := by decide +kernel
theorem dX1_copy_13 : decode cX1_copy 13 = .ok (.iconst 1, 1) := by decide +kernel
theorem dX1_copy_14 : decode cX1_copy 14 = .ok (.goto 4, 3) := by decide +kernel
theorem dX1_copy_17 : decode cX1_copy 17 = .ok (.iconst 0, 1) := by decide +kernel
theorem dX1_copy_18 : decode cX1_copy 18 = .ok (.istore 5, 2) := by decide +kernel
theorem dX1_copy_20 : decode cX1_copy 20 = .ok (.iload 5, 2) := by decide +kernel
theorem dX1_copy_22 : decode cX1_copy 22 = .ok (.ifCond .eq 40, 3) := by decide +kernel
theorem dX1_copy_25 : decode cX1_copy 25 = .ok (.iload 4, 2) := by decide +kernel
theorem dX1_copy_27 : decode cX1_copy 27 = .ok (.aload_n 1, 1) := by decide +kernel
theorem dX1_copy_28 : decode cX1_copy 28 = .ok (.getfield 19, 3) := by decide +kernel
theorem dX1_copy_31 : decode cX1_copy 31 = .ok (.iload_n 2, 1) := by decide +kernel
theorem dX1_copy_32 : decode cX1_copy 32 = .ok (.isub, 1) := by decide +kernel
theorem dX1_copy_33 : decode cX1_copy 33 = .ok (.if_icmp .gt 29, 3) := by decide +kernel
theorem dX1_copy_36 : decode cX1_copy 36 = .ok (.iload 4, 2) := by decide +kernel
theorem dX1_copy_38 : decode cX1_copy 38 = .ok (.aload_n 0, 1) := by decide +kernel
theorem dX1_copy_39 : decode cX1_copy 39 = .ok (.getfield 19, 3) := by decide +kernel
theorem dX1_copy_42 : decode cX1_copy 42 = .ok (.iload_n 3, 1) := by decide +kernel
theorem dX1_copy_43 : decode cX1_copy 43 = .ok (.isub, 1) := by decide +kernel
theorem dX1_copy_44 : decode cX1_copy 44 = .ok (.if_icmp .gt 18, 3) := by decide +kernel
theorem dX1_copy_47 : decode cX1_copy 47 = .ok (.aload_n 1, 1) := by decide +kernel
theorem dX1_copy_48 : decode cX1_copy 48 = .ok (.getfield 13, 3) := by decide +kernel
theorem dX1_copy_51 : decode cX1_copy 51 = .ok (.iload_n 2, 1) := by decide +kernel
theorem dX1_copy_52 : decode cX1_copy 52 = .ok (.aload_n 0, 1) := by decide +kernel
theorem dX1_copy_53 : decode cX1_copy 53 = .ok (.getfield 13, 3) := by decide +kernel
theorem dX1_copy_56 : decode cX1_copy 56 = .ok (.iload_n 3, 1) := by decide +kernel
theorem dX1_copy_57 : decode cX1_copy 57 = .ok (.iload 4, 2) := by decide +kernel
theorem dX1_copy_59 : decode cX1_copy 59 = .ok (.invokestatic 34, 3) := by decide +kernel
theorem dX1_copy_62 : decode cX1_copy 62 = .ok (.return_, 1) := by decide +kernel
theorem yv_X1_copy : YV RX1 yX1_copy cX1_copy 6 none 4 := ⟨kw3_136, kw3_137, kw1_2, kw3_138, by decide +kernel⟩
set_option maxHeartbeats 4000000 in
set_option maxRecDepth 100000 in
theorem c_X1_copy {l : Launch} {D : va_G} {cy : Nat → ClassId} {ws : va_W} {kb ka b ar N n : Nat} {f : Nat → UInt8} (hb0 : ws[kb]? = some (b, .inr (2, [.ref ar, .int (nI n)]))) (ha0 : ws[ka]? = some (ar, .inl (cy 0, N, .inl (bt f)))) (hnN : n ≤ N) (hN : N ≤ 1700) {kb2 ka2 b2 ar2 N2 n2 : Nat} {f2 : Nat → UInt8} (hb2 : ws[kb2]? = some (b2, .inr (2, [.ref ar2, .int (nI n2)]))) (ha2 : ws[ka2]? = some (ar2, .inl (cy 0, N2, .inl (bt f2)))) (hnN2 : n2 ≤ N2) (hN2 : N2 ≤ 1700) (hd1 : kb ≠ kb2) (hd2 : ka ≠ kb2) (hd3 : kb ≠ ka2) (hd4 : ka ≠ ka2) {a z k : Nat} (ha : a + k ≤ n2) (hz : z + k ≤ n) : WR (S := (Nat → UInt8)) l yX1_copy cX1_copy 6 none 1 0 0 40 [.ref b, .ref b2, .int (nI a), .int (nI z), .int (nI k)] D cy ws (fun _ => none) (fun g => g = va_cpy f2 f a z k) (fun g => wB ws kb ka b ar N cy g n) := by
  refine WRv (by decide) (lv0 := [(0, .ref b), (1, .ref b2), (2, .int (nI a)), (3, .int (nI z)), (4, .int (nI k))]) rfl (Nat.le_of_ble_eq_true rfl) ?_
  intro p e s m args below meth c ls A Q S hnm hP hK hD hS hA hend hl
  have hx := S.1
  have hb := S.2.1
  have hown : s.vm.findClass RX1 = some m.cls := S.2.2.2.1
  have ht : ∀ w ∈ lw_g, w.before args s = true := fun w h => S.2.2.2.2 w (List.mem_cons_of_mem _ h)
  have hne : kb ≠ ka := lst_ne hb0 ha0 (fun z => by cases z)
  have hP : va_P D vwCl (wB ws kb ka b ar N cy f n) s.heap := by rw [wB_self hb0 ha0]; exact hP
  have hD : va_D A (wB ws kb ka b ar N cy f n) := by rw [wB_self hb0 ha0]; exact hD
  refine lv_iload hx hb dX1_copy_0 (lv_at hl 4 rfl) ?_
  refine nv_if_le (tgt := 17) hx hb dX1_copy_2 (by decide) (by omega) (fun h2 => ?_) (fun h2 => ?_)
  · skip
    refine nv_iconst (k := 0) hx hb dX1_copy_17 rfl ?_
    refine lv_istore (lv' := [(5, .int (nI 0)), (0, .ref b), (1, .ref b2), (2, .int (nI a)), (3, .int (nI z)), (4, .int (nI k))]) hx hb dX1_copy_18 hl (by decide) rfl (fun ls hl => ?_)
    refine lv_iload hx hb dX1_copy_20 (lv_at hl 0 rfl) ?_
    refine nv_if_eq (tgt := 62) hx hb dX1_copy_22 (by decide) (by omega) (fun _ => ?_) (fun h => absurd h (by decide))
    first | (exfalso; omega) | exact hend f (by rw [show k = 0 by omega]; exact va_cpy0) hP hD hS dX1_copy_62
  refine lv_iload_n hx hb dX1_copy_5 rfl (lv_at hl 2 rfl) ?_
  refine nv_if_lt (tgt := 17) hx hb dX1_copy_6 (by decide) (by omega) ?_
  refine lv_iload_n hx hb dX1_copy_9 rfl (lv_at hl 3 rfl) ?_
  refine nv_if_lt (tgt := 17) hx hb dX1_copy_10 (by decide) (by omega) ?_
  refine nv_iconst (k := 1) hx hb dX1_copy_13 rfl ?_
  refine lv_goto (tgt := 18) hx hb dX1_copy_14 (by decide) ?_
  refine lv_istore (lv' := [(5, .int (nI 1)), (0, .ref b), (1, .ref b2), (2, .int (nI a)), (3, .int (nI z)), (4, .int (nI k))]) hx hb dX1_copy_18 hl (by decide) rfl (fun ls hl => ?_)
  refine lv_iload hx hb dX1_copy_20 (lv_at hl 0 rfl) ?_
  refine nv_if_eq (tgt := 62) hx hb dX1_copy_22 (by decide) (by omega) (fun h => absurd h (by decide)) (fun _ => ?_)
  refine lv_iload hx hb dX1_copy_25 (lv_at hl 5 rfl) ?_
  refine lv_aload_n hx hb dX1_copy_27 rfl (lv_at hl 2 rfl) ?_
  refine va_get (ci := 2) (C := RX1) (T := TX1) (N := 2) hx hb ht iFX1 hown hK hP kb2 (wB_o hd1 hd2 hb2) rfl 1 (by decide) (ht _ kw1_41) (fun _ h9 => h9) rfl dX1_copy_28 ?_
  refine lv_iload_n hx hb dX1_copy_31 rfl (lv_at hl 3 rfl) ?_
  refine nv_isub hx hb (by omega) dX1_copy_32 ?_
  refine nv_icmp_gt (tgt := 62) hx hb dX1_copy_33 (by decide) (by omega) (by omega) (fun h33 => ?_) (fun h33 => ?_)
  · skip
    first | (exfalso; omega) | exact hend f (by rw [show k = 0 by omega]; exact va_cpy0) hP hD hS dX1_copy_62
  refine lv_iload hx hb dX1_copy_36 (lv_at hl 5 rfl) ?_
  refine lv_aload_n hx hb dX1_copy_38 rfl (lv_at hl 1 rfl) ?_
  refine va_get (ci := 2) (C := RX1) (T := TX1) (N := 2) hx hb ht iFX1 hown hK hP kb (wB_b hne hb0) rfl 1 (by decide) (ht _ kw1_41) (fun _ h9 => h9) rfl dX1_copy_39 ?_
  refine lv_iload_n hx hb dX1_copy_42 rfl (lv_at hl 4 rfl) ?_
  refine nv_isub hx hb (by omega) dX1_copy_43 ?_
  refine nv_icmp_gt (tgt := 62) hx hb dX1_copy_44 (by decide) (by omega) (by omega) (fun h44 => ?_) (fun h44 => ?_)
  · skip
    first | (exfalso; omega) | exact hend f (by rw [show k = 0 by omega]; exact va_cpy0) hP hD hS dX1_copy_62
  refine lv_aload_n hx hb dX1_copy_47 rfl (lv_at hl 2 rfl) ?_
  refine va_get (ci := 2) (C := RX1) (T := TX1) (N := 2) hx hb ht iFX1 hown hK hP kb2 (wB_o hd1 hd2 hb2) rfl 0 (by decide) (ht _ kw1_40) (fun _ h9 => h9) rfl dX1_copy_48 ?_
  refine lv_iload_n hx hb dX1_copy_51 rfl (lv_at hl 3 rfl) ?_
  refine lv_aload_n hx hb dX1_copy_52 rfl (lv_at hl 1 rfl) ?_
  refine va_get (ci := 2) (C := RX1) (T := TX1) (N := 2) hx hb ht iFX1 hown hK hP kb (wB_b hne hb0) rfl 0 (by decide) (ht _ kw1_40) (fun _ h9 => h9) rfl dX1_copy_53 ?_
  refine lv_iload_n hx hb dX1_copy_56 rfl (lv_at hl 4 rfl) ?_
  refine lv_iload hx hb dX1_copy_57 (lv_at hl 5 rfl) ?_
  refine va_copyi hx hb (S.2.2.1.trans hl.1.symm) hown (ht _ kw3_139) (ht _ kw3_77) (ht _ kw3_76) (ht _ kw1_21) hK hP hD hS ka2 ka 0 0 (wB_o hd3 hd4 ha2) (wB_a ha0) rfl rfl rfl (nI_pos (by omega)) (nI_pos (by omega)) (nI_pos (by omega)) (by rw [nI_clamp (by omega), nI_clamp (by omega)]; omega) (by rw [nI_clamp (by omega), nI_clamp (by omega)]; omega) (fun i _ => u8_fit _) (Nat.le_of_ble_eq_true rfl) (Nat.le_of_ble_eq_true rfl) dX1_copy_59 (fun H locs hP hD hS => ?_)
  rw [nI_clamp (by omega), nI_clamp (by omega), nI_clamp (by omega), bt_cpy, wB_setA] at hP hD
  exact hend _ rfl hP hD hS dX1_copy_62
end
section
/-! WHAT PACKETS ARE MADE -/
theorem nv_iorc {p : Program} {l : Launch} {e : Env} {R : Room} {s : State} {m : MethodId} {args : Array Value} {below : List Frame} {meth : Method} {c : Code} {H : Heap} {locs : List Loc} {cells slots : Nat} {Q : State → Prop} {cc : ByteArray} {pc : Nat} {ls : Array Slot} {rest : List Value} {a b k q : Nat} (hx : p.tables.exec = Jvm.exec) (hb : c.code = cc) (ha : a = q * 2 ^ k) (h : b < 2 ^ k) (hdg : decode cc pc = .ok (.ior, 1)) (kk : W p l e R s m args below meth c H locs cells slots Q (F0 m (pc + 1) ls (.int (nI (a + b)) :: rest))) : W p l e R s m args below meth c H locs cells slots Q (F0 m pc ls (.int (nI b) :: .int (nI a) :: rest)) :=
  lv_ior hx hb hdg (by rw [ha] at kk ⊢; rw [nI_or h]; exact kk)
theorem nv_isubw {p : Program} {l : Launch} {e : Env} {R : Room} {s : State} {m : MethodId} {args : Array Value} {below : List Frame} {meth : Method} {c : Code} {H : Heap} {locs : List Loc} {cells slots : Nat} {Q : State → Prop} {cc : ByteArray} {pc : Nat} {ls : Array Slot} {rest : List Value} {a b : Nat} (hx : p.tables.exec = Jvm.exec) (hb : c.code = cc) (h : b ≤ 4294967296) (hdg : decode cc pc = .ok (.isub, 1)) (kk : W p l e R s m args below meth c H locs cells slots Q (F0 m (pc + 1) ls (.int (nI ((a + 4294967296 - b) % 4294967296)) :: rest))) : W p l e R s m args below meth c H locs cells slots Q (F0 m pc ls (.int (nI b) :: .int (nI a) :: rest)) :=
  lv_isub hx hb hdg (by rw [nI_subw h]; exact kk)
theorem PK_of {cy : Nat → ClassId} {ws : va_W} {kb ka b ar N n : Nat} {f : Nat → UInt8} (h1 : ws[kb]? = some (b, .inr (2, [.ref ar, .int (nI n)]))) (h2 : ws[ka]? = some (ar, .inl (cy 0, N, .inl (bt f)))) (h3 : n ≤ N) (h4 : N ≤ 1700) : PK cy ws b f n := ⟨kb, ka, ar, N, h1, h2, h3, h4⟩
theorem STP_of {ws : va_W} {ks st bits F G : Nat} (h : ws[ks]? = some (st, .inr (6, [.long (lN F), .long (lN G), .int (nI bits), .int (nI (bits - 32))]))) (hsi : SI bits F G) : STP ws st bits F G := ⟨ks, h, hsi⟩
theorem put_out {f : Nat → UInt8} {a k x i : Nat} (h : i < a ∨ a + k ≤ i) : tg_put f a k x i = f i := if_neg (by omega)
theorem put_in {f : Nat → UInt8} {a k x i : Nat} (h1 : a ≤ i) (h2 : i < a + k) : tg_put f a k x i = UInt8.ofNat (x / 2 ^ (8 * (k - 1 - (i - a)))) := if_pos ⟨h1, h2⟩
theorem up_out {f : Nat → UInt8} {a i : Nat} {v : UInt8} (h : i ≠ a) : va_up f a v i = f i := if_neg h
theorem up_in {f : Nat → UInt8} {a : Nat} {v : UInt8} : va_up f a v a = v := if_pos rfl
theorem cpy_out {f g : Nat → UInt8} {a z k i : Nat} (h : i < z ∨ z + k ≤ i) : va_cpy f g a z k i = g i := if_neg (by omega)
theorem cpy_in {f g : Nat → UInt8} {a z k i : Nat} (h1 : z ≤ i) (h2 : i < z + k) : va_cpy f g a z k i = f (a + (i - z)) := if_pos ⟨h1, h2⟩
theorem rd_at {g : Nat → UInt8} {n k x : Nat} (hk : k < n) (h : g k = UInt8.ofNat x) (hx : x < 256) : tg_rd g n k = x := by
  rw [tg_rd_in hk, h, UInt8.toNat_ofNat']
  exact Nat.mod_eq_of_lt hx
theorem tg_eh_lt {bits F G x : Nat} (h : SI bits F G) (hx : x < 2 ^ 32) : tg_eh bits F x < 2 ^ 64 := by
  unfold tg_eh
  rcases h with h | h | h
  · rw [if_pos (by omega)]; omega
  · rw [if_neg (by omega)]
    obtain ⟨hb, h1, h2, -⟩ := h
    rcases hb with rfl | rfl | rfl | rfl | rfl <;> simp at h1 ⊢ <;> omega
  · rw [if_pos (by omega)]; omega
theorem tg_el_lt {bits F G x : Nat} (h : SI bits F G) (hx : x < 2 ^ 32) : tg_el bits G x < 2 ^ 64 := by
  unfold tg_el
  rcases h with h | h | h
  · rw [if_pos (by omega)]; omega
  · rw [if_neg (by omega), if_neg (by omega)]
    obtain ⟨hb, -⟩ := h
    rcases hb with rfl | rfl | rfl | rfl | rfl <;> simp <;> omega
  · rw [if_neg (by omega), if_pos (by omega)]; omega
def tg_nx (q : Nat) : Nat := if q = 1 then 58 else q
def tg_six (f : Nat → UInt8) (a tr pl q hp : Nat) : Nat → UInt8 := va_up (va_up (tg_put (tg_put (tg_put f a 2 (24576 + tr * 2 ^ 4)) (a + 2) 2 0) (a + 4) 2 pl) (a + 6) (UInt8.ofNat (tg_nx q))) (a + 7) (UInt8.ofNat hp)
def tg_emb (f : Nat → UInt8) (a x bits F G : Nat) : Nat → UInt8 := tg_put (tg_put f a 8 (tg_eh bits F x)) (a + 8) 8 (tg_el bits G x)
def tg_inn (f : Nat → UInt8) (a ih il : Nat) : Nat → UInt8 := tg_put (tg_put f a 8 ih) (a + 8) 8 il
def tg_unr (x : Nat) : Nat := if x = 3 then 4 else if x = 9 ∨ x = 10 ∨ x = 13 ∨ x = 15 then 1 else 0
def tg_fin (f : Nat → UInt8) (n hd q : Nat) : Nat → UInt8 := tg_put f (hd + tg_sumAt q) 2 (tg_sum (tg_rd f n) hd n (hd + tg_sumAt q) q)
theorem tg_unr_le (x : Nat) : tg_unr x ≤ 4 := by unfold tg_unr; (repeat' split) <;> omega
/-- the error's kind: type, code, and the four bytes behind the checksum -/
def tg_kind (h : Nat → Nat) (f : Nat → UInt8) : Nat → UInt8 := if h 20 = 11 then tg_put (tg_put f 40 2 (768 + h 21)) 44 4 0 else if h 21 = 4 then tg_put (tg_put f 40 2 512) 44 4 (max 1280 (tg_pr h 26 + 20)) else tg_put (tg_put f 40 2 (256 + tg_unr (h 21))) 44 4 0
/-- IPv4: the header but its checksum -/
def tg_hd4 (f : Nat → UInt8) (h : Nat → Nat) (ni q sp fa ta : Nat) : Nat → UInt8 := tg_put (tg_put (va_up (va_up (tg_put (tg_put (tg_put (va_up (va_up f 0 (UInt8.ofNat 69)) 1 (UInt8.ofNat (tg_pr h 0 / 2 ^ 4))) 2 2 (20 + (ni - 40))) 4 2 sp) 6 2 (if sp = 0 then 16384 else 0)) 8 (UInt8.ofNat (h 7 - 1))) 9 (UInt8.ofNat q)) 12 4 fa) 16 4 ta
def tg_hs4 (f : Nat → UInt8) (n : Nat) : Nat → UInt8 := tg_put f 10 2 (tg_cl (tg_ws (tg_rd f n) 0 10 20))
def tg_four (f fi : Nat → UInt8) (ni q sp fa ta op : Nat) : Nat → UInt8 := tg_fin (if q = 1 then va_up (tg_put (va_cpy fi (tg_hs4 (tg_hd4 f (tg_rd fi ni) ni q sp fa ta) (20 + (ni - 40))) 40 20 (ni - 40)) (20 + tg_spa q) 2 op) 20 (UInt8.ofNat (if tg_rd fi ni 40 = 128 then 8 else 0)) else tg_put (va_cpy fi (tg_hs4 (tg_hd4 f (tg_rd fi ni) ni q sp fa ta) (20 + (ni - 40))) 40 20 (ni - 40)) (20 + tg_spa q) 2 op) (20 + (ni - 40)) 20 q
/-- IPv6: header, addresses, the part with its port -/
def tg_sx1 (f fi : Nat → UInt8) (ni q ip ih il bits F G : Nat) : Nat → UInt8 := tg_put (va_cpy fi (tg_inn (tg_emb (tg_six f 0 (tg_rd fi ni 1) (ni - 20) q (tg_rd fi ni 8 - 1)) 8 (tg_qd (tg_rd fi ni) 12) bits F G) 24 ih il) 20 40 (ni - 20)) (40 + tg_dpa q) 2 ip
def tg_sx (f fi : Nat → UInt8) (ni q ip ih il bits F G : Nat) : Nat → UInt8 := tg_fin (if q = 1 then va_up (tg_sx1 f fi ni q ip ih il bits F G) 40 (UInt8.ofNat (if tg_rd fi ni 20 = 8 then 128 else 129)) else tg_sx1 f fi ni q ip ih il bits F G) (40 + (ni - 20)) 40 (tg_nx q)
def tg_er1 (f fi : Nat → UInt8) (ni ih il bits F G : Nat) : Nat → UInt8 := tg_kind (tg_rd fi ni) (tg_inn (tg_emb (tg_six f 0 (tg_rd fi ni 1) (min (ni + 40) 1280 - 40) 1 (tg_rd fi ni 8 - 1)) 8 (tg_qd (tg_rd fi ni) 12) bits F G) 24 ih il)
def tg_wi1 (f fi : Nat → UInt8) (ni n q ip ih il bits F G : Nat) : Nat → UInt8 := tg_put (va_cpy fi (tg_emb (tg_inn (tg_six f 48 (tg_rd fi ni 29) ((tg_pr (tg_rd fi ni) 30 + 4294967296 - 20) % 4294967296) q (tg_rd fi ni 36)) 56 ih il) 72 (tg_qd (tg_rd fi ni) 44) bits F G) 48 88 (n - 88)) (88 + tg_spa q) 2 ip
def tg_wi (f fi : Nat → UInt8) (ni n q ip ih il bits F G : Nat) : Nat → UInt8 := if q = 1 then va_up (tg_wi1 f fi ni n q ip ih il bits F G) 88 (UInt8.ofNat 128) else tg_wi1 f fi ni n q ip ih il bits F G
theorem six_out {f : Nat → UInt8} {a tr pl q hp i : Nat} (h : i < a ∨ a + 8 ≤ i) : tg_six f a tr pl q hp i = f i := by
  unfold tg_six
  rw [up_out (by omega), up_out (by omega), put_out (by omega), put_out (by omega), put_out (by omega)]
theorem six_6 {f : Nat → UInt8} {a tr pl q hp : Nat} : tg_six f a tr pl q hp (a + 6) = UInt8.ofNat (tg_nx q) := by
  unfold tg_six
  rw [up_out (by omega), up_in]
theorem emb_out {f : Nat → UInt8} {a x bits F G i : Nat} (h : i < a ∨ a + 16 ≤ i) : tg_emb f a x bits F G i = f i := by
  unfold tg_emb
  rw [put_out (by omega), put_out (by omega)]
theorem inn_out {f : Nat → UInt8} {a ih il i : Nat} (h : i < a ∨ a + 16 ≤ i) : tg_inn f a ih il i = f i := by
  unfold tg_inn
  rw [put_out (by omega), put_out (by omega)]
theorem kind_out {h : Nat → Nat} {f : Nat → UInt8} {i : Nat} (hi : i < 40 ∨ 48 ≤ i) : tg_kind h f i = f i := by
  unfold tg_kind
  (repeat' split) <;> rw [put_out (by omega), put_out (by omega)]
theorem tg_nx_lt {q : Nat} (h : q = 1 ∨ q = 6 ∨ q = 17) : tg_nx q < 256 := by unfold tg_nx; split <;> omega
end
section
theorem dX3_putSixHead_0 : decode cX3_putSixHead 0 = .ok (.aload_n 0, 1) := by decide +kernel
theorem dX3_putSixHead_1 : decode cX3_putSixHead 1 = .ok (.iload_n 1, 1) := by decide +kernel
theorem dX3_putSixHead_2 : decode cX3_putSixHead 2 = .ok (.sipush 24576, 3) := by decide +kernel
theorem dX3_putSixHead_5 : decode cX3_putSixHead 5 = .ok (.iload_n 2, 1) := by decide +kernel
theorem dX3_putSixHead_6 : decode cX3_putSixHead 6 = .ok (.iconst 4, 1) := by decide +kernel
theorem dX3_putSixHead_7 : decode cX3_putSixHead 7 = .ok (.ishl, 1) := by decide +kernel
theorem dX3_putSixHead_8 : decode cX3_putSixHead 8 = .ok (.ior, 1) := by decide +kernel
theorem dX3_putSixHead_9 : decode cX3_putSixHead 9 = .ok (.invokevirtual 33, 3) := by decide +kernel
theorem dX3_putSixHead_12 : decode cX3_putSixHead 12 = .ok (.aload_n 0, 1) := by decide +kernel
theorem dX3_putSixHead_13 : decode cX3_putSixHead 13 = .ok (.iload_n 1, 1) := by decide +kernel
theorem dX3_putSixHead_14 : decode cX3_putSixHead 14 = .ok (.iconst 2, 1) := by decide +kernel
theorem dX3_putSixHead_15 : decode cX3_putSixHead 15 = .ok (.iadd, 1) := by decide +kernel
theorem dX3_putSixHead_16 : decode cX3_putSixHead 16 = .ok (.iconst 0, 1) := by decide +kernel
theorem dX3_putSixHead_17 : decode cX3_putSixHead 17 = .ok (.invokevirtual 33, 3) := by decide +kernel
theorem dX3_putSixHead_20 : decode cX3_putSixHead 20 = .ok (.aload_n 0, 1) := by decide +kernel
theorem dX3_putSixHead_21 : decode cX3_putSixHead 21 = .ok (.iload_n 1, 1) := by decide +kernel
theorem dX3_putSixHead_22 : decode cX3_putSixHead 22 = .ok (.iconst 4, 1) := by decide +kernel
theorem dX3_putSixHead_23 : decode cX3_putSixHead 23 = .ok (.iadd, 1) := by decide +kernel
theorem dX3_putSixHead_24 : decode cX3_putSixHead 24 = .ok (.iload_n 3, 1) := by decide +kernel
theorem dX3_putSixHead_25 : decode cX3_putSixHead 25 = .ok (.invokevirtual 33, 3) := by decide +kernel
theorem dX3_putSixHead_28 : decode cX3_putSixHead 28 = .ok (.aload_n 0, 1) := by decide +kernel
theorem dX3_putSixHead_29 : decode cX3_putSixHead 29 = .ok (.iload_n 1, 1) := by decide +kernel
theorem dX3_putSixHead_30 : decode cX3_putSixHead 30 = .ok (.bipush 6, 2) := by decide +kernel
theorem dX3_putSixHead_32 : decode cX3_putSixHead 32 = .ok (.iadd, 1) := by decide +kernel
theorem dX3_putSixHead_33 : decode cX3_putSixHead 33 = .ok (.iload 4, 2) := by decide +kernel
theorem dX3_putSixHead_35 : decode cX3_putSixHead 35 = .ok (.iconst 1, 1) := by decide +kernel
theorem dX3_putSixHead_36 : decode cX3_putSixHead 36 = .ok (.if_icmp .ne 8, 3) := by decide +kernel
theorem dX3_putSixHead_39 : decode cX3_putSixHead 39 = .ok (.bipush 58, 2) := by decide +kernel
theorem dX3_putSixHead_41 : decode cX3_putSixHead 41 = .ok (.goto 5, 3) := by decide +kernel
theorem dX3_putSixHead_44 : decode cX3_putSixHead 44 = .ok (.iload 4, 2) := by decide +kernel
theorem dX3_putSixHead_46 : decode cX3_putSixHead 46 = .ok (.invokevirtual 25, 3) := by decide +kernel
theorem dX3_putSixHead_49 : decode cX3_putSixHead 49 = .ok (.aload_n 0, 1) := by decide +kernel
theorem dX3_putSixHead_50 : decode cX3_putSixHead 50 = .ok (.iload_n 1, 1) := by decide +kernel
theorem dX3_putSixHead_51 : decode cX3_putSixHead 51 = .ok (.bipush 7, 2) := by decide +kernel
theorem dX3_putSixHead_53 : decode cX3_putSixHead 53 = .ok (.iadd, 1) := by decide +kernel
theorem dX3_putSixHead_54 : decode cX3_putSixHead 54 = .ok (.iload 5, 2) := by decide +kernel
theorem dX3_putSixHead_56 : decode cX3_putSixHead 56 = .ok (.invokevirtual 25, 3) := by decide +kernel
theorem dX3_putSixHead_59 : decode cX3_putSixHead 59 = .ok (.return_, 1) := by decide +kernel
theorem yv_X3_putSixHead : YS yX3_putSixHead cX3_putSixHead 6 none 6 := ⟨kw3_204, kw1_22, kw3_205, by decide +kernel⟩
set_option maxHeartbeats 4000000 in
set_option maxRecDepth 100000 in
theorem c_X3_putSixHead {l : Launch} {D : va_G} {cy : Nat → ClassId} {ws : va_W} {kb ka b ar N n : Nat} {f : Nat → UInt8} (hb0 : ws[kb]? = some (b, .inr (2, [.ref ar, .int (nI n)]))) (ha0 : ws[ka]? = some (ar, .inl (cy 0, N, .inl (bt f)))) (hnN : n ≤ N) (hN : N ≤ 1700) {a tr pl q hp : Nat} (ha : a + 8 ≤ n) (htr : tr < 256) (hpl : pl < 2 ^ 32) (hq : q < 256) (hhp : hp < 256) : WR (S := (Nat → UInt8)) l yX3_putSixHead cX3_putSixHead 6 none 2 0 0 48 [.ref b, .int (nI a), .int (nI tr), .int (nI pl), .int (nI q), .int (nI hp)] D cy ws (fun _ => none) (fun g => g = tg_six f a tr pl q hp) (fun g => wB ws kb ka b ar N cy g n) := by
  refine WRv (by decide) (lv0 := [(0, .ref b), (1, .int (nI a)), (2, .int (nI tr)), (3, .int (nI pl)), (4, .int (nI q)), (5, .int (nI hp))]) rfl (Nat.le_of_ble_eq_true rfl) ?_
  intro p e s m args below meth c ls A Q S hnm hP hK hD hS hA hend hl
  have hx := S.1
  have hb := S.2.1
  have hown : s.vm.findClass RX3 = some m.cls := S.2.2.2.1
  have ht : ∀ w ∈ lw_g, w.before args s = true := fun w h => S.2.2.2.2 w (List.mem_cons_of_mem _ h)
  have hne : kb ≠ ka := lst_ne hb0 ha0 (fun z => by cases z)
  have hP : va_P D vwCl (wB ws kb ka b ar N cy f n) s.heap := by rw [wB_self hb0 ha0]; exact hP
  have hD : va_D A (wB ws kb ka b ar N cy f n) := by rw [wB_self hb0 ha0]; exact hD
  refine lv_aload_n hx hb dX3_putSixHead_0 rfl (lv_at hl 0 rfl) ?_
  refine lv_iload_n hx hb dX3_putSixHead_1 rfl (lv_at hl 1 rfl) ?_
  refine nv_sipush (k := 24576) hx hb dX3_putSixHead_2 (by decide) ?_
  refine lv_iload_n hx hb dX3_putSixHead_5 rfl (lv_at hl 2 rfl) ?_
  refine nv_iconst (k := 4) hx hb dX3_putSixHead_6 rfl ?_
  refine nv_ishl hx hb (by omega) dX3_putSixHead_7 ?_
  refine nv_iorc (k := 13) (q := 3) hx hb (by decide) (by omega) dX3_putSixHead_8 ?_
  refine wr_V S (c_X1_putPair (wB_b hne hb0) (wB_a ha0) (by omega) hN (a := a) (x := 24576 + (tr) * 2 ^ 4) (by omega) (by omega)) kw3_126 yv_X1_putPair ⟨Nat.le_of_ble_eq_true rfl, Nat.le_of_ble_eq_true rfl⟩ hK hP hD hS hA (va_recv hK hP (ci := 2) (q0 := kb) rfl (wB_b hne hb0)) rfl hl.1 rfl (Nat.le_of_ble_eq_true rfl) dX3_putSixHead_9 ⟨Nat.zero_le _, Nat.zero_le _⟩ (fun g_1 H locs hg_1 hP hD hS => ?_)
  rw [wB_wB hne] at hP hD
  refine W.eq (g2 := F0 m 12 ls []) rfl ?_
  refine lv_aload_n hx hb dX3_putSixHead_12 rfl (lv_at hl 0 rfl) ?_
  refine lv_iload_n hx hb dX3_putSixHead_13 rfl (lv_at hl 1 rfl) ?_
  refine nv_iconst (k := 2) hx hb dX3_putSixHead_14 rfl ?_
  refine nv_iadd hx hb dX3_putSixHead_15 ?_
  refine nv_iconst (k := 0) hx hb dX3_putSixHead_16 rfl ?_
  refine wr_V S (c_X1_putPair (wB_b hne hb0) (wB_a ha0) (by omega) hN (a := a + 2) (x := 0) (by omega) (by omega)) kw3_126 yv_X1_putPair ⟨Nat.le_of_ble_eq_true rfl, Nat.le_of_ble_eq_true rfl⟩ hK hP hD hS hA (va_recv hK hP (ci := 2) (q0 := kb) rfl (wB_b hne hb0)) rfl hl.1 rfl (Nat.le_of_ble_eq_true rfl) dX3_putSixHead_17 ⟨Nat.zero_le _, Nat.zero_le _⟩ (fun g_2 H locs hg_2 hP hD hS => ?_)
  rw [wB_wB hne] at hP hD
  refine W.eq (g2 := F0 m 20 ls []) rfl ?_
  refine lv_aload_n hx hb dX3_putSixHead_20 rfl (lv_at hl 0 rfl) ?_
  refine lv_iload_n hx hb dX3_putSixHead_21 rfl (lv_at hl 1 rfl) ?_
  refine nv_iconst (k := 4) hx hb dX3_putSixHead_22 rfl ?_
  refine nv_iadd hx hb dX3_putSixHead_23 ?_
  refine lv_iload_n hx hb dX3_putSixHead_24 rfl (lv_at hl 3 rfl) ?_
  refine wr_V S (c_X1_putPair (wB_b hne hb0) (wB_a ha0) (by omega) hN (a := a + 4) (x := pl) (by omega) (by omega)) kw3_126 yv_X1_putPair ⟨Nat.le_of_ble_eq_true rfl, Nat.le_of_ble_eq_true rfl⟩ hK hP hD hS hA (va_recv hK hP (ci := 2) (q0 := kb) rfl (wB_b hne hb0)) rfl hl.1 rfl (Nat.le_of_ble_eq_true rfl) dX3_putSixHead_25 ⟨Nat.zero_le _, Nat.zero_le _⟩ (fun g_3 H locs hg_3 hP hD hS => ?_)
  rw [wB_wB hne] at hP hD
  refine W.eq (g2 := F0 m 28 ls []) rfl ?_
  refine lv_aload_n hx hb dX3_putSixHead_28 rfl (lv_at hl 0 rfl) ?_
  refine lv_iload_n hx hb dX3_putSixHead_29 rfl (lv_at hl 1 rfl) ?_
  refine nv_bipush (k := 6) hx hb dX3_putSixHead_30 (by decide) ?_
  refine nv_iadd hx hb dX3_putSixHead_32 ?_
  refine lv_iload hx hb dX3_putSixHead_33 (lv_at hl 4 rfl) ?_
  refine nv_iconst (k := 1) hx hb dX3_putSixHead_35 rfl ?_
  have J46 : ∀ v46 : Nat, v46 = tg_nx q → ∀ ls : Array Slot, lv_has ls 6 [(0, .ref b), (1, .int (nI a)), (2, .int (nI tr)), (3, .int (nI pl)), (4, .int (nI q)), (5, .int (nI hp))] → W p l e (rmw 2 0 0 48) s m args below meth c H locs 0 0 Q (F0 m 46 ls [.int (nI v46), .int (nI (a + 6)), .ref b]) := by
    intro v46 hv46 ls hl
    have hvb : v46 < 256 := by rw [hv46]; simp only [tg_nx]; split <;> omega
    refine wr_V S (c_X1_put (wB_b hne hb0) (wB_a ha0) (by omega) hN (k := a + 6) (x := nI (v46)) (by omega)) kw3_121 yv_X1_put ⟨Nat.le_of_ble_eq_true rfl, Nat.le_of_ble_eq_true rfl⟩ hK hP hD hS hA (va_recv hK hP (ci := 2) (q0 := kb) rfl (wB_b hne hb0)) rfl hl.1 rfl (Nat.le_of_ble_eq_true rfl) dX3_putSixHead_46 ⟨Nat.zero_le _, Nat.zero_le _⟩ (fun g_4 H locs hg_4 hP hD hS => ?_)
    rw [wB_wB hne] at hP hD
    rw [by8_nI] at hg_4
    refine W.eq (g2 := F0 m 49 ls []) rfl ?_
    refine lv_aload_n hx hb dX3_putSixHead_49 rfl (lv_at hl 0 rfl) ?_
    refine lv_iload_n hx hb dX3_putSixHead_50 rfl (lv_at hl 1 rfl) ?_
    refine nv_bipush (k := 7) hx hb dX3_putSixHead_51 (by decide) ?_
    refine nv_iadd hx hb dX3_putSixHead_53 ?_
    refine lv_iload hx hb dX3_putSixHead_54 (lv_at hl 5 rfl) ?_
    refine wr_V S (c_X1_put (wB_b hne hb0) (wB_a ha0) (by omega) hN (k := a + 7) (x := nI (hp)) (by omega)) kw3_121 yv_X1_put ⟨Nat.le_of_ble_eq_true rfl, Nat.le_of_ble_eq_true rfl⟩ hK hP hD hS hA (va_recv hK hP (ci := 2) (q0 := kb) rfl (wB_b hne hb0)) rfl hl.1 rfl (Nat.le_of_ble_eq_true rfl) dX3_putSixHead_56 ⟨Nat.zero_le _, Nat.zero_le _⟩ (fun g_5 H locs hg_5 hP hD hS => ?_)
    rw [wB_wB hne] at hP hD
    rw [by8_nI] at hg_5
    refine W.eq (g2 := F0 m 59 ls []) rfl ?_
    exact hend _ (by rw [hg_5, hg_4, hg_3, hg_2, hg_1, hv46] <;> rfl) hP hD hS dX3_putSixHead_59
  refine nv_icmp_ne (tgt := 44) hx hb dX3_putSixHead_36 (by decide) (by omega) (by omega) (fun h36 => ?_) (fun h36 => ?_)
  · skip
    refine lv_iload hx hb dX3_putSixHead_44 (lv_at hl 4 rfl) ?_
    exact J46 (q) (by simp only [tg_nx]; split <;> omega) ls (lv_sub hl [0, 1, 2, 3, 4, 5] rfl)
  refine nv_bipush (k := 58) hx hb dX3_putSixHead_39 (by decide) ?_
  refine lv_goto (tgt := 46) hx hb dX3_putSixHead_41 (by decide) ?_
  exact J46 (58) (by simp only [tg_nx]; split <;> omega) ls (lv_sub hl [0, 1, 2, 3, 4, 5] rfl)
theorem dX3_putEmbedded_0 : decode cX3_putEmbedded 0 = .ok (.aload_n 0, 1) := by decide +kernel
theorem dX3_putEmbedded_1 : decode cX3_putEmbedded 1 = .ok (.iload_n 1, 1) := by decide +kernel
theorem dX3_putEmbedded_2 : decode cX3_putEmbedded 2 = .ok (.aload_n 3, 1) := by decide +kernel
theorem dX3_putEmbedded_3 : decode cX3_putEmbedded 3 = .ok (.iload_n 2, 1) := by decide +kernel
theorem dX3_putEmbedded_4 : decode cX3_putEmbedded 4 = .ok (.invokevirtual 103, 3) := by decide +kernel
theorem dX3_putEmbedded_7 : decode cX3_putEmbedded 7 = .ok (.invokevirtual 109, 3) := by decide +kernel
theorem dX3_putEmbedded_10 : decode cX3_putEmbedded 10 = .ok (.aload_n 0, 1) := by decide +kernel
theorem dX3_putEmbedded_11 : decode cX3_putEmbedded 11 = .ok (.iload_n 1, 1) := by decide +kernel
theorem dX3_putEmbedded_12 : decode cX3_putEmbedded 12 = .ok (.bipush 8, 2) := by decide +kernel
theorem dX3_putEmbedded_14 : decode cX3_putEmbedded 14 = .ok (.iadd, 1) := by decide +kernel
theorem dX3_putEmbedded_15 : decode cX3_putEmbedded 15 = .ok (.aload_n 3, 1) := by decide +kernel
theorem dX3_putEmbedded_16 : decode cX3_putEmbedded 16 = .ok (.iload_n 2, 1) := by decide +kernel
theorem dX3_putEmbedded_17 : decode cX3_putEmbedded 17 = .ok (.invokevirtual 113, 3) := by decide +kernel
theorem dX3_putEmbedded_20 : decode cX3_putEmbedded 20 = .ok (.invokevirtual 109, 3) := by decide +kernel
theorem dX3_putEmbedded_23 : decode cX3_putEmbedded 23 = .ok (.return_, 1) := by decide +kernel
theorem yv_X3_putEmbedded : YS yX3_putEmbedded cX3_putEmbedded 4 none 4 := ⟨kw3_208, kw1_22, kw3_209, by decide +kernel⟩
set_option maxHeartbeats 4000000 in
set_option maxRecDepth 100000 in
theorem c_X3_putEmbedded {l : Launch} {D : va_G} {cy : Nat → ClassId} {ws : va_W} {kb ka b ar N n : Nat} {f : Nat → UInt8} (hb0 : ws[kb]? = some (b, .inr (2, [.ref ar, .int (nI n)]))) (ha0 : ws[ka]? = some (ar, .inl (cy 0, N, .inl (bt f)))) (hnN : n ≤ N) (hN : N ≤ 1700) {ks st bits F G : Nat} (hs0 : ws[ks]? = some (st, .inr (6, [.long (lN F), .long (lN G), .int (nI bits), .int (nI (bits - 32))]))) (hsi : SI bits F G) (ds1 : kb ≠ ks) (ds2 : ka ≠ ks) {a x : Nat} (ha : a + 16 ≤ n) (hx0 : x < 2 ^ 32) : WR (S := (Nat → UInt8)) l yX3_putEmbedded cX3_putEmbedded 4 none 2 0 0 49 [.ref b, .int (nI a), .int (nI x), .ref st] D cy ws (fun _ => none) (fun g => g = tg_emb f a x bits F G) (fun g => wB ws kb ka b ar N cy g n) := by
  refine WRv (by decide) (lv0 := [(0, .ref b), (1, .int (nI a)), (2, .int (nI x)), (3, .ref st)]) rfl (Nat.le_of_ble_eq_true rfl) ?_
  intro p e s m args below meth c ls A Q S hnm hP hK hD hS hA hend hl
  have hx := S.1
  have hb := S.2.1
  have hown : s.vm.findClass RX3 = some m.cls := S.2.2.2.1
  have ht : ∀ w ∈ lw_g, w.before args s = true := fun w h => S.2.2.2.2 w (List.mem_cons_of_mem _ h)
  have hne : kb ≠ ka := lst_ne hb0 ha0 (fun z => by cases z)
  have hP : va_P D vwCl (wB ws kb ka b ar N cy f n) s.heap := by rw [wB_self hb0 ha0]; exact hP
  have hD : va_D A (wB ws kb ka b ar N cy f n) := by rw [wB_self hb0 ha0]; exact hD
  refine lv_aload_n hx hb dX3_putEmbedded_0 rfl (lv_at hl 0 rfl) ?_
  refine lv_iload_n hx hb dX3_putEmbedded_1 rfl (lv_at hl 1 rfl) ?_
  refine lv_aload_n hx hb dX3_putEmbedded_2 rfl (lv_at hl 3 rfl) ?_
  refine lv_iload_n hx hb dX3_putEmbedded_3 rfl (lv_at hl 2 rfl) ?_
  refine ro_V S (c_X8_embedHigh (STP_of (wB_o ds1 ds2 hs0) hsi) (x := x) (by omega)) kw3_210 yv_X8_embedHigh ⟨Nat.le_of_ble_eq_true rfl, Nat.le_of_ble_eq_true rfl⟩ hK hP (va_recv hK hP (ci := 6) (q0 := ks) rfl (wB_o ds1 ds2 hs0)) rfl hl.1 rfl (Nat.le_of_ble_eq_true rfl) dX3_putEmbedded_4 ⟨Nat.zero_le _, Nat.zero_le _⟩ ?_
  have hq4 := tg_eh_lt hsi (x := x) (by omega)
  refine wr_V S (c_X1_putEight (wB_b hne hb0) (wB_a ha0) (by omega) hN (a := a) (x := tg_eh bits F (x)) (by omega) (by omega)) kw3_211 yv_X1_putEight ⟨Nat.le_of_ble_eq_true rfl, Nat.le_of_ble_eq_true rfl⟩ hK hP hD hS hA (va_recv hK hP (ci := 2) (q0 := kb) rfl (wB_b hne hb0)) rfl hl.1 rfl (Nat.le_of_ble_eq_true rfl) dX3_putEmbedded_7 ⟨Nat.zero_le _, Nat.zero_le _⟩ (fun g_1 H locs hg_1 hP hD hS => ?_)
  rw [wB_wB hne] at hP hD
  refine W.eq (g2 := F0 m 10 ls []) rfl ?_
  refine lv_aload_n hx hb dX3_putEmbedded_10 rfl (lv_at hl 0 rfl) ?_
  refine lv_iload_n hx hb dX3_putEmbedded_11 rfl (lv_at hl 1 rfl) ?_
  refine nv_bipush (k := 8) hx hb dX3_putEmbedded_12 (by decide) ?_
  refine nv_iadd hx hb dX3_putEmbedded_14 ?_
  refine lv_aload_n hx hb dX3_putEmbedded_15 rfl (lv_at hl 3 rfl) ?_
  refine lv_iload_n hx hb dX3_putEmbedded_16 rfl (lv_at hl 2 rfl) ?_
  refine ro_V S (c_X8_embedLow (STP_of (wB_o ds1 ds2 hs0) hsi) (x := x) (by omega)) kw3_215 yv_X8_embedLow ⟨Nat.le_of_ble_eq_true rfl, Nat.le_of_ble_eq_true rfl⟩ hK hP (va_recv hK hP (ci := 6) (q0 := ks) rfl (wB_o ds1 ds2 hs0)) rfl hl.1 rfl (Nat.le_of_ble_eq_true rfl) dX3_putEmbedded_17 ⟨Nat.zero_le _, Nat.zero_le _⟩ ?_
  have hq17 := tg_el_lt hsi (x := x) (by omega)
  refine wr_V S (c_X1_putEight (wB_b hne hb0) (wB_a ha0) (by omega) hN (a := a + 8) (x := tg_el bits G (x)) (by omega) (by omega)) kw3_211 yv_X1_putEight ⟨Nat.le_of_ble_eq_true rfl, Nat.le_of_ble_eq_true rfl⟩ hK hP hD hS hA (va_recv hK hP (ci := 2) (q0 := kb) rfl (wB_b hne hb0)) rfl hl.1 rfl (Nat.le_of_ble_eq_true rfl) dX3_putEmbedded_20 ⟨Nat.zero_le _, Nat.zero_le _⟩ (fun g_2 H locs hg_2 hP hD hS => ?_)
  rw [wB_wB hne] at hP hD
  refine W.eq (g2 := F0 m 23 ls []) rfl ?_
  exact hend _ (by rw [hg_2, hg_1] <;> rfl) hP hD hS dX3_putEmbedded_23
theorem dX3_putInner_0 : decode cX3_putInner 0 = .ok (.aload_n 0, 1) := by decide +kernel
theorem dX3_putInner_1 : decode cX3_putInner 1 = .ok (.iload_n 1, 1) := by decide +kernel
theorem dX3_putInner_2 : decode cX3_putInner 2 = .ok (.aload_n 2, 1) := by decide +kernel
theorem dX3_putInner_3 : decode cX3_putInner 3 = .ok (.getfield 116, 3) := by decide +kernel
theorem dX3_putInner_6 : decode cX3_putInner 6 = .ok (.invokevirtual 109, 3) := by decide +kernel
theorem dX3_putInner_9 : decode cX3_putInner 9 = .ok (.aload_n 0, 1) := by decide +kernel
theorem dX3_putInner_10 : decode cX3_putInner 10 = .ok (.iload_n 1, 1) := by decide +kernel
theorem dX3_putInner_11 : decode cX3_putInner 11 = .ok (.bipush 8, 2) := by decide +kernel
theorem dX3_putInner_13 : decode cX3_putInner 13 = .ok (.iadd, 1) := by decide +kernel
theorem dX3_putInner_14 : decode cX3_putInner 14 = .ok (.aload_n 2, 1) := by decide +kernel
theorem dX3_putInner_15 : decode cX3_putInner 15 = .ok (.getfield 120, 3) := by decide +kernel
theorem dX3_putInner_18 : decode cX3_putInner 18 = .ok (.invokevirtual 109, 3) := by decide +kernel
theorem dX3_putInner_21 : decode cX3_putInner 21 = .ok (.return_, 1) := by decide +kernel
theorem yv_X3_putInner : YS yX3_putInner cX3_putInner 3 none 3 := ⟨kw3_217, kw1_22, kw3_218, by decide +kernel⟩
set_option maxHeartbeats 4000000 in
set_option maxRecDepth 100000 in
theorem c_X3_putInner {l : Launch} {D : va_G} {cy : Nat → ClassId} {ws : va_W} {kb ka b ar N n : Nat} {f : Nat → UInt8} (hb0 : ws[kb]? = some (b, .inr (2, [.ref ar, .int (nI n)]))) (ha0 : ws[ka]? = some (ar, .inl (cy 0, N, .inl (bt f)))) (hnN : n ≤ N) (hN : N ≤ 1700) {kw ow pt ih il ip pn op : Nat} (hw0 : ws[kw]? = some (ow, .inr (1, [.int (nI pt), .long (lN ih), .long (lN il), .int (nI ip), .int (nI pn), .int (nI op)]))) (hpt : pt = 1 ∨ pt = 6 ∨ pt = 17) (hih : ih < 2 ^ 64) (hil : il < 2 ^ 64) (hip : ip < 65536) (hop : op < 2 ^ 31) (dw1 : kb ≠ kw) (dw2 : ka ≠ kw) {a : Nat} (ha : a + 16 ≤ n) : WR (S := (Nat → UInt8)) l yX3_putInner cX3_putInner 3 none 2 0 0 49 [.ref b, .int (nI a), .ref ow] D cy ws (fun _ => none) (fun g => g = tg_inn f a ih il) (fun g => wB ws kb ka b ar N cy g n) := by
  refine WRv (by decide) (lv0 := [(0, .ref b), (1, .int (nI a)), (2, .ref ow)]) rfl (Nat.le_of_ble_eq_true rfl) ?_
  intro p e s m args below meth c ls A Q S hnm hP hK hD hS hA hend hl
  have hx := S.1
  have hb := S.2.1
  have hown : s.vm.findClass RX3 = some m.cls := S.2.2.2.1
  have ht : ∀ w ∈ lw_g, w.before args s = true := fun w h => S.2.2.2.2 w (List.mem_cons_of_mem _ h)
  have hne : kb ≠ ka := lst_ne hb0 ha0 (fun z => by cases z)
  have hP : va_P D vwCl (wB ws kb ka b ar N cy f n) s.heap := by rw [wB_self hb0 ha0]; exact hP
  have hD : va_D A (wB ws kb ka b ar N cy f n) := by rw [wB_self hb0 ha0]; exact hD
  refine lv_aload_n hx hb dX3_putInner_0 rfl (lv_at hl 0 rfl) ?_
  refine lv_iload_n hx hb dX3_putInner_1 rfl (lv_at hl 1 rfl) ?_
  refine lv_aload_n hx hb dX3_putInner_2 rfl (lv_at hl 2 rfl) ?_
  refine va_get (ci := 1) (C := RX0) (T := TX0) (N := 6) hx hb ht iFX0 hown hK hP kw (wB_o dw1 dw2 hw0) rfl 1 (by decide) (ht _ kw2_238) (fun _ h9 => h9) rfl dX3_putInner_3 ?_
  refine wr_V S (c_X1_putEight (wB_b hne hb0) (wB_a ha0) (by omega) hN (a := a) (x := ih) (by omega) (by omega)) kw3_211 yv_X1_putEight ⟨Nat.le_of_ble_eq_true rfl, Nat.le_of_ble_eq_true rfl⟩ hK hP hD hS hA (va_recv hK hP (ci := 2) (q0 := kb) rfl (wB_b hne hb0)) rfl hl.1 rfl (Nat.le_of_ble_eq_true rfl) dX3_putInner_6 ⟨Nat.zero_le _, Nat.zero_le _⟩ (fun g_1 H locs hg_1 hP hD hS => ?_)
  rw [wB_wB hne] at hP hD
  refine W.eq (g2 := F0 m 9 ls []) rfl ?_
  refine lv_aload_n hx hb dX3_putInner_9 rfl (lv_at hl 0 rfl) ?_
  refine lv_iload_n hx hb dX3_putInner_10 rfl (lv_at hl 1 rfl) ?_
  refine nv_bipush (k := 8) hx hb dX3_putInner_11 (by decide) ?_
  refine nv_iadd hx hb dX3_putInner_13 ?_
  refine lv_aload_n hx hb dX3_putInner_14 rfl (lv_at hl 2 rfl) ?_
  refine va_get (ci := 1) (C := RX0) (T := TX0) (N := 6) hx hb ht iFX0 hown hK hP kw (wB_o dw1 dw2 hw0) rfl 2 (by decide) (ht _ kw3_1) (fun _ h9 => h9) rfl dX3_putInner_15 ?_
  refine wr_V S (c_X1_putEight (wB_b hne hb0) (wB_a ha0) (by omega) hN (a := a + 8) (x := il) (by omega) (by omega)) kw3_211 yv_X1_putEight ⟨Nat.le_of_ble_eq_true rfl, Nat.le_of_ble_eq_true rfl⟩ hK hP hD hS hA (va_recv hK hP (ci := 2) (q0 := kb) rfl (wB_b hne hb0)) rfl hl.1 rfl (Nat.le_of_ble_eq_true rfl) dX3_putInner_18 ⟨Nat.zero_le _, Nat.zero_le _⟩ (fun g_2 H locs hg_2 hP hD hS => ?_)
  rw [wB_wB hne] at hP hD
  refine W.eq (g2 := F0 m 21 ls []) rfl ?_
  exact hend _ (by rw [hg_2, hg_1] <;> rfl) hP hD hS dX3_putInner_21
theorem dX3_unreachableCode_0 : decode cX3_unreachableCode 0 = .ok (.iload_n 0, 1) := by decide +kernel
theorem dX3_unreachableCode_1 : decode cX3_unreachableCode 1 = .ok (.tableswitch 71 3 15 #[67, 71, 71, 71, 71, 71, 69, 69, 71, 71, 69, 71, 69], 67) := by decide +kernel
theorem dX3_unreachableCode_68 : decode cX3_unreachableCode 68 = .ok (.iconst 4, 1) := by decide +kernel
theorem dX3_unreachableCode_69 : decode cX3_unreachableCode 69 = .ok (.ireturn, 1) := by decide +kernel
theorem dX3_unreachableCode_70 : decode cX3_unreachableCode 70 = .ok (.iconst 1, 1) := by decide +kernel
theorem dX3_unreachableCode_71 : decode cX3_unreachableCode 71 = .ok (.ireturn, 1) := by decide +kernel
theorem dX3_unreachableCode_72 : decode cX3_unreachableCode 72 = .ok (.iconst 0, 1) := by decide +kernel
theorem dX3_unreachableCode_73 : decode cX3_unreachableCode 73 = .ok (.ireturn, 1) := by decide +kernel
theorem yv_X3_unreachableCode : YS yX3_unreachableCode cX3_unreachableCode 1 (some .int) 1 := ⟨kw3_224, kw1_22, kw3_225, by decide +kernel⟩
set_option maxHeartbeats 4000000 in
set_option maxRecDepth 100000 in
theorem c_X3_unreachableCode {l : Launch} {D : va_G} {cy : Nat → ClassId} {ws : va_W} {x : Nat} (hx0 : x < 256) : RO l yX3_unreachableCode cX3_unreachableCode 1 (some .int) 0 0 [.int (nI x)] D cy ws (.int (nI (tg_unr x))) := by
  refine ROi (by decide) (lv0 := [(0, .int (nI x))]) rfl (Nat.le_of_ble_eq_true rfl) ?_
  intro p e s m args below meth c ls Q S hP hK hend hl
  have hx := S.1
  have hb := S.2.1
  have hown : s.vm.findClass RX3 = some m.cls := S.2.2.2.1
  have ht : ∀ w ∈ lw_g, w.before args s = true := fun w h => S.2.2.2.2 w (List.mem_cons_of_mem _ h)
  refine lv_iload_n hx hb dX3_unreachableCode_0 rfl (lv_at hl 0 rfl) ?_
  by_cases hs1_0 : x = 3
  · refine lv_tableIn (off := 67) (tgt := 68) hx hb dX3_unreachableCode_1 (by rw [hs1_0]; decide) (by rw [hs1_0]; decide) (by rw [hs1_0]; decide) (by decide) ?_
    refine nv_iconst (k := 4) hx hb dX3_unreachableCode_68 rfl ?_
    exact hend ((congrArg nI (by simp only [tg_unr]; (repeat' split) <;> omega))) dX3_unreachableCode_69
  by_cases hs1_1 : x = 4
  · refine lv_tableIn (off := 71) (tgt := 72) hx hb dX3_unreachableCode_1 (by rw [hs1_1]; decide) (by rw [hs1_1]; decide) (by rw [hs1_1]; decide) (by decide) ?_
    refine nv_iconst (k := 0) hx hb dX3_unreachableCode_72 rfl ?_
    exact hend ((congrArg nI (by simp only [tg_unr]; (repeat' split) <;> omega))) dX3_unreachableCode_73
  by_cases hs1_2 : x = 5
  · refine lv_tableIn (off := 71) (tgt := 72) hx hb dX3_unreachableCode_1 (by rw [hs1_2]; decide) (by rw [hs1_2]; decide) (by rw [hs1_2]; decide) (by decide) ?_
    refine nv_iconst (k := 0) hx hb dX3_unreachableCode_72 rfl ?_
    exact hend ((congrArg nI (by simp only [tg_unr]; (repeat' split) <;> omega))) dX3_unreachableCode_73
  by_cases hs1_3 : x = 6
  · refine lv_tableIn (off := 71) (tgt := 72) hx hb dX3_unreachableCode_1 (by rw [hs1_3]; decide) (by rw [hs1_3]; decide) (by rw [hs1_3]; decide) (by decide) ?_
    refine nv_iconst (k := 0) hx hb dX3_unreachableCode_72 rfl ?_
    exact hend ((congrArg nI (by simp only [tg_unr]; (repeat' split) <;> omega))) dX3_unreachableCode_73
  by_cases hs1_4 : x = 7
  · refine lv_tableIn (off := 71) (tgt := 72) hx hb dX3_unreachableCode_1 (by rw [hs1_4]; decide) (by rw [hs1_4]; decide) (by rw [hs1_4]; decide) (by decide) ?_
    refine nv_iconst (k := 0) hx hb dX3_unreachableCode_72 rfl ?_
    exact hend ((congrArg nI (by simp only [tg_unr]; (repeat' split) <;> omega))) dX3_unreachableCode_73
  by_cases hs1_5 : x = 8
  · refine lv_tableIn (off := 71) (tgt := 72) hx hb dX3_unreachableCode_1 (by rw [hs1_5]; decide) (by rw [hs1_5]; decide) (by rw [hs1_5]; decide) (by decide) ?_
    refine nv_iconst (k := 0) hx hb dX3_unreachableCode_72 rfl ?_
    exact hend ((congrArg nI (by simp only [tg_unr]; (repeat' split) <;> omega))) dX3_unreachableCode_73
  by_cases hs1_6 : x = 9
  · refine lv_tableIn (off := 69) (tgt := 70) hx hb dX3_unreachableCode_1 (by rw [hs1_6]; decide) (by rw [hs1_6]; decide) (by rw [hs1_6]; decide) (by decide) ?_
    refine nv_iconst (k := 1) hx hb dX3_unreachableCode_70 rfl ?_
    exact hend ((congrArg nI (by simp only [tg_unr]; (repeat' split) <;> omega))) dX3_unreachableCode_71
  by_cases hs1_7 : x = 10
  · refine lv_tableIn (off := 69) (tgt := 70) hx hb dX3_unreachableCode_1 (by rw [hs1_7]; decide) (by rw [hs1_7]; decide) (by rw [hs1_7]; decide) (by decide) ?_
    refine nv_iconst (k := 1) hx hb dX3_unreachableCode_70 rfl ?_
    exact hend ((congrArg nI (by simp only [tg_unr]; (repeat' split) <;> omega))) dX3_unreachableCode_71
  by_cases hs1_8 : x = 11
  · refine lv_tableIn (off := 71) (tgt := 72) hx hb dX3_unreachableCode_1 (by rw [hs1_8]; decide) (by rw [hs1_8]; decide) (by rw [hs1_8]; decide) (by decide) ?_
    refine nv_iconst (k := 0) hx hb dX3_unreachableCode_72 rfl ?_
    exact hend ((congrArg nI (by simp only [tg_unr]; (repeat' split) <;> omega))) dX3_unreachableCode_73
  by_cases hs1_9 : x = 12
  · refine lv_tableIn (off := 71) (tgt := 72) hx hb dX3_unreachableCode_1 (by rw [hs1_9]; decide) (by rw [hs1_9]; decide) (by rw [hs1_9]; decide) (by decide) ?_
    refine nv_iconst (k := 0) hx hb dX3_unreachableCode_72 rfl ?_
    exact hend ((congrArg nI (by simp only [tg_unr]; (repeat' split) <;> omega))) dX3_unreachableCode_73
  by_cases hs1_10 : x = 13
  · refine lv_tableIn (off := 69) (tgt := 70) hx hb dX3_unreachableCode_1 (by rw [hs1_10]; decide) (by rw [hs1_10]; decide) (by rw [hs1_10]; decide) (by decide) ?_
    refine nv_iconst (k := 1) hx hb dX3_unreachableCode_70 rfl ?_
    exact hend ((congrArg nI (by simp only [tg_unr]; (repeat' split) <;> omega))) dX3_unreachableCode_71
  by_cases hs1_11 : x = 14
  · refine lv_tableIn (off := 71) (tgt := 72) hx hb dX3_unreachableCode_1 (by rw [hs1_11]; decide) (by rw [hs1_11]; decide) (by rw [hs1_11]; decide) (by decide) ?_
    refine nv_iconst (k := 0) hx hb dX3_unreachableCode_72 rfl ?_
    exact hend ((congrArg nI (by simp only [tg_unr]; (repeat' split) <;> omega))) dX3_unreachableCode_73
  by_cases hs1_12 : x = 15
  · refine lv_tableIn (off := 69) (tgt := 70) hx hb dX3_unreachableCode_1 (by rw [hs1_12]; decide) (by rw [hs1_12]; decide) (by rw [hs1_12]; decide) (by decide) ?_
    refine nv_iconst (k := 1) hx hb dX3_unreachableCode_70 rfl ?_
    exact hend ((congrArg nI (by simp only [tg_unr]; (repeat' split) <;> omega))) dX3_unreachableCode_71
  refine lv_tableOut (tgt := 72) hx hb dX3_unreachableCode_1 (by rw [nI_toInt (by omega)]; omega) (by decide) ?_
  refine nv_iconst (k := 0) hx hb dX3_unreachableCode_72 rfl ?_
  exact hend ((congrArg nI (by simp only [tg_unr]; (repeat' split) <;> omega))) dX3_unreachableCode_73
theorem dX3_putErrorKind_0 : decode cX3_putErrorKind 0 = .ok (.aload_n 0, 1) := by decide +kernel
theorem dX3_putErrorKind_1 : decode cX3_putErrorKind 1 = .ok (.bipush 21, 2) := by decide +kernel
theorem dX3_putErrorKind_3 : decode cX3_putErrorKind 3 = .ok (.invokevirtual 36, 3) := by decide +kernel
theorem dX3_putErrorKind_6 : decode cX3_putErrorKind 6 = .ok (.istore_n 2, 1) := by decide +kernel
theorem dX3_putErrorKind_7 : decode cX3_putErrorKind 7 = .ok (.aload_n 0, 1) := by decide +kernel
theorem dX3_putErrorKind_8 : decode cX3_putErrorKind 8 = .ok (.bipush 20, 2) := by decide +kernel
theorem dX3_putErrorKind_10 : decode cX3_putErrorKind 10 = .ok (.invokevirtual 36, 3) := by decide +kernel
theorem dX3_putErrorKind_13 : decode cX3_putErrorKind 13 = .ok (.bipush 11, 2) := by decide +kernel
theorem dX3_putErrorKind_15 : decode cX3_putErrorKind 15 = .ok (.if_icmp .ne 24, 3) := by decide +kernel
theorem dX3_putErrorKind_18 : decode cX3_putErrorKind 18 = .ok (.aload_n 1, 1) := by decide +kernel
theorem dX3_putErrorKind_19 : decode cX3_putErrorKind 19 = .ok (.bipush 40, 2) := by decide +kernel
theorem dX3_putErrorKind_21 : decode cX3_putErrorKind 21 = .ok (.sipush 768, 3) := by decide +kernel
theorem dX3_putErrorKind_24 : decode cX3_putErrorKind 24 = .ok (.iload_n 2, 1) := by decide +kernel
theorem dX3_putErrorKind_25 : decode cX3_putErrorKind 25 = .ok (.ior, 1) := by decide +kernel
theorem dX3_putErrorKind_26 : decode cX3_putErrorKind 26 = .ok (.invokevirtual 33, 3) := by decide +kernel
theorem dX3_putErrorKind_29 : decode cX3_putErrorKind 29 = .ok (.aload_n 1, 1) := by decide +kernel
theorem dX3_putErrorKind_30 : decode cX3_putErrorKind 30 = .ok (.bipush 44, 2) := by decide +kernel
theorem dX3_putErrorKind_32 : decode cX3_putErrorKind 32 = .ok (.iconst 0, 1) := by decide +kernel
theorem dX3_putErrorKind_33 : decode cX3_putErrorKind 33 = .ok (.invokevirtual 39, 3) := by decide +kernel
theorem dX3_putErrorKind_36 : decode cX3_putErrorKind 36 = .ok (.goto 62, 3) := by decide +kernel
theorem dX3_putErrorKind_39 : decode cX3_putErrorKind 39 = .ok (.iload_n 2, 1) := by decide +kernel
theorem dX3_putErrorKind_40 : decode cX3_putErrorKind 40 = .ok (.iconst 4, 1) := by decide +kernel
theorem dX3_putErrorKind_41 : decode cX3_putErrorKind 41 = .ok (.if_icmp .ne 36, 3) := by decide +kernel
theorem dX3_putErrorKind_44 : decode cX3_putErrorKind 44 = .ok (.aload_n 1, 1) := by decide +kernel
theorem dX3_putErrorKind_45 : decode cX3_putErrorKind 45 = .ok (.bipush 40, 2) := by decide +kernel
theorem dX3_putErrorKind_47 : decode cX3_putErrorKind 47 = .ok (.sipush 512, 3) := by decide +kernel
theorem dX3_putErrorKind_50 : decode cX3_putErrorKind 50 = .ok (.invokevirtual 33, 3) := by decide +kernel
theorem dX3_putErrorKind_53 : decode cX3_putErrorKind 53 = .ok (.aload_n 1, 1) := by decide +kernel
theorem dX3_putErrorKind_54 : decode cX3_putErrorKind 54 = .ok (.bipush 44, 2) := by decide +kernel
theorem dX3_putErrorKind_56 : decode cX3_putErrorKind 56 = .ok (.sipush 1280, 3) := by decide +kernel
theorem dX3_putErrorKind_59 : decode cX3_putErrorKind 59 = .ok (.aload_n 0, 1) := by decide +kernel
theorem dX3_putErrorKind_60 : decode cX3_putErrorKind 60 = .ok (.bipush 26, 2) := by decide +kernel
theorem dX3_putErrorKind_62 : decode cX3_putErrorKind 62 = .ok (.invokevirtual 29, 3) := by decide +kernel
theorem dX3_putErrorKind_65 : decode cX3_putErrorKind 65 = .ok (.bipush 20, 2) := by decide +kernel
theorem dX3_putErrorKind_67 : decode cX3_putErrorKind 67 = .ok (.iadd, 1) := by decide +kernel
theorem dX3_putErrorKind_68 : decode cX3_putErrorKind 68 = .ok (.invokestatic 97, 3) := by decide +kernel
theorem dX3_putErrorKind_71 : decode cX3_putErrorKind 71 = .ok (.invokevirtual 39, 3) := by decide +kernel
theorem dX3_putErrorKind_74 : decode cX3_putErrorKind 74 = .ok (.goto 24, 3) := by decide +kernel
theorem dX3_putErrorKind_77 : decode cX3_putErrorKind 77 = .ok (.aload_n 1, 1) := by decide +kernel
theorem dX3_putErrorKind_78 : decode cX3_putErrorKind 78 = .ok (.bipush 40, 2) := by decide +kernel
theorem dX3_putErrorKind_80 : decode cX3_putErrorKind 80 = .ok (.sipush 256, 3) := by decide +kernel
theorem dX3_putErrorKind_83 : decode cX3_putErrorKind 83 = .ok (.iload_n 2, 1) := by decide +kernel
theorem dX3_putErrorKind_84 : decode cX3_putErrorKind 84 = .ok (.invokestatic 100, 3) := by decide +kernel
theorem dX3_putErrorKind_87 : decode cX3_putErrorKind 87 = .ok (.ior, 1) := by decide +kernel
theorem dX3_putErrorKind_88 : decode cX3_putErrorKind 88 = .ok (.invokevirtual 33, 3) := by decide +kernel
theorem dX3_putErrorKind_91 : decode cX3_putErrorKind 91 = .ok (.aload_n 1, 1) := by decide +kernel
theorem dX3_putErrorKind_92 : decode cX3_putErrorKind 92 = .ok (.bipush 44, 2) := by decide +kernel
theorem dX3_putErrorKind_94 : decode cX3_putErrorKind 94 = .ok (.iconst 0, 1) := by decide +kernel
theorem dX3_putErrorKind_95 : decode cX3_putErrorKind 95 = .ok (.invokevirtual 39, 3) := by decide +kernel
theorem dX3_putErrorKind_98 : decode cX3_putErrorKind 98 = .ok (.return_, 1) := by decide +kernel
theorem yv_X3_putErrorKind : YS yX3_putErrorKind cX3_putErrorKind 3 none 2 := ⟨kw3_220, kw1_22, kw3_221, by decide +kernel⟩
set_option maxHeartbeats 4000000 in
set_option maxRecDepth 100000 in
theorem c_X3_putErrorKind {l : Launch} {D : va_G} {cy : Nat → ClassId} {ws : va_W} {kb ka b ar N n : Nat} {f : Nat → UInt8} (hb0 : ws[kb]? = some (b, .inr (2, [.ref ar, .int (nI n)]))) (ha0 : ws[ka]? = some (ar, .inl (cy 0, N, .inl (bt f)))) (hnN : n ≤ N) (hN : N ≤ 1700) {ki kai bi ai Ni ni : Nat} {fi : Nat → UInt8} (hi0 : ws[ki]? = some (bi, .inr (2, [.ref ai, .int (nI ni)]))) (hi1 : ws[kai]? = some (ai, .inl (cy 0, Ni, .inl (bt fi)))) (hniN : ni ≤ Ni) (hNi : Ni ≤ 1700) (di1 : kb ≠ ki) (di2 : ka ≠ ki) (di3 : kb ≠ kai) (di4 : ka ≠ kai) (hn48 : 48 ≤ n) : WR (S := (Nat → UInt8)) l yX3_putErrorKind cX3_putErrorKind 3 none 2 0 0 48 [.ref bi, .ref b] D cy ws (fun _ => none) (fun g => g = tg_kind (tg_rd fi ni) f) (fun g => wB ws kb ka b ar N cy g n) := by
  refine WRv (by decide) (lv0 := [(0, .ref bi), (1, .ref b)]) rfl (Nat.le_of_ble_eq_true rfl) ?_
  intro p e s m args below meth c ls A Q S hnm hP hK hD hS hA hend hl
  have hx := S.1
  have hb := S.2.1
  have hown : s.vm.findClass RX3 = some m.cls := S.2.2.2.1
  have ht : ∀ w ∈ lw_g, w.before args s = true := fun w h => S.2.2.2.2 w (List.mem_cons_of_mem _ h)
  have hne : kb ≠ ka := lst_ne hb0 ha0 (fun z => by cases z)
  have hP : va_P D vwCl (wB ws kb ka b ar N cy f n) s.heap := by rw [wB_self hb0 ha0]; exact hP
  have hD : va_D A (wB ws kb ka b ar N cy f n) := by rw [wB_self hb0 ha0]; exact hD
  refine lv_aload_n hx hb dX3_putErrorKind_0 rfl (lv_at hl 0 rfl) ?_
  refine nv_bipush (k := 21) hx hb dX3_putErrorKind_1 (by decide) ?_
  refine ro_V S (c_X1_octet (PK_of (wB_o di1 di2 hi0) (wB_o di3 di4 hi1) hniN hNi) (k := 21) (by omega)) kw3_130 yv_X1_octet ⟨Nat.le_of_ble_eq_true rfl, Nat.le_of_ble_eq_true rfl⟩ hK hP (va_recv hK hP (ci := 2) (q0 := ki) rfl (wB_o di1 di2 hi0)) rfl hl.1 rfl (Nat.le_of_ble_eq_true rfl) dX3_putErrorKind_3 ⟨Nat.zero_le _, Nat.zero_le _⟩ ?_
  have hq3 := tg_rd_lt fi ni 21
  refine lv_istore_n (lv' := [(2, .int (nI (tg_rd fi ni 21))), (0, .ref bi), (1, .ref b)]) hx hb dX3_putErrorKind_6 rfl hl (by decide) rfl (fun ls hl => ?_)
  refine lv_aload_n hx hb dX3_putErrorKind_7 rfl (lv_at hl 1 rfl) ?_
  refine nv_bipush (k := 20) hx hb dX3_putErrorKind_8 (by decide) ?_
  refine ro_V S (c_X1_octet (PK_of (wB_o di1 di2 hi0) (wB_o di3 di4 hi1) hniN hNi) (k := 20) (by omega)) kw3_130 yv_X1_octet ⟨Nat.le_of_ble_eq_true rfl, Nat.le_of_ble_eq_true rfl⟩ hK hP (va_recv hK hP (ci := 2) (q0 := ki) rfl (wB_o di1 di2 hi0)) rfl hl.1 rfl (Nat.le_of_ble_eq_true rfl) dX3_putErrorKind_10 ⟨Nat.zero_le _, Nat.zero_le _⟩ ?_
  have hq10 := tg_rd_lt fi ni 20
  refine nv_bipush (k := 11) hx hb dX3_putErrorKind_13 (by decide) ?_
  refine nv_icmp_ne (tgt := 39) hx hb dX3_putErrorKind_15 (by decide) (by omega) (by omega) (fun h15 => ?_) (fun h15 => ?_)
  · skip
    refine lv_iload_n hx hb dX3_putErrorKind_39 rfl (lv_at hl 0 rfl) ?_
    refine nv_iconst (k := 4) hx hb dX3_putErrorKind_40 rfl ?_
    refine nv_icmp_ne (tgt := 77) hx hb dX3_putErrorKind_41 (by decide) (by omega) (by omega) (fun h41 => ?_) (fun h41 => ?_)
    · skip
      refine lv_aload_n hx hb dX3_putErrorKind_77 rfl (lv_at hl 2 rfl) ?_
      refine nv_bipush (k := 40) hx hb dX3_putErrorKind_78 (by decide) ?_
      refine nv_sipush (k := 256) hx hb dX3_putErrorKind_80 (by decide) ?_
      refine lv_iload_n hx hb dX3_putErrorKind_83 rfl (lv_at hl 0 rfl) ?_
      refine ro_S S (c_X3_unreachableCode (x := tg_rd fi ni 21) (by omega)) kw3_223 yv_X3_unreachableCode ⟨Nat.le_of_ble_eq_true rfl, Nat.le_of_ble_eq_true rfl⟩ hK hP rfl hl.1 rfl (Nat.le_of_ble_eq_true rfl) dX3_putErrorKind_84 ⟨Nat.zero_le _, Nat.zero_le _⟩ ?_
      have hq84 := tg_unr_le (tg_rd fi ni 21)
      refine nv_iorc (k := 8) (q := 1) hx hb (by decide) (by omega) dX3_putErrorKind_87 ?_
      refine wr_V S (c_X1_putPair (wB_b hne hb0) (wB_a ha0) (by omega) hN (a := 40) (x := 256 + tg_unr (tg_rd fi ni 21)) (by omega) (by omega)) kw3_126 yv_X1_putPair ⟨Nat.le_of_ble_eq_true rfl, Nat.le_of_ble_eq_true rfl⟩ hK hP hD hS hA (va_recv hK hP (ci := 2) (q0 := kb) rfl (wB_b hne hb0)) rfl hl.1 rfl (Nat.le_of_ble_eq_true rfl) dX3_putErrorKind_88 ⟨Nat.zero_le _, Nat.zero_le _⟩ (fun g_1 H locs hg_1 hP hD hS => ?_)
      rw [wB_wB hne] at hP hD
      refine W.eq (g2 := F0 m 91 ls []) rfl ?_
      refine lv_aload_n hx hb dX3_putErrorKind_91 rfl (lv_at hl 2 rfl) ?_
      refine nv_bipush (k := 44) hx hb dX3_putErrorKind_92 (by decide) ?_
      refine nv_iconst (k := 0) hx hb dX3_putErrorKind_94 rfl ?_
      refine wr_V S (c_X1_putQuad (wB_b hne hb0) (wB_a ha0) (by omega) hN (a := 44) (x := 0) (by omega) (by omega)) kw3_131 yv_X1_putQuad ⟨Nat.le_of_ble_eq_true rfl, Nat.le_of_ble_eq_true rfl⟩ hK hP hD hS hA (va_recv hK hP (ci := 2) (q0 := kb) rfl (wB_b hne hb0)) rfl hl.1 rfl (Nat.le_of_ble_eq_true rfl) dX3_putErrorKind_95 ⟨Nat.zero_le _, Nat.zero_le _⟩ (fun g_2 H locs hg_2 hP hD hS => ?_)
      rw [wB_wB hne] at hP hD
      refine W.eq (g2 := F0 m 98 ls []) rfl ?_
      exact hend _ (by rw [hg_2, hg_1]; simp only [tg_kind]; first | rw [if_pos (by assumption)] | rw [if_neg (by assumption), if_pos (by assumption)] | rw [if_neg (by assumption), if_neg (by assumption)]) hP hD hS dX3_putErrorKind_98
    refine lv_aload_n hx hb dX3_putErrorKind_44 rfl (lv_at hl 2 rfl) ?_
    refine nv_bipush (k := 40) hx hb dX3_putErrorKind_45 (by decide) ?_
    refine nv_sipush (k := 512) hx hb dX3_putErrorKind_47 (by decide) ?_
    refine wr_V S (c_X1_putPair (wB_b hne hb0) (wB_a ha0) (by omega) hN (a := 40) (x := 512) (by omega) (by omega)) kw3_126 yv_X1_putPair ⟨Nat.le_of_ble_eq_true rfl, Nat.le_of_ble_eq_true rfl⟩ hK hP hD hS hA (va_recv hK hP (ci := 2) (q0 := kb) rfl (wB_b hne hb0)) rfl hl.1 rfl (Nat.le_of_ble_eq_true rfl) dX3_putErrorKind_50 ⟨Nat.zero_le _, Nat.zero_le _⟩ (fun g_3 H locs hg_3 hP hD hS => ?_)
    rw [wB_wB hne] at hP hD
    refine W.eq (g2 := F0 m 53 ls []) rfl ?_
    refine lv_aload_n hx hb dX3_putErrorKind_53 rfl (lv_at hl 2 rfl) ?_
    refine nv_bipush (k := 44) hx hb dX3_putErrorKind_54 (by decide) ?_
    refine nv_sipush (k := 1280) hx hb dX3_putErrorKind_56 (by decide) ?_
    refine lv_aload_n hx hb dX3_putErrorKind_59 rfl (lv_at hl 1 rfl) ?_
    refine nv_bipush (k := 26) hx hb dX3_putErrorKind_60 (by decide) ?_
    refine ro_V S (c_X1_pair (PK_of (wB_o di1 di2 hi0) (wB_o di3 di4 hi1) hniN hNi) (a := 26) (by omega)) kw3_125 yv_X1_pair ⟨Nat.le_of_ble_eq_true rfl, Nat.le_of_ble_eq_true rfl⟩ hK hP (va_recv hK hP (ci := 2) (q0 := ki) rfl (wB_o di1 di2 hi0)) rfl hl.1 rfl (Nat.le_of_ble_eq_true rfl) dX3_putErrorKind_62 ⟨Nat.zero_le _, Nat.zero_le _⟩ ?_
    have hq62 := tg_pr_lt fi ni 26
    refine nv_bipush (k := 20) hx hb dX3_putErrorKind_65 (by decide) ?_
    refine nv_iadd hx hb dX3_putErrorKind_67 ?_
    refine nv_max hx hb (S.2.2.1.trans hl.1.symm) hown (ht _ kw3_222) (ht _ kw1_38) (ht _ kw1_3) (ht _ kw1_39) (Nat.le_of_ble_eq_true rfl) (Nat.le_of_ble_eq_true rfl) (Nat.zero_le _) (Nat.zero_le _) (by omega) (by omega) dX3_putErrorKind_68 ?_
    refine wr_V S (c_X1_putQuad (wB_b hne hb0) (wB_a ha0) (by omega) hN (a := 44) (x := max 1280 ((tg_pr (tg_rd fi ni) 26) + 20)) (by omega) (by omega)) kw3_131 yv_X1_putQuad ⟨Nat.le_of_ble_eq_true rfl, Nat.le_of_ble_eq_true rfl⟩ hK hP hD hS hA (va_recv hK hP (ci := 2) (q0 := kb) rfl (wB_b hne hb0)) rfl hl.1 rfl (Nat.le_of_ble_eq_true rfl) dX3_putErrorKind_71 ⟨Nat.zero_le _, Nat.zero_le _⟩ (fun g_4 H locs hg_4 hP hD hS => ?_)
    rw [wB_wB hne] at hP hD
    refine W.eq (g2 := F0 m 74 ls []) rfl ?_
    refine lv_goto (tgt := 98) hx hb dX3_putErrorKind_74 (by decide) ?_
    exact hend _ (by rw [hg_4, hg_3]; simp only [tg_kind]; first | rw [if_pos (by assumption)] | rw [if_neg (by assumption), if_pos (by assumption)] | rw [if_neg (by assumption), if_neg (by assumption)]) hP hD hS dX3_putErrorKind_98
  refine lv_aload_n hx hb dX3_putErrorKind_18 rfl (lv_at hl 2 rfl) ?_
  refine nv_bipush (k := 40) hx hb dX3_putErrorKind_19 (by decide) ?_
  refine nv_sipush (k := 768) hx hb dX3_putErrorKind_21 (by decide) ?_
  refine lv_iload_n hx hb dX3_putErrorKind_24 rfl (lv_at hl 0 rfl) ?_
  refine nv_iorc (k := 8) (q := 3) hx hb (by decide) (by omega) dX3_putErrorKind_25 ?_
  refine wr_V S (c_X1_putPair (wB_b hne hb0) (wB_a ha0) (by omega) hN (a := 40) (x := 768 + tg_rd fi ni 21) (by omega) (by omega)) kw3_126 yv_X1_putPair ⟨Nat.le_of_ble_eq_true rfl, Nat.le_of_ble_eq_true rfl⟩ hK hP hD hS hA (va_recv hK hP (ci := 2) (q0 := kb) rfl (wB_b hne hb0)) rfl hl.1 rfl (Nat.le_of_ble_eq_true rfl) dX3_putErrorKind_26 ⟨Nat.zero_le _, Nat.zero_le _⟩ (fun g_5 H locs hg_5 hP hD hS => ?_)
  rw [wB_wB hne] at hP hD
  refine W.eq (g2 := F0 m 29 ls []) rfl ?_
  refine lv_aload_n hx hb dX3_putErrorKind_29 rfl (lv_at hl 2 rfl) ?_
  refine nv_bipush (k := 44) hx hb dX3_putErrorKind_30 (by decide) ?_
  refine nv_iconst (k := 0) hx hb dX3_putErrorKind_32 rfl ?_
  refine wr_V S (c_X1_putQuad (wB_b hne hb0) (wB_a ha0) (by omega) hN (a := 44) (x := 0) (by omega) (by omega)) kw3_131 yv_X1_putQuad ⟨Nat.le_of_ble_eq_true rfl, Nat.le_of_ble_eq_true rfl⟩ hK hP hD hS hA (va_recv hK hP (ci := 2) (q0 := kb) rfl (wB_b hne hb0)) rfl hl.1 rfl (Nat.le_of_ble_eq_true rfl) dX3_putErrorKind_33 ⟨Nat.zero_le _, Nat.zero_le _⟩ (fun g_6 H locs hg_6 hP hD hS => ?_)
  rw [wB_wB hne] at hP hD
  refine W.eq (g2 := F0 m 36 ls []) rfl ?_
  refine lv_goto (tgt := 98) hx hb dX3_putErrorKind_36 (by decide) ?_
  exact hend _ (by rw [hg_6, hg_5]; simp only [tg_kind]; first | rw [if_pos (by assumption)] | rw [if_neg (by assumption), if_pos (by assumption)] | rw [if_neg (by assumption), if_neg (by assumption)]) hP hD hS dX3_putErrorKind_98
theorem dX9_putPart_0 : decode cX9_putPart 0 = .ok (.iload_n 1, 1) := by decide +kernel
theorem dX9_putPart_1 : decode cX9_putPart 1 = .ok (.aload_n 0, 1) := by decide +kernel
theorem dX9_putPart_2 : decode cX9_putPart 2 = .ok (.iload_n 1, 1) := by decide +kernel
theorem dX9_putPart_3 : decode cX9_putPart 3 = .ok (.invokestatic 19, 3) := by decide +kernel
theorem dX9_putPart_6 : decode cX9_putPart 6 = .ok (.invokestatic 35, 3) := by decide +kernel
theorem dX9_putPart_9 : decode cX9_putPart 9 = .ok (.iadd, 1) := by decide +kernel
theorem dX9_putPart_10 : decode cX9_putPart 10 = .ok (.istore_n 2, 1) := by decide +kernel
theorem dX9_putPart_11 : decode cX9_putPart 11 = .ok (.aload_n 0, 1) := by decide +kernel
theorem dX9_putPart_12 : decode cX9_putPart 12 = .ok (.iload_n 2, 1) := by decide +kernel
theorem dX9_putPart_13 : decode cX9_putPart 13 = .ok (.aload_n 0, 1) := by decide +kernel
theorem dX9_putPart_14 : decode cX9_putPart 14 = .ok (.aload_n 0, 1) := by decide +kernel
theorem dX9_putPart_15 : decode cX9_putPart 15 = .ok (.invokevirtual 38, 3) := by decide +kernel
theorem dX9_putPart_18 : decode cX9_putPart 18 = .ok (.iload_n 1, 1) := by decide +kernel
theorem dX9_putPart_19 : decode cX9_putPart 19 = .ok (.iload_n 2, 1) := by decide +kernel
theorem dX9_putPart_20 : decode cX9_putPart 20 = .ok (.invokestatic 42, 3) := by decide +kernel
theorem dX9_putPart_23 : decode cX9_putPart 23 = .ok (.invokevirtual 45, 3) := by decide +kernel
theorem dX9_putPart_26 : decode cX9_putPart 26 = .ok (.return_, 1) := by decide +kernel
theorem yv_X9_putPart : YS yX9_putPart cX9_putPart 3 none 2 := ⟨kw3_142, kw1_13, kw3_143, by decide +kernel⟩
set_option maxHeartbeats 4000000 in
set_option maxRecDepth 100000 in
theorem c_X9_putPart {l : Launch} {D : va_G} {cy : Nat → ClassId} {ws : va_W} {kb ka b ar N n : Nat} {f : Nat → UInt8} (hb0 : ws[kb]? = some (b, .inr (2, [.ref ar, .int (nI n)]))) (ha0 : ws[ka]? = some (ar, .inl (cy 0, N, .inl (bt f)))) (hnN : n ≤ N) (hN : N ≤ 1700) {hd q : Nat} (hh : hd = 20 ∨ hd = 40) (hq : tg_proto (tg_rd f n) hd = q) (hs : hd + tg_sumAt q + 2 ≤ n) : WR (S := (Nat → UInt8)) l yX9_putPart cX9_putPart 3 none 3 0 0 72 [.ref b, .int (nI hd)] D cy ws (fun _ => none) (fun g => g = tg_fin f n hd q) (fun g => wB ws kb ka b ar N cy g n) := by
  refine WRv (by decide) (lv0 := [(0, .ref b), (1, .int (nI hd))]) rfl (Nat.le_of_ble_eq_true rfl) ?_
  intro p e s m args below meth c ls A Q S hnm hP hK hD hS hA hend hl
  have hx := S.1
  have hb := S.2.1
  have hown : s.vm.findClass RX9 = some m.cls := S.2.2.2.1
  have ht : ∀ w ∈ lw_g, w.before args s = true := fun w h => S.2.2.2.2 w (List.mem_cons_of_mem _ h)
  have hne : kb ≠ ka := lst_ne hb0 ha0 (fun z => by cases z)
  have hP : va_P D vwCl (wB ws kb ka b ar N cy f n) s.heap := by rw [wB_self hb0 ha0]; exact hP
  have hD : va_D A (wB ws kb ka b ar N cy f n) := by rw [wB_self hb0 ha0]; exact hD
  subst hq
  have hsl := tg_sumAt_le (tg_proto (tg_rd f n) hd)
  refine lv_iload_n hx hb dX9_putPart_0 rfl (lv_at hl 1 rfl) ?_
  refine lv_aload_n hx hb dX9_putPart_1 rfl (lv_at hl 0 rfl) ?_
  refine lv_iload_n hx hb dX9_putPart_2 rfl (lv_at hl 1 rfl) ?_
  refine ro_S S (c_X4_protocolOf (PK_of (wB_b hne hb0) (wB_a ha0) (by omega) hN) (hd := hd) (by omega)) kw2_47 yv_X4_protocolOf ⟨Nat.le_of_ble_eq_true rfl, Nat.le_of_ble_eq_true rfl⟩ hK hP rfl hl.1 rfl (Nat.le_of_ble_eq_true rfl) dX9_putPart_3 ⟨Nat.zero_le _, Nat.zero_le _⟩ ?_
  have hq3 := tg_proto_lt f n hd
  refine ro_S S (c_X4_sumAt (q := tg_proto (tg_rd f n) hd) (by omega)) kw2_50 yv_X4_sumAt ⟨Nat.le_of_ble_eq_true rfl, Nat.le_of_ble_eq_true rfl⟩ hK hP rfl hl.1 rfl (Nat.le_of_ble_eq_true rfl) dX9_putPart_6 ⟨Nat.zero_le _, Nat.zero_le _⟩ ?_
  have hq6 := tg_sumAt_le (tg_proto (tg_rd f n) hd)
  refine nv_iadd hx hb dX9_putPart_9 ?_
  refine lv_istore_n (lv' := [(2, .int (nI (hd + (tg_sumAt (tg_proto (tg_rd f n) hd))))), (0, .ref b), (1, .int (nI hd))]) hx hb dX9_putPart_10 rfl hl (by decide) rfl (fun ls hl => ?_)
  refine lv_aload_n hx hb dX9_putPart_11 rfl (lv_at hl 1 rfl) ?_
  refine lv_iload_n hx hb dX9_putPart_12 rfl (lv_at hl 0 rfl) ?_
  refine lv_aload_n hx hb dX9_putPart_13 rfl (lv_at hl 1 rfl) ?_
  refine lv_aload_n hx hb dX9_putPart_14 rfl (lv_at hl 1 rfl) ?_
  refine ro_V S (c_X1_length (PK_of (wB_b hne hb0) (wB_a ha0) (by omega) hN)) kw2_54 yv_X1_length ⟨Nat.le_of_ble_eq_true rfl, Nat.le_of_ble_eq_true rfl⟩ hK hP (va_recv hK hP (ci := 2) (q0 := kb) rfl (wB_b hne hb0)) rfl hl.1 rfl (Nat.le_of_ble_eq_true rfl) dX9_putPart_15 ⟨Nat.zero_le _, Nat.zero_le _⟩ ?_
  refine lv_iload_n hx hb dX9_putPart_18 rfl (lv_at hl 2 rfl) ?_
  refine lv_iload_n hx hb dX9_putPart_19 rfl (lv_at hl 0 rfl) ?_
  refine ro_S S (c_X9_ofPart (PK_of (wB_b hne hb0) (wB_a ha0) (by omega) hN) (z := n) (hd := hd) (w := hd + (tg_sumAt (tg_proto (tg_rd f n) hd))) (by omega) (by omega) (by omega) (by omega)) kw2_55 yv_X9_ofPart ⟨Nat.le_of_ble_eq_true rfl, Nat.le_of_ble_eq_true rfl⟩ hK hP rfl hl.1 rfl (Nat.le_of_ble_eq_true rfl) dX9_putPart_20 ⟨Nat.zero_le _, Nat.zero_le _⟩ ?_
  have hq20 := tg_sum_le (tg_rd f n) hd n (hd + (tg_sumAt (tg_proto (tg_rd f n) hd))) (tg_proto (tg_rd f n) hd)
  refine wr_V S (c_X1_putPair (wB_b hne hb0) (wB_a ha0) (by omega) hN (a := hd + (tg_sumAt (tg_proto (tg_rd f n) hd))) (x := tg_sum (tg_rd f n) hd n (hd + (tg_sumAt (tg_proto (tg_rd f n) hd))) (tg_proto (tg_rd f n) hd)) (by omega) (by omega)) kw3_144 yv_X1_putPair ⟨Nat.le_of_ble_eq_true rfl, Nat.le_of_ble_eq_true rfl⟩ hK hP hD hS hA (va_recv hK hP (ci := 2) (q0 := kb) rfl (wB_b hne hb0)) rfl hl.1 rfl (Nat.le_of_ble_eq_true rfl) dX9_putPart_23 ⟨Nat.zero_le _, Nat.zero_le _⟩ (fun g_1 H locs hg_1 hP hD hS => ?_)
  rw [wB_wB hne] at hP hD
  refine W.eq (g2 := F0 m 26 ls []) rfl ?_
  exact hend _ (by rw [hg_1]; try subst_vars; rfl) hP hD hS dX9_putPart_26
theorem dX3_toFour_0 : decode cX3_toFour 0 = .ok (.aload_n 2, 1) := by decide +kernel
theorem dX3_toFour_1 : decode cX3_toFour 1 = .ok (.getfield 9, 3) := by decide +kernel
theorem dX3_toFour_4 : decode cX3_toFour 4 = .ok (.istore 6, 2) := by decide +kernel
theorem dX3_toFour_6 : decode cX3_toFour 6 = .ok (.aload_n 0, 1) := by decide +kernel
theorem dX3_toFour_7 : decode cX3_toFour 7 = .ok (.invokevirtual 15, 3) := by decide +kernel
theorem dX3_toFour_10 : decode cX3_toFour 10 = .ok (.bipush 40, 2) := by decide +kernel
theorem dX3_toFour_12 : decode cX3_toFour 12 = .ok (.isub, 1) := by decide +kernel
theorem dX3_toFour_13 : decode cX3_toFour 13 = .ok (.istore 7, 2) := by decide +kernel
theorem dX3_toFour_15 : decode cX3_toFour 15 = .ok (.aload_n 1, 1) := by decide +kernel
theorem dX3_toFour_16 : decode cX3_toFour 16 = .ok (.bipush 20, 2) := by decide +kernel
theorem dX3_toFour_18 : decode cX3_toFour 18 = .ok (.iload 7, 2) := by decide +kernel
theorem dX3_toFour_20 : decode cX3_toFour 20 = .ok (.iadd, 1) := by decide +kernel
theorem dX3_toFour_21 : decode cX3_toFour 21 = .ok (.invokevirtual 21, 3) := by decide +kernel
theorem dX3_toFour_24 : decode cX3_toFour 24 = .ok (.aload_n 1, 1) := by decide +kernel
theorem dX3_toFour_25 : decode cX3_toFour 25 = .ok (.iconst 0, 1) := by decide +kernel
theorem dX3_toFour_26 : decode cX3_toFour 26 = .ok (.bipush 69, 2) := by decide +kernel
theorem dX3_toFour_28 : decode cX3_toFour 28 = .ok (.invokevirtual 25, 3) := by decide +kernel
theorem dX3_toFour_31 : decode cX3_toFour 31 = .ok (.aload_n 1, 1) := by decide +kernel
theorem dX3_toFour_32 : decode cX3_toFour 32 = .ok (.iconst 1, 1) := by decide +kernel
theorem dX3_toFour_33 : decode cX3_toFour 33 = .ok (.aload_n 0, 1) := by decide +kernel
theorem dX3_toFour_34 : decode cX3_toFour 34 = .ok (.iconst 0, 1) := by decide +kernel
theorem dX3_toFour_35 : decode cX3_toFour 35 = .ok (.invokevirtual 29, 3) := by decide +kernel
theorem dX3_toFour_38 : decode cX3_toFour 38 = .ok (.iconst 4, 1) := by decide +kernel
theorem dX3_toFour_39 : decode cX3_toFour 39 = .ok (.iushr, 1) := by decide +kernel
theorem dX3_toFour_40 : decode cX3_toFour 40 = .ok (.invokevirtual 25, 3) := by decide +kernel
theorem dX3_toFour_43 : decode cX3_toFour 43 = .ok (.aload_n 1, 1) := by decide +kernel
theorem dX3_toFour_44 : decode cX3_toFour 44 = .ok (.iconst 2, 1) := by decide +kernel
theorem dX3_toFour_45 : decode cX3_toFour 45 = .ok (.bipush 20, 2) := by decide +kernel
theorem dX3_toFour_47 : decode cX3_toFour 47 = .ok (.iload 7, 2) := by decide +kernel
theorem dX3_toFour_49 : decode cX3_toFour 49 = .ok (.iadd, 1) := by decide +kernel
theorem dX3_toFour_50 : decode cX3_toFour 50 = .ok (.invokevirtual 33, 3) := by decide +kernel
theorem dX3_toFour_53 : decode cX3_toFour 53 = .ok (.aload_n 1, 1) := by decide +kernel
theorem dX3_toFour_54 : decode cX3_toFour 54 = .ok (.iconst 4, 1) := by decide +kernel
theorem dX3_toFour_55 : decode cX3_toFour 55 = .ok (.iload 5, 2) := by decide +kernel
theorem dX3_toFour_57 : decode cX3_toFour 57 = .ok (.invokevirtual 33, 3) := by decide +kernel
theorem dX3_toFour_60 : decode cX3_toFour 60 = .ok (.aload_n 1, 1) := by decide +kernel
theorem dX3_toFour_61 : decode cX3_toFour 61 = .ok (.bipush 6, 2) := by decide +kernel
theorem dX3_toFour_63 : decode cX3_toFour 63 = .ok (.iload 5, 2) := by decide +kernel
theorem dX3_toFour_65 : decode cX3_toFour 65 = .ok (.ifCond .ne 9, 3) := by decide +kernel
theorem dX3_toFour_68 : decode cX3_toFour 68 = .ok (.sipush 16384, 3) := by decide +kernel
theorem dX3_toFour_71 : decode cX3_toFour 71 = .ok (.goto 4, 3) := by decide +kernel
theorem dX3_toFour_74 : decode cX3_toFour 74 = .ok (.iconst 0, 1) := by decide +kernel
theorem dX3_toFour_75 : decode cX3_toFour 75 = .ok (.invokevirtual 33, 3) := by decide +kernel
theorem dX3_toFour_78 : decode cX3_toFour 78 = .ok (.aload_n 1, 1) := by decide +kernel
theorem dX3_toFour_79 : decode cX3_toFour 79 = .ok (.bipush 8, 2) := by decide +kernel
theorem dX3_toFour_81 : decode cX3_toFour 81 = .ok (.aload_n 0, 1) := by decide +kernel
theorem dX3_toFour_82 : decode cX3_toFour 82 = .ok (.bipush 7, 2) := by decide +kernel
theorem dX3_toFour_84 : decode cX3_toFour 84 = .ok (.invokevirtual 36, 3) := by decide +kernel
theorem dX3_toFour_87 : decode cX3_toFour 87 = .ok (.iconst 1, 1) := by decide +kernel
theorem dX3_toFour_88 : decode cX3_toFour 88 = .ok (.isub, 1) := by decide +kernel
theorem dX3_toFour_89 : decode cX3_toFour 89 = .ok (.invokevirtual 25, 3) := by decide +kernel
theorem dX3_toFour_92 : decode cX3_toFour 92 = .ok (.aload_n 1, 1) := by decide +kernel
theorem dX3_toFour_93 : decode cX3_toFour 93 = .ok (.bipush 9, 2) := by decide +kernel
theorem dX3_toFour_95 : decode cX3_toFour 95 = .ok (.iload 6, 2) := by decide +kernel
theorem dX3_toFour_97 : decode cX3_toFour 97 = .ok (.invokevirtual 25, 3) := by decide +kernel
theorem dX3_toFour_100 : decode cX3_toFour 100 = .ok (.aload_n 1, 1) := by decide +kernel
theorem dX3_toFour_101 : decode cX3_toFour 101 = .ok (.bipush 12, 2) := by decide +kernel
theorem dX3_toFour_103 : decode cX3_toFour 103 = .ok (.iload_n 3, 1) := by decide +kernel
theorem dX3_toFour_104 : decode cX3_toFour 104 = .ok (.invokevirtual 39, 3) := by decide +kernel
theorem dX3_toFour_107 : decode cX3_toFour 107 = .ok (.aload_n 1, 1) := by decide +kernel
theorem dX3_toFour_108 : decode cX3_toFour 108 = .ok (.bipush 16, 2) := by decide +kernel
theorem dX3_toFour_110 : decode cX3_toFour 110 = .ok (.iload 4, 2) := by decide +kernel
theorem dX3_toFour_112 : decode cX3_toFour 112 = .ok (.invokevirtual 39, 3) := by decide +kernel
theorem dX3_toFour_115 : decode cX3_toFour 115 = .ok (.aload_n 1, 1) := by decide +kernel
theorem dX3_toFour_116 : decode cX3_toFour 116 = .ok (.bipush 10, 2) := by decide +kernel
theorem dX3_toFour_118 : decode cX3_toFour 118 = .ok (.aload_n 1, 1) := by decide +kernel
theorem dX3_toFour_119 : decode cX3_toFour 119 = .ok (.invokestatic 42, 3) := by decide +kernel
theorem dX3_toFour_122 : decode cX3_toFour 122 = .ok (.invokevirtual 33, 3) := by decide +kernel
theorem dX3_toFour_125 : decode cX3_toFour 125 = .ok (.aload_n 1, 1) := by decide +kernel
theorem dX3_toFour_126 : decode cX3_toFour 126 = .ok (.aload_n 0, 1) := by decide +kernel
theorem dX3_toFour_127 : decode cX3_toFour 127 = .ok (.bipush 40, 2) := by decide +kernel
theorem dX3_toFour_129 : decode cX3_toFour 129 = .ok (.bipush 20, 2) := by decide +kernel
theorem dX3_toFour_131 : decode cX3_toFour 131 = .ok (.iload 7, 2) := by decide +kernel
theorem dX3_toFour_133 : decode cX3_toFour 133 = .ok (.invokevirtual 48, 3) := by decide +kernel
theorem dX3_toFour_136 : decode cX3_toFour 136 = .ok (.aload_n 1, 1) := by decide +kernel
theorem dX3_toFour_137 : decode cX3_toFour 137 = .ok (.bipush 20, 2) := by decide +kernel
theorem dX3_toFour_139 : decode cX3_toFour 139 = .ok (.iload 6, 2) := by decide +kernel
theorem dX3_toFour_141 : decode cX3_toFour 141 = .ok (.invokestatic 52, 3) := by decide +kernel
theorem dX3_toFour_144 : decode cX3_toFour 144 = .ok (.iadd, 1) := by decide +kernel
theorem dX3_toFour_145 : decode cX3_toFour 145 = .ok (.aload_n 2, 1) := by decide +kernel
theorem dX3_toFour_146 : decode cX3_toFour 146 = .ok (.getfield 57, 3) := by decide +kernel
theorem dX3_toFour_149 : decode cX3_toFour 149 = .ok (.invokevirtual 33, 3) := by decide +kernel
theorem dX3_toFour_152 : decode cX3_toFour 152 = .ok (.iload 6, 2) := by decide +kernel
theorem dX3_toFour_154 : decode cX3_toFour 154 = .ok (.iconst 1, 1) := by decide +kernel
theorem dX3_toFour_155 : decode cX3_toFour 155 = .ok (.if_icmp .ne 27, 3) := by decide +kernel
theorem dX3_toFour_158 : decode cX3_toFour 158 = .ok (.aload_n 1, 1) := by decide +kernel
theorem dX3_toFour_159 : decode cX3_toFour 159 = .ok (.bipush 20, 2) := by decide +kernel
theorem dX3_toFour_161 : decode cX3_toFour 161 = .ok (.aload_n 0, 1) := by decide +kernel
theorem dX3_toFour_162 : decode cX3_toFour 162 = .ok (.bipush 40, 2) := by decide +kernel
theorem dX3_toFour_164 : decode cX3_toFour 164 = .ok (.invokevirtual 36, 3) := by decide +kernel
theorem dX3_toFour_167 : decode cX3_toFour 167 = .ok (.sipush 128, 3) := by decide +kernel
theorem dX3_toFour_170 : decode cX3_toFour 170 = .ok (.if_icmp .ne 8, 3) := by decide +kernel
theorem dX3_toFour_173 : decode cX3_toFour 173 = .ok (.bipush 8, 2) := by decide +kernel
theorem dX3_toFour_175 : decode cX3_toFour 175 = .ok (.goto 4, 3) := by decide +kernel
theorem dX3_toFour_178 : decode cX3_toFour 178 = .ok (.iconst 0, 1) := by decide +kernel
theorem dX3_toFour_179 : decode cX3_toFour 179 = .ok (.invokevirtual 25, 3) := by decide +kernel
theorem dX3_toFour_182 : decode cX3_toFour 182 = .ok (.aload_n 1, 1) := by decide +kernel
theorem dX3_toFour_183 : decode cX3_toFour 183 = .ok (.bipush 20, 2) := by decide +kernel
theorem dX3_toFour_185 : decode cX3_toFour 185 = .ok (.invokestatic 60, 3) := by decide +kernel
theorem dX3_toFour_188 : decode cX3_toFour 188 = .ok (.return_, 1) := by decide +kernel
theorem yv_X3_toFour : YS yX3_toFour cX3_toFour 8 none 6 := ⟨kw3_117, kw1_22, kw3_118, by decide +kernel⟩
set_option maxHeartbeats 4000000 in
set_option maxRecDepth 100000 in
theorem c_X3_toFour {l : Launch} {D : va_G} {cy : Nat → ClassId} {ws : va_W} {kb ka b ar N n : Nat} {f : Nat → UInt8} (hb0 : ws[kb]? = some (b, .inr (2, [.ref ar, .int (nI n)]))) (ha0 : ws[ka]? = some (ar, .inl (cy 0, N, .inl (bt f)))) (hnN : n ≤ N) (hN : N ≤ 1700) {ki kai bi ai Ni ni : Nat} {fi : Nat → UInt8} (hi0 : ws[ki]? = some (bi, .inr (2, [.ref ai, .int (nI ni)]))) (hi1 : ws[kai]? = some (ai, .inl (cy 0, Ni, .inl (bt fi)))) (hniN : ni ≤ Ni) (hNi : Ni ≤ 1700) (di1 : kb ≠ ki) (di2 : ka ≠ ki) (di3 : kb ≠ kai) (di4 : ka ≠ kai) {kw ow pt ih il ip pn op : Nat} (hw0 : ws[kw]? = some (ow, .inr (1, [.int (nI pt), .long (lN ih), .long (lN il), .int (nI ip), .int (nI pn), .int (nI op)]))) (hpt : pt = 1 ∨ pt = 6 ∨ pt = 17) (hih : ih < 2 ^ 64) (hil : il < 2 ^ 64) (hip : ip < 65536) (hop : op < 2 ^ 31) (dw1 : kb ≠ kw) (dw2 : ka ≠ kw) {fa ta sp : Nat} (hfa : fa < 2 ^ 32) (hta : ta < 2 ^ 32) (hsp : sp < 65536) (hni : 40 ≤ ni) (hNo : ni ≤ N + 20) (hsz : tg_sumAt pt + 2 ≤ ni - 40) (hpz : 6 ≤ ni - 40) (hhop : 2 ≤ tg_rd fi ni 7) : WR (S := (Nat → UInt8)) l yX3_toFour cX3_toFour 8 none 4 0 0 94 [.ref bi, .ref b, .ref ow, .int (nI fa), .int (nI ta), .int (nI sp)] D cy ws (fun _ => none) (fun g => g = tg_four f fi ni pt sp fa ta op) (fun g => wB ws kb ka b ar N cy g (20 + (ni - 40))) := by
  refine WRv (by decide) (lv0 := [(0, .ref bi), (1, .ref b), (2, .ref ow), (3, .int (nI fa)), (4, .int (nI ta)), (5, .int (nI sp))]) rfl (Nat.le_of_ble_eq_true rfl) ?_
  intro p e s m args below meth c ls A Q S hnm hP hK hD hS hA hend hl
  have hx := S.1
  have hb := S.2.1
  have hown : s.vm.findClass RX3 = some m.cls := S.2.2.2.1
  have ht : ∀ w ∈ lw_g, w.before args s = true := fun w h => S.2.2.2.2 w (List.mem_cons_of_mem _ h)
  have hne : kb ≠ ka := lst_ne hb0 ha0 (fun z => by cases z)
  have hP : va_P D vwCl (wB ws kb ka b ar N cy f n) s.heap := by rw [wB_self hb0 ha0]; exact hP
  have hD : va_D A (wB ws kb ka b ar N cy f n) := by rw [wB_self hb0 ha0]; exact hD
  refine lv_aload_n hx hb dX3_toFour_0 rfl (lv_at hl 2 rfl) ?_
  refine va_get (ci := 1) (C := RX0) (T := TX0) (N := 6) hx hb ht iFX0 hown hK hP kw (wB_o dw1 dw2 hw0) rfl 0 (by decide) (ht _ kw2_234) (fun _ h9 => h9) rfl dX3_toFour_1 ?_
  refine lv_istore (lv' := [(6, .int (nI pt)), (0, .ref bi), (1, .ref b), (2, .ref ow), (3, .int (nI fa)), (4, .int (nI ta)), (5, .int (nI sp))]) hx hb dX3_toFour_4 hl (by decide) rfl (fun ls hl => ?_)
  refine lv_aload_n hx hb dX3_toFour_6 rfl (lv_at hl 1 rfl) ?_
  refine ro_V S (c_X1_length (PK_of (wB_o di1 di2 hi0) (wB_o di3 di4 hi1) hniN hNi)) kw3_119 yv_X1_length ⟨Nat.le_of_ble_eq_true rfl, Nat.le_of_ble_eq_true rfl⟩ hK hP (va_recv hK hP (ci := 2) (q0 := ki) rfl (wB_o di1 di2 hi0)) rfl hl.1 rfl (Nat.le_of_ble_eq_true rfl) dX3_toFour_7 ⟨Nat.zero_le _, Nat.zero_le _⟩ ?_
  refine nv_bipush (k := 40) hx hb dX3_toFour_10 (by decide) ?_
  refine nv_isub hx hb (by omega) dX3_toFour_12 ?_
  refine lv_istore (lv' := [(7, .int (nI (ni - 40))), (6, .int (nI pt)), (0, .ref bi), (1, .ref b), (2, .ref ow), (3, .int (nI fa)), (4, .int (nI ta)), (5, .int (nI sp))]) hx hb dX3_toFour_13 hl (by decide) rfl (fun ls hl => ?_)
  refine lv_aload_n hx hb dX3_toFour_15 rfl (lv_at hl 3 rfl) ?_
  refine nv_bipush (k := 20) hx hb dX3_toFour_16 (by decide) ?_
  refine lv_iload hx hb dX3_toFour_18 (lv_at hl 0 rfl) ?_
  refine nv_iadd hx hb dX3_toFour_20 ?_
  refine wr_V S (c_X1_resize (wB_b hne hb0) (wB_a ha0) (by omega) hN (x := 20 + (ni - 40)) (by omega)) kw3_120 yv_X1_resize ⟨Nat.le_of_ble_eq_true rfl, Nat.le_of_ble_eq_true rfl⟩ hK hP hD hS hA (va_recv hK hP (ci := 2) (q0 := kb) rfl (wB_b hne hb0)) rfl hl.1 rfl (Nat.le_of_ble_eq_true rfl) dX3_toFour_21 ⟨Nat.zero_le _, Nat.zero_le _⟩ (fun g_1 H locs hg_1 hP hD hS => ?_)
  rw [wB_wB hne] at hP hD
  refine W.eq (g2 := F0 m 24 ls []) rfl ?_
  refine lv_aload_n hx hb dX3_toFour_24 rfl (lv_at hl 3 rfl) ?_
  refine nv_iconst (k := 0) hx hb dX3_toFour_25 rfl ?_
  refine nv_bipush (k := 69) hx hb dX3_toFour_26 (by decide) ?_
  refine wr_V S (c_X1_put (wB_b hne hb0) (wB_a ha0) (by omega) hN (k := 0) (x := nI (69)) (by omega)) kw3_121 yv_X1_put ⟨Nat.le_of_ble_eq_true rfl, Nat.le_of_ble_eq_true rfl⟩ hK hP hD hS hA (va_recv hK hP (ci := 2) (q0 := kb) rfl (wB_b hne hb0)) rfl hl.1 rfl (Nat.le_of_ble_eq_true rfl) dX3_toFour_28 ⟨Nat.zero_le _, Nat.zero_le _⟩ (fun g_2 H locs hg_2 hP hD hS => ?_)
  rw [wB_wB hne] at hP hD
  rw [by8_nI] at hg_2
  refine W.eq (g2 := F0 m 31 ls []) rfl ?_
  refine lv_aload_n hx hb dX3_toFour_31 rfl (lv_at hl 3 rfl) ?_
  refine nv_iconst (k := 1) hx hb dX3_toFour_32 rfl ?_
  refine lv_aload_n hx hb dX3_toFour_33 rfl (lv_at hl 2 rfl) ?_
  refine nv_iconst (k := 0) hx hb dX3_toFour_34 rfl ?_
  refine ro_V S (c_X1_pair (PK_of (wB_o di1 di2 hi0) (wB_o di3 di4 hi1) hniN hNi) (a := 0) (by omega)) kw3_125 yv_X1_pair ⟨Nat.le_of_ble_eq_true rfl, Nat.le_of_ble_eq_true rfl⟩ hK hP (va_recv hK hP (ci := 2) (q0 := ki) rfl (wB_o di1 di2 hi0)) rfl hl.1 rfl (Nat.le_of_ble_eq_true rfl) dX3_toFour_35 ⟨Nat.zero_le _, Nat.zero_le _⟩ ?_
  have hq35 := tg_pr_lt fi ni 0
  refine nv_iconst (k := 4) hx hb dX3_toFour_38 rfl ?_
  refine nv_iushr hx hb (by omega) (by omega) dX3_toFour_39 ?_
  refine wr_V S (c_X1_put (wB_b hne hb0) (wB_a ha0) (by omega) hN (k := 1) (x := nI ((tg_pr (tg_rd fi ni) 0) / 2 ^ 4)) (by omega)) kw3_121 yv_X1_put ⟨Nat.le_of_ble_eq_true rfl, Nat.le_of_ble_eq_true rfl⟩ hK hP hD hS hA (va_recv hK hP (ci := 2) (q0 := kb) rfl (wB_b hne hb0)) rfl hl.1 rfl (Nat.le_of_ble_eq_true rfl) dX3_toFour_40 ⟨Nat.zero_le _, Nat.zero_le _⟩ (fun g_3 H locs hg_3 hP hD hS => ?_)
  rw [wB_wB hne] at hP hD
  rw [by8_nI] at hg_3
  refine W.eq (g2 := F0 m 43 ls []) rfl ?_
  refine lv_aload_n hx hb dX3_toFour_43 rfl (lv_at hl 3 rfl) ?_
  refine nv_iconst (k := 2) hx hb dX3_toFour_44 rfl ?_
  refine nv_bipush (k := 20) hx hb dX3_toFour_45 (by decide) ?_
  refine lv_iload hx hb dX3_toFour_47 (lv_at hl 0 rfl) ?_
  refine nv_iadd hx hb dX3_toFour_49 ?_
  refine wr_V S (c_X1_putPair (wB_b hne hb0) (wB_a ha0) (by omega) hN (a := 2) (x := 20 + (ni - 40)) (by omega) (by omega)) kw3_126 yv_X1_putPair ⟨Nat.le_of_ble_eq_true rfl, Nat.le_of_ble_eq_true rfl⟩ hK hP hD hS hA (va_recv hK hP (ci := 2) (q0 := kb) rfl (wB_b hne hb0)) rfl hl.1 rfl (Nat.le_of_ble_eq_true rfl) dX3_toFour_50 ⟨Nat.zero_le _, Nat.zero_le _⟩ (fun g_4 H locs hg_4 hP hD hS => ?_)
  rw [wB_wB hne] at hP hD
  refine W.eq (g2 := F0 m 53 ls []) rfl ?_
  refine lv_aload_n hx hb dX3_toFour_53 rfl (lv_at hl 3 rfl) ?_
  refine nv_iconst (k := 4) hx hb dX3_toFour_54 rfl ?_
  refine lv_iload hx hb dX3_toFour_55 (lv_at hl 7 rfl) ?_
  refine wr_V S (c_X1_putPair (wB_b hne hb0) (wB_a ha0) (by omega) hN (a := 4) (x := sp) (by omega) (by omega)) kw3_126 yv_X1_putPair ⟨Nat.le_of_ble_eq_true rfl, Nat.le_of_ble_eq_true rfl⟩ hK hP hD hS hA (va_recv hK hP (ci := 2) (q0 := kb) rfl (wB_b hne hb0)) rfl hl.1 rfl (Nat.le_of_ble_eq_true rfl) dX3_toFour_57 ⟨Nat.zero_le _, Nat.zero_le _⟩ (fun g_5 H locs hg_5 hP hD hS => ?_)
  rw [wB_wB hne] at hP hD
  refine W.eq (g2 := F0 m 60 ls []) rfl ?_
  refine lv_aload_n hx hb dX3_toFour_60 rfl (lv_at hl 3 rfl) ?_
  refine nv_bipush (k := 6) hx hb dX3_toFour_61 (by decide) ?_
  refine lv_iload hx hb dX3_toFour_63 (lv_at hl 7 rfl) ?_
  have J75 : ∀ v75 : Nat, v75 = (if sp = 0 then 16384 else 0) → ∀ ls : Array Slot, lv_has ls 8 [(7, .int (nI (ni - 40))), (6, .int (nI pt)), (0, .ref bi), (1, .ref b), (2, .ref ow), (3, .int (nI fa)), (4, .int (nI ta)), (5, .int (nI sp))] → W p l e (rmw 4 0 0 94) s m args below meth c H locs 0 0 Q (F0 m 75 ls [.int (nI v75), .int (nI 6), .ref b]) := by
    intro v75 hv75 ls hl
    have hvb : v75 < 2 ^ 32 := by rw [hv75]; split <;> omega
    refine wr_V S (c_X1_putPair (wB_b hne hb0) (wB_a ha0) (by omega) hN (a := 6) (x := v75) (by omega) (by omega)) kw3_126 yv_X1_putPair ⟨Nat.le_of_ble_eq_true rfl, Nat.le_of_ble_eq_true rfl⟩ hK hP hD hS hA (va_recv hK hP (ci := 2) (q0 := kb) rfl (wB_b hne hb0)) rfl hl.1 rfl (Nat.le_of_ble_eq_true rfl) dX3_toFour_75 ⟨Nat.zero_le _, Nat.zero_le _⟩ (fun g_6 H locs hg_6 hP hD hS => ?_)
    rw [wB_wB hne] at hP hD
    refine W.eq (g2 := F0 m 78 ls []) rfl ?_
    refine lv_aload_n hx hb dX3_toFour_78 rfl (lv_at hl 3 rfl) ?_
    refine nv_bipush (k := 8) hx hb dX3_toFour_79 (by decide) ?_
    refine lv_aload_n hx hb dX3_toFour_81 rfl (lv_at hl 2 rfl) ?_
    refine nv_bipush (k := 7) hx hb dX3_toFour_82 (by decide) ?_
    refine ro_V S (c_X1_octet (PK_of (wB_o di1 di2 hi0) (wB_o di3 di4 hi1) hniN hNi) (k := 7) (by omega)) kw3_130 yv_X1_octet ⟨Nat.le_of_ble_eq_true rfl, Nat.le_of_ble_eq_true rfl⟩ hK hP (va_recv hK hP (ci := 2) (q0 := ki) rfl (wB_o di1 di2 hi0)) rfl hl.1 rfl (Nat.le_of_ble_eq_true rfl) dX3_toFour_84 ⟨Nat.zero_le _, Nat.zero_le _⟩ ?_
    have hq84 := tg_rd_lt fi ni 7
    refine nv_iconst (k := 1) hx hb dX3_toFour_87 rfl ?_
    refine nv_isub hx hb (by omega) dX3_toFour_88 ?_
    refine wr_V S (c_X1_put (wB_b hne hb0) (wB_a ha0) (by omega) hN (k := 8) (x := nI ((tg_rd fi ni 7) - 1)) (by omega)) kw3_121 yv_X1_put ⟨Nat.le_of_ble_eq_true rfl, Nat.le_of_ble_eq_true rfl⟩ hK hP hD hS hA (va_recv hK hP (ci := 2) (q0 := kb) rfl (wB_b hne hb0)) rfl hl.1 rfl (Nat.le_of_ble_eq_true rfl) dX3_toFour_89 ⟨Nat.zero_le _, Nat.zero_le _⟩ (fun g_7 H locs hg_7 hP hD hS => ?_)
    rw [wB_wB hne] at hP hD
    rw [by8_nI] at hg_7
    refine W.eq (g2 := F0 m 92 ls []) rfl ?_
    refine lv_aload_n hx hb dX3_toFour_92 rfl (lv_at hl 3 rfl) ?_
    refine nv_bipush (k := 9) hx hb dX3_toFour_93 (by decide) ?_
    refine lv_iload hx hb dX3_toFour_95 (lv_at hl 1 rfl) ?_
    refine wr_V S (c_X1_put (wB_b hne hb0) (wB_a ha0) (by omega) hN (k := 9) (x := nI (pt)) (by omega)) kw3_121 yv_X1_put ⟨Nat.le_of_ble_eq_true rfl, Nat.le_of_ble_eq_true rfl⟩ hK hP hD hS hA (va_recv hK hP (ci := 2) (q0 := kb) rfl (wB_b hne hb0)) rfl hl.1 rfl (Nat.le_of_ble_eq_true rfl) dX3_toFour_97 ⟨Nat.zero_le _, Nat.zero_le _⟩ (fun g_8 H locs hg_8 hP hD hS => ?_)
    rw [wB_wB hne] at hP hD
    rw [by8_nI] at hg_8
    refine W.eq (g2 := F0 m 100 ls []) rfl ?_
    refine lv_aload_n hx hb dX3_toFour_100 rfl (lv_at hl 3 rfl) ?_
    refine nv_bipush (k := 12) hx hb dX3_toFour_101 (by decide) ?_
    refine lv_iload_n hx hb dX3_toFour_103 rfl (lv_at hl 5 rfl) ?_
    refine wr_V S (c_X1_putQuad (wB_b hne hb0) (wB_a ha0) (by omega) hN (a := 12) (x := fa) (by omega) (by omega)) kw3_131 yv_X1_putQuad ⟨Nat.le_of_ble_eq_true rfl, Nat.le_of_ble_eq_true rfl⟩ hK hP hD hS hA (va_recv hK hP (ci := 2) (q0 := kb) rfl (wB_b hne hb0)) rfl hl.1 rfl (Nat.le_of_ble_eq_true rfl) dX3_toFour_104 ⟨Nat.zero_le _, Nat.zero_le _⟩ (fun g_9 H locs hg_9 hP hD hS => ?_)
    rw [wB_wB hne] at hP hD
    refine W.eq (g2 := F0 m 107 ls []) rfl ?_
    refine lv_aload_n hx hb dX3_toFour_107 rfl (lv_at hl 3 rfl) ?_
    refine nv_bipush (k := 16) hx hb dX3_toFour_108 (by decide) ?_
    refine lv_iload hx hb dX3_toFour_110 (lv_at hl 6 rfl) ?_
    refine wr_V S (c_X1_putQuad (wB_b hne hb0) (wB_a ha0) (by omega) hN (a := 16) (x := ta) (by omega) (by omega)) kw3_131 yv_X1_putQuad ⟨Nat.le_of_ble_eq_true rfl, Nat.le_of_ble_eq_true rfl⟩ hK hP hD hS hA (va_recv hK hP (ci := 2) (q0 := kb) rfl (wB_b hne hb0)) rfl hl.1 rfl (Nat.le_of_ble_eq_true rfl) dX3_toFour_112 ⟨Nat.zero_le _, Nat.zero_le _⟩ (fun g_10 H locs hg_10 hP hD hS => ?_)
    rw [wB_wB hne] at hP hD
    refine W.eq (g2 := F0 m 115 ls []) rfl ?_
    refine lv_aload_n hx hb dX3_toFour_115 rfl (lv_at hl 3 rfl) ?_
    refine nv_bipush (k := 10) hx hb dX3_toFour_116 (by decide) ?_
    refine lv_aload_n hx hb dX3_toFour_118 rfl (lv_at hl 3 rfl) ?_
    refine ro_S S (c_X9_ofHead (PK_of (wB_b hne hb0) (wB_a ha0) (by omega) hN)) kw3_132 yv_X9_ofHead ⟨Nat.le_of_ble_eq_true rfl, Nat.le_of_ble_eq_true rfl⟩ hK hP rfl hl.1 rfl (Nat.le_of_ble_eq_true rfl) dX3_toFour_119 ⟨Nat.zero_le _, Nat.zero_le _⟩ ?_
    have hq119 := tg_cl_le (tg_ws (tg_rd g_10 (20 + (ni - 40))) 0 10 20)
    refine wr_V S (c_X1_putPair (wB_b hne hb0) (wB_a ha0) (by omega) hN (a := 10) (x := tg_cl (tg_ws (tg_rd g_10 (20 + (ni - 40))) 0 10 20)) (by omega) (by omega)) kw3_126 yv_X1_putPair ⟨Nat.le_of_ble_eq_true rfl, Nat.le_of_ble_eq_true rfl⟩ hK hP hD hS hA (va_recv hK hP (ci := 2) (q0 := kb) rfl (wB_b hne hb0)) rfl hl.1 rfl (Nat.le_of_ble_eq_true rfl) dX3_toFour_122 ⟨Nat.zero_le _, Nat.zero_le _⟩ (fun g_11 H locs hg_11 hP hD hS => ?_)
    rw [wB_wB hne] at hP hD
    refine W.eq (g2 := F0 m 125 ls []) rfl ?_
    refine lv_aload_n hx hb dX3_toFour_125 rfl (lv_at hl 3 rfl) ?_
    refine lv_aload_n hx hb dX3_toFour_126 rfl (lv_at hl 2 rfl) ?_
    refine nv_bipush (k := 40) hx hb dX3_toFour_127 (by decide) ?_
    refine nv_bipush (k := 20) hx hb dX3_toFour_129 (by decide) ?_
    refine lv_iload hx hb dX3_toFour_131 (lv_at hl 0 rfl) ?_
    refine wr_V S (c_X1_copy (wB_b hne hb0) (wB_a ha0) (by omega) hN (wB_o di1 di2 hi0) (wB_o di3 di4 hi1) hniN hNi di1 di2 di3 di4 (a := 40) (z := 20) (k := ni - 40) (by omega) (by omega)) kw3_135 yv_X1_copy ⟨Nat.le_of_ble_eq_true rfl, Nat.le_of_ble_eq_true rfl⟩ hK hP hD hS hA (va_recv hK hP (ci := 2) (q0 := kb) rfl (wB_b hne hb0)) rfl hl.1 rfl (Nat.le_of_ble_eq_true rfl) dX3_toFour_133 ⟨Nat.zero_le _, Nat.zero_le _⟩ (fun g_12 H locs hg_12 hP hD hS => ?_)
    rw [wB_wB hne] at hP hD
    refine W.eq (g2 := F0 m 136 ls []) rfl ?_
    refine lv_aload_n hx hb dX3_toFour_136 rfl (lv_at hl 3 rfl) ?_
    refine nv_bipush (k := 20) hx hb dX3_toFour_137 (by decide) ?_
    refine lv_iload hx hb dX3_toFour_139 (lv_at hl 1 rfl) ?_
    refine ro_S S (c_X4_sourcePortAt (q := pt) (by omega)) kw3_140 yv_X4_sourcePortAt ⟨Nat.le_of_ble_eq_true rfl, Nat.le_of_ble_eq_true rfl⟩ hK hP rfl hl.1 rfl (Nat.le_of_ble_eq_true rfl) dX3_toFour_141 ⟨Nat.zero_le _, Nat.zero_le _⟩ ?_
    have hq141 := tg_spa_le pt
    refine nv_iadd hx hb dX3_toFour_144 ?_
    refine lv_aload_n hx hb dX3_toFour_145 rfl (lv_at hl 4 rfl) ?_
    refine va_get (ci := 1) (C := RX0) (T := TX0) (N := 6) hx hb ht iFX0 hown hK hP kw (wB_o dw1 dw2 hw0) rfl 5 (by decide) (ht _ kw3_11) (fun _ h9 => h9) rfl dX3_toFour_146 ?_
    refine wr_V S (c_X1_putPair (wB_b hne hb0) (wB_a ha0) (by omega) hN (a := 20 + (tg_spa pt)) (x := op) (by omega) (by omega)) kw3_126 yv_X1_putPair ⟨Nat.le_of_ble_eq_true rfl, Nat.le_of_ble_eq_true rfl⟩ hK hP hD hS hA (va_recv hK hP (ci := 2) (q0 := kb) rfl (wB_b hne hb0)) rfl hl.1 rfl (Nat.le_of_ble_eq_true rfl) dX3_toFour_149 ⟨Nat.zero_le _, Nat.zero_le _⟩ (fun g_13 H locs hg_13 hP hD hS => ?_)
    rw [wB_wB hne] at hP hD
    refine W.eq (g2 := F0 m 152 ls []) rfl ?_
    refine lv_iload hx hb dX3_toFour_152 (lv_at hl 1 rfl) ?_
    refine nv_iconst (k := 1) hx hb dX3_toFour_154 rfl ?_
    refine nv_icmp_ne (tgt := 182) hx hb dX3_toFour_155 (by decide) (by omega) (by omega) (fun h155 => ?_) (fun h155 => ?_)
    · skip
      refine lv_aload_n hx hb dX3_toFour_182 rfl (lv_at hl 3 rfl) ?_
      refine nv_bipush (k := 20) hx hb dX3_toFour_183 (by decide) ?_
      refine wr_S S (c_X9_putPart (wB_b hne hb0) (wB_a ha0) (by omega) hN (hd := 20) (q := pt) (by omega) (rd_at (x := pt) (by omega) (by rw [hg_13, put_out (i := 9) (a := 20 + (tg_spa pt)) (k := 2) (by omega), hg_12, cpy_out (i := 9) (by omega), hg_11, put_out (i := 9) (a := 10) (k := 2) (by omega), hg_10, put_out (i := 9) (a := 16) (k := 4) (by omega), hg_9, put_out (i := 9) (a := 12) (k := 4) (by omega), hg_8, up_in]) (by omega)) (by omega)) kw3_141 yv_X9_putPart ⟨Nat.le_of_ble_eq_true rfl, Nat.le_of_ble_eq_true rfl⟩ hK hP hD hS hA rfl hl.1 rfl (Nat.le_of_ble_eq_true rfl) dX3_toFour_185 ⟨Nat.zero_le _, Nat.zero_le _⟩ (fun g_14 H locs hg_14 hP hD hS => ?_)
      rw [wB_wB hne] at hP hD
      refine W.eq (g2 := F0 m 188 ls []) rfl ?_
      exact hend _ (by rw [hg_14, hg_13, hg_12, hg_11, hg_10, hg_9, hg_8, hg_7, hg_6, hg_5, hg_4, hg_3, hg_2, hv75]; unfold tg_four; (first | rw [if_pos h155, if_pos h170] | rw [if_pos h155, if_neg h170] | rw [if_neg h155]) <;> rfl) hP hD hS dX3_toFour_188
    refine lv_aload_n hx hb dX3_toFour_158 rfl (lv_at hl 3 rfl) ?_
    refine nv_bipush (k := 20) hx hb dX3_toFour_159 (by decide) ?_
    refine lv_aload_n hx hb dX3_toFour_161 rfl (lv_at hl 2 rfl) ?_
    refine nv_bipush (k := 40) hx hb dX3_toFour_162 (by decide) ?_
    refine ro_V S (c_X1_octet (PK_of (wB_o di1 di2 hi0) (wB_o di3 di4 hi1) hniN hNi) (k := 40) (by omega)) kw3_130 yv_X1_octet ⟨Nat.le_of_ble_eq_true rfl, Nat.le_of_ble_eq_true rfl⟩ hK hP (va_recv hK hP (ci := 2) (q0 := ki) rfl (wB_o di1 di2 hi0)) rfl hl.1 rfl (Nat.le_of_ble_eq_true rfl) dX3_toFour_164 ⟨Nat.zero_le _, Nat.zero_le _⟩ ?_
    have hq164 := tg_rd_lt fi ni 40
    refine nv_sipush (k := 128) hx hb dX3_toFour_167 (by decide) ?_
    refine nv_icmp_ne (tgt := 178) hx hb dX3_toFour_170 (by decide) (by omega) (by omega) (fun h170 => ?_) (fun h170 => ?_)
    · skip
      refine nv_iconst (k := 0) hx hb dX3_toFour_178 rfl ?_
      refine wr_V S (c_X1_put (wB_b hne hb0) (wB_a ha0) (by omega) hN (k := 20) (x := nI (0)) (by omega)) kw3_121 yv_X1_put ⟨Nat.le_of_ble_eq_true rfl, Nat.le_of_ble_eq_true rfl⟩ hK hP hD hS hA (va_recv hK hP (ci := 2) (q0 := kb) rfl (wB_b hne hb0)) rfl hl.1 rfl (Nat.le_of_ble_eq_true rfl) dX3_toFour_179 ⟨Nat.zero_le _, Nat.zero_le _⟩ (fun g_15 H locs hg_15 hP hD hS => ?_)
      rw [wB_wB hne] at hP hD
      rw [by8_nI] at hg_15
      refine W.eq (g2 := F0 m 182 ls []) rfl ?_
      refine lv_aload_n hx hb dX3_toFour_182 rfl (lv_at hl 3 rfl) ?_
      refine nv_bipush (k := 20) hx hb dX3_toFour_183 (by decide) ?_
      refine wr_S S (c_X9_putPart (wB_b hne hb0) (wB_a ha0) (by omega) hN (hd := 20) (q := pt) (by omega) (rd_at (x := pt) (by omega) (by rw [hg_15, up_out (i := 9) (a := 20) (by omega), hg_13, put_out (i := 9) (a := 20 + (tg_spa pt)) (k := 2) (by omega), hg_12, cpy_out (i := 9) (by omega), hg_11, put_out (i := 9) (a := 10) (k := 2) (by omega), hg_10, put_out (i := 9) (a := 16) (k := 4) (by omega), hg_9, put_out (i := 9) (a := 12) (k := 4) (by omega), hg_8, up_in]) (by omega)) (by omega)) kw3_141 yv_X9_putPart ⟨Nat.le_of_ble_eq_true rfl, Nat.le_of_ble_eq_true rfl⟩ hK hP hD hS hA rfl hl.1 rfl (Nat.le_of_ble_eq_true rfl) dX3_toFour_185 ⟨Nat.zero_le _, Nat.zero_le _⟩ (fun g_16 H locs hg_16 hP hD hS => ?_)
      rw [wB_wB hne] at hP hD
      refine W.eq (g2 := F0 m 188 ls []) rfl ?_
      exact hend _ (by rw [hg_16, hg_15, hg_13, hg_12, hg_11, hg_10, hg_9, hg_8, hg_7, hg_6, hg_5, hg_4, hg_3, hg_2, hv75]; unfold tg_four; (first | rw [if_pos h155, if_pos h170] | rw [if_pos h155, if_neg h170] | rw [if_neg h155]) <;> rfl) hP hD hS dX3_toFour_188
    refine nv_bipush (k := 8) hx hb dX3_toFour_173 (by decide) ?_
    refine lv_goto (tgt := 179) hx hb dX3_toFour_175 (by decide) ?_
    refine wr_V S (c_X1_put (wB_b hne hb0) (wB_a ha0) (by omega) hN (k := 20) (x := nI (8)) (by omega)) kw3_121 yv_X1_put ⟨Nat.le_of_ble_eq_true rfl, Nat.le_of_ble_eq_true rfl⟩ hK hP hD hS hA (va_recv hK hP (ci := 2) (q0 := kb) rfl (wB_b hne hb0)) rfl hl.1 rfl (Nat.le_of_ble_eq_true rfl) dX3_toFour_179 ⟨Nat.zero_le _, Nat.zero_le _⟩ (fun g_17 H locs hg_17 hP hD hS => ?_)
    rw [wB_wB hne] at hP hD
    rw [by8_nI] at hg_17
    refine W.eq (g2 := F0 m 182 ls []) rfl ?_
    refine lv_aload_n hx hb dX3_toFour_182 rfl (lv_at hl 3 rfl) ?_
    refine nv_bipush (k := 20) hx hb dX3_toFour_183 (by decide) ?_
    refine wr_S S (c_X9_putPart (wB_b hne hb0) (wB_a ha0) (by omega) hN (hd := 20) (q := pt) (by omega) (rd_at (x := pt) (by omega) (by rw [hg_17, up_out (i := 9) (a := 20) (by omega), hg_13, put_out (i := 9) (a := 20 + (tg_spa pt)) (k := 2) (by omega), hg_12, cpy_out (i := 9) (by omega), hg_11, put_out (i := 9) (a := 10) (k := 2) (by omega), hg_10, put_out (i := 9) (a := 16) (k := 4) (by omega), hg_9, put_out (i := 9) (a := 12) (k := 4) (by omega), hg_8, up_in]) (by omega)) (by omega)) kw3_141 yv_X9_putPart ⟨Nat.le_of_ble_eq_true rfl, Nat.le_of_ble_eq_true rfl⟩ hK hP hD hS hA rfl hl.1 rfl (Nat.le_of_ble_eq_true rfl) dX3_toFour_185 ⟨Nat.zero_le _, Nat.zero_le _⟩ (fun g_18 H locs hg_18 hP hD hS => ?_)
    rw [wB_wB hne] at hP hD
    refine W.eq (g2 := F0 m 188 ls []) rfl ?_
    exact hend _ (by rw [hg_18, hg_17, hg_13, hg_12, hg_11, hg_10, hg_9, hg_8, hg_7, hg_6, hg_5, hg_4, hg_3, hg_2, hv75]; unfold tg_four; (first | rw [if_pos h155, if_pos h170] | rw [if_pos h155, if_neg h170] | rw [if_neg h155]) <;> rfl) hP hD hS dX3_toFour_188
  refine nv_if_ne (tgt := 74) hx hb dX3_toFour_65 (by decide) (by omega) (fun h65 => ?_) (fun h65 => ?_)
  · skip
    refine nv_iconst (k := 0) hx hb dX3_toFour_74 rfl ?_
    exact J75 (0) (by (repeat' split) <;> omega) ls (lv_sub hl [0, 1, 2, 3, 4, 5, 6, 7] rfl)
  refine nv_sipush (k := 16384) hx hb dX3_toFour_68 (by decide) ?_
  refine lv_goto (tgt := 75) hx hb dX3_toFour_71 (by decide) ?_
  exact J75 (16384) (by (repeat' split) <;> omega) ls (lv_sub hl [0, 1, 2, 3, 4, 5, 6, 7] rfl)
theorem dX3_toSix_0 : decode cX3_toSix 0 = .ok (.aload_n 2, 1) := by decide +kernel
theorem dX3_toSix_1 : decode cX3_toSix 1 = .ok (.getfield 9, 3) := by decide +kernel
theorem dX3_toSix_4 : decode cX3_toSix 4 = .ok (.istore 4, 2) := by decide +kernel
theorem dX3_toSix_6 : decode cX3_toSix 6 = .ok (.aload_n 0, 1) := by decide +kernel
theorem dX3_toSix_7 : decode cX3_toSix 7 = .ok (.invokevirtual 15, 3) := by decide +kernel
theorem dX3_toSix_10 : decode cX3_toSix 10 = .ok (.bipush 20, 2) := by decide +kernel
theorem dX3_toSix_12 : decode cX3_toSix 12 = .ok (.isub, 1) := by decide +kernel
theorem dX3_toSix_13 : decode cX3_toSix 13 = .ok (.istore 5, 2) := by decide +kernel
theorem dX3_toSix_15 : decode cX3_toSix 15 = .ok (.aload_n 1, 1) := by decide +kernel
theorem dX3_toSix_16 : decode cX3_toSix 16 = .ok (.bipush 40, 2) := by decide +kernel
theorem dX3_toSix_18 : decode cX3_toSix 18 = .ok (.iload 5, 2) := by decide +kernel
theorem dX3_toSix_20 : decode cX3_toSix 20 = .ok (.iadd, 1) := by decide +kernel
theorem dX3_toSix_21 : decode cX3_toSix 21 = .ok (.invokevirtual 21, 3) := by decide +kernel
theorem dX3_toSix_24 : decode cX3_toSix 24 = .ok (.aload_n 1, 1) := by decide +kernel
theorem dX3_toSix_25 : decode cX3_toSix 25 = .ok (.iconst 0, 1) := by decide +kernel
theorem dX3_toSix_26 : decode cX3_toSix 26 = .ok (.aload_n 0, 1) := by decide +kernel
theorem dX3_toSix_27 : decode cX3_toSix 27 = .ok (.iconst 1, 1) := by decide +kernel
theorem dX3_toSix_28 : decode cX3_toSix 28 = .ok (.invokevirtual 36, 3) := by decide +kernel
theorem dX3_toSix_31 : decode cX3_toSix 31 = .ok (.iload 5, 2) := by decide +kernel
theorem dX3_toSix_33 : decode cX3_toSix 33 = .ok (.iload 4, 2) := by decide +kernel
theorem dX3_toSix_35 : decode cX3_toSix 35 = .ok (.aload_n 0, 1) := by decide +kernel
theorem dX3_toSix_36 : decode cX3_toSix 36 = .ok (.bipush 8, 2) := by decide +kernel
theorem dX3_toSix_38 : decode cX3_toSix 38 = .ok (.invokevirtual 36, 3) := by decide +kernel
theorem dX3_toSix_41 : decode cX3_toSix 41 = .ok (.iconst 1, 1) := by decide +kernel
theorem dX3_toSix_42 : decode cX3_toSix 42 = .ok (.isub, 1) := by decide +kernel
theorem dX3_toSix_43 : decode cX3_toSix 43 = .ok (.invokestatic 64, 3) := by decide +kernel
theorem dX3_toSix_46 : decode cX3_toSix 46 = .ok (.aload_n 1, 1) := by decide +kernel
theorem dX3_toSix_47 : decode cX3_toSix 47 = .ok (.bipush 8, 2) := by decide +kernel
theorem dX3_toSix_49 : decode cX3_toSix 49 = .ok (.aload_n 0, 1) := by decide +kernel
theorem dX3_toSix_50 : decode cX3_toSix 50 = .ok (.bipush 12, 2) := by decide +kernel
theorem dX3_toSix_52 : decode cX3_toSix 52 = .ok (.invokevirtual 70, 3) := by decide +kernel
theorem dX3_toSix_55 : decode cX3_toSix 55 = .ok (.aload_n 3, 1) := by decide +kernel
theorem dX3_toSix_56 : decode cX3_toSix 56 = .ok (.invokestatic 73, 3) := by decide +kernel
theorem dX3_toSix_59 : decode cX3_toSix 59 = .ok (.aload_n 1, 1) := by decide +kernel
theorem dX3_toSix_60 : decode cX3_toSix 60 = .ok (.bipush 24, 2) := by decide +kernel
theorem dX3_toSix_62 : decode cX3_toSix 62 = .ok (.aload_n 2, 1) := by decide +kernel
theorem dX3_toSix_63 : decode cX3_toSix 63 = .ok (.invokestatic 77, 3) := by decide +kernel
theorem dX3_toSix_66 : decode cX3_toSix 66 = .ok (.aload_n 1, 1) := by decide +kernel
theorem dX3_toSix_67 : decode cX3_toSix 67 = .ok (.aload_n 0, 1) := by decide +kernel
theorem dX3_toSix_68 : decode cX3_toSix 68 = .ok (.bipush 20, 2) := by decide +kernel
theorem dX3_toSix_70 : decode cX3_toSix 70 = .ok (.bipush 40, 2) := by decide +kernel
theorem dX3_toSix_72 : decode cX3_toSix 72 = .ok (.iload 5, 2) := by decide +kernel
theorem dX3_toSix_74 : decode cX3_toSix 74 = .ok (.invokevirtual 48, 3) := by decide +kernel
theorem dX3_toSix_77 : decode cX3_toSix 77 = .ok (.aload_n 1, 1) := by decide +kernel
theorem dX3_toSix_78 : decode cX3_toSix 78 = .ok (.bipush 40, 2) := by decide +kernel
theorem dX3_toSix_80 : decode cX3_toSix 80 = .ok (.iload 4, 2) := by decide +kernel
theorem dX3_toSix_82 : decode cX3_toSix 82 = .ok (.invokestatic 81, 3) := by decide +kernel
theorem dX3_toSix_85 : decode cX3_toSix 85 = .ok (.iadd, 1) := by decide +kernel
theorem dX3_toSix_86 : decode cX3_toSix 86 = .ok (.aload_n 2, 1) := by decide +kernel
theorem dX3_toSix_87 : decode cX3_toSix 87 = .ok (.getfield 84, 3) := by decide +kernel
theorem dX3_toSix_90 : decode cX3_toSix 90 = .ok (.invokevirtual 33, 3) := by decide +kernel
theorem dX3_toSix_93 : decode cX3_toSix 93 = .ok (.iload 4, 2) := by decide +kernel
theorem dX3_toSix_95 : decode cX3_toSix 95 = .ok (.iconst 1, 1) := by decide +kernel
theorem dX3_toSix_96 : decode cX3_toSix 96 = .ok (.if_icmp .ne 29, 3) := by decide +kernel
theorem dX3_toSix_99 : decode cX3_toSix 99 = .ok (.aload_n 1, 1) := by decide +kernel
theorem dX3_toSix_100 : decode cX3_toSix 100 = .ok (.bipush 40, 2) := by decide +kernel
theorem dX3_toSix_102 : decode cX3_toSix 102 = .ok (.aload_n 0, 1) := by decide +kernel
theorem dX3_toSix_103 : decode cX3_toSix 103 = .ok (.bipush 20, 2) := by decide +kernel
theorem dX3_toSix_105 : decode cX3_toSix 105 = .ok (.invokevirtual 36, 3) := by decide +kernel
theorem dX3_toSix_108 : decode cX3_toSix 108 = .ok (.bipush 8, 2) := by decide +kernel
theorem dX3_toSix_110 : decode cX3_toSix 110 = .ok (.if_icmp .ne 9, 3) := by decide +kernel
theorem dX3_toSix_113 : decode cX3_toSix 113 = .ok (.sipush 128, 3) := by decide +kernel
theorem dX3_toSix_116 : decode cX3_toSix 116 = .ok (.goto 6, 3) := by decide +kernel
theorem dX3_toSix_119 : decode cX3_toSix 119 = .ok (.sipush 129, 3) := by decide +kernel
theorem dX3_toSix_122 : decode cX3_toSix 122 = .ok (.invokevirtual 25, 3) := by decide +kernel
theorem dX3_toSix_125 : decode cX3_toSix 125 = .ok (.aload_n 1, 1) := by decide +kernel
theorem dX3_toSix_126 : decode cX3_toSix 126 = .ok (.bipush 40, 2) := by decide +kernel
theorem dX3_toSix_128 : decode cX3_toSix 128 = .ok (.invokestatic 60, 3) := by decide +kernel
theorem dX3_toSix_131 : decode cX3_toSix 131 = .ok (.return_, 1) := by decide +kernel
theorem yv_X3_toSix : YS yX3_toSix cX3_toSix 6 none 4 := ⟨kw3_239, kw1_22, kw4_0, by decide +kernel⟩
set_option maxHeartbeats 4000000 in
set_option maxRecDepth 100000 in
theorem c_X3_toSix {l : Launch} {D : va_G} {cy : Nat → ClassId} {ws : va_W} {kb ka b ar N n : Nat} {f : Nat → UInt8} (hb0 : ws[kb]? = some (b, .inr (2, [.ref ar, .int (nI n)]))) (ha0 : ws[ka]? = some (ar, .inl (cy 0, N, .inl (bt f)))) (hnN : n ≤ N) (hN : N ≤ 1700) {ki kai bi ai Ni ni : Nat} {fi : Nat → UInt8} (hi0 : ws[ki]? = some (bi, .inr (2, [.ref ai, .int (nI ni)]))) (hi1 : ws[kai]? = some (ai, .inl (cy 0, Ni, .inl (bt fi)))) (hniN : ni ≤ Ni) (hNi : Ni ≤ 1700) (di1 : kb ≠ ki) (di2 : ka ≠ ki) (di3 : kb ≠ kai) (di4 : ka ≠ kai) {kw ow pt ih il ip pn op : Nat} (hw0 : ws[kw]? = some (ow, .inr (1, [.int (nI pt), .long (lN ih), .long (lN il), .int (nI ip), .int (nI pn), .int (nI op)]))) (hpt : pt = 1 ∨ pt = 6 ∨ pt = 17) (hih : ih < 2 ^ 64) (hil : il < 2 ^ 64) (hip : ip < 65536) (hop : op < 2 ^ 31) (dw1 : kb ≠ kw) (dw2 : ka ≠ kw) {ks st bits F G : Nat} (hs0 : ws[ks]? = some (st, .inr (6, [.long (lN F), .long (lN G), .int (nI bits), .int (nI (bits - 32))]))) (hsi : SI bits F G) (ds1 : kb ≠ ks) (ds2 : ka ≠ ks) (hni : 20 ≤ ni) (hNo : ni + 20 ≤ N) (hsz : tg_sumAt (tg_nx pt) + 2 ≤ ni - 20) (hpz : 6 ≤ ni - 20) (hhop : 2 ≤ tg_rd fi ni 8) : WR (S := (Nat → UInt8)) l yX3_toSix cX3_toSix 6 none 4 0 0 94 [.ref bi, .ref b, .ref ow, .ref st] D cy ws (fun _ => none) (fun g => g = tg_sx f fi ni pt ip ih il bits F G) (fun g => wB ws kb ka b ar N cy g (40 + (ni - 20))) := by
  refine WRv (by decide) (lv0 := [(0, .ref bi), (1, .ref b), (2, .ref ow), (3, .ref st)]) rfl (Nat.le_of_ble_eq_true rfl) ?_
  intro p e s m args below meth c ls A Q S hnm hP hK hD hS hA hend hl
  have hx := S.1
  have hb := S.2.1
  have hown : s.vm.findClass RX3 = some m.cls := S.2.2.2.1
  have ht : ∀ w ∈ lw_g, w.before args s = true := fun w h => S.2.2.2.2 w (List.mem_cons_of_mem _ h)
  have hne : kb ≠ ka := lst_ne hb0 ha0 (fun z => by cases z)
  have hP : va_P D vwCl (wB ws kb ka b ar N cy f n) s.heap := by rw [wB_self hb0 ha0]; exact hP
  have hD : va_D A (wB ws kb ka b ar N cy f n) := by rw [wB_self hb0 ha0]; exact hD
  refine lv_aload_n hx hb dX3_toSix_0 rfl (lv_at hl 2 rfl) ?_
  refine va_get (ci := 1) (C := RX0) (T := TX0) (N := 6) hx hb ht iFX0 hown hK hP kw (wB_o dw1 dw2 hw0) rfl 0 (by decide) (ht _ kw2_234) (fun _ h9 => h9) rfl dX3_toSix_1 ?_
  refine lv_istore (lv' := [(4, .int (nI pt)), (0, .ref bi), (1, .ref b), (2, .ref ow), (3, .ref st)]) hx hb dX3_toSix_4 hl (by decide) rfl (fun ls hl => ?_)
  refine lv_aload_n hx hb dX3_toSix_6 rfl (lv_at hl 1 rfl) ?_
  refine ro_V S (c_X1_length (PK_of (wB_o di1 di2 hi0) (wB_o di3 di4 hi1) hniN hNi)) kw3_119 yv_X1_length ⟨Nat.le_of_ble_eq_true rfl, Nat.le_of_ble_eq_true rfl⟩ hK hP (va_recv hK hP (ci := 2) (q0 := ki) rfl (wB_o di1 di2 hi0)) rfl hl.1 rfl (Nat.le_of_ble_eq_true rfl) dX3_toSix_7 ⟨Nat.zero_le _, Nat.zero_le _⟩ ?_
  refine nv_bipush (k := 20) hx hb dX3_toSix_10 (by decide) ?_
  refine nv_isub hx hb (by omega) dX3_toSix_12 ?_
  refine lv_istore (lv' := [(5, .int (nI (ni - 20))), (4, .int (nI pt)), (0, .ref bi), (1, .ref b), (2, .ref ow), (3, .ref st)]) hx hb dX3_toSix_13 hl (by decide) rfl (fun ls hl => ?_)
  refine lv_aload_n hx hb dX3_toSix_15 rfl (lv_at hl 3 rfl) ?_
  refine nv_bipush (k := 40) hx hb dX3_toSix_16 (by decide) ?_
  refine lv_iload hx hb dX3_toSix_18 (lv_at hl 0 rfl) ?_
  refine nv_iadd hx hb dX3_toSix_20 ?_
  refine wr_V S (c_X1_resize (wB_b hne hb0) (wB_a ha0) (by omega) hN (x := 40 + (ni - 20)) (by omega)) kw3_120 yv_X1_resize ⟨Nat.le_of_ble_eq_true rfl, Nat.le_of_ble_eq_true rfl⟩ hK hP hD hS hA (va_recv hK hP (ci := 2) (q0 := kb) rfl (wB_b hne hb0)) rfl hl.1 rfl (Nat.le_of_ble_eq_true rfl) dX3_toSix_21 ⟨Nat.zero_le _, Nat.zero_le _⟩ (fun g_1 H locs hg_1 hP hD hS => ?_)
  rw [wB_wB hne] at hP hD
  refine W.eq (g2 := F0 m 24 ls []) rfl ?_
  refine lv_aload_n hx hb dX3_toSix_24 rfl (lv_at hl 3 rfl) ?_
  refine nv_iconst (k := 0) hx hb dX3_toSix_25 rfl ?_
  refine lv_aload_n hx hb dX3_toSix_26 rfl (lv_at hl 2 rfl) ?_
  refine nv_iconst (k := 1) hx hb dX3_toSix_27 rfl ?_
  refine ro_V S (c_X1_octet (PK_of (wB_o di1 di2 hi0) (wB_o di3 di4 hi1) hniN hNi) (k := 1) (by omega)) kw3_130 yv_X1_octet ⟨Nat.le_of_ble_eq_true rfl, Nat.le_of_ble_eq_true rfl⟩ hK hP (va_recv hK hP (ci := 2) (q0 := ki) rfl (wB_o di1 di2 hi0)) rfl hl.1 rfl (Nat.le_of_ble_eq_true rfl) dX3_toSix_28 ⟨Nat.zero_le _, Nat.zero_le _⟩ ?_
  have hq28 := tg_rd_lt fi ni 1
  refine lv_iload hx hb dX3_toSix_31 (lv_at hl 0 rfl) ?_
  refine lv_iload hx hb dX3_toSix_33 (lv_at hl 1 rfl) ?_
  refine lv_aload_n hx hb dX3_toSix_35 rfl (lv_at hl 2 rfl) ?_
  refine nv_bipush (k := 8) hx hb dX3_toSix_36 (by decide) ?_
  refine ro_V S (c_X1_octet (PK_of (wB_o di1 di2 hi0) (wB_o di3 di4 hi1) hniN hNi) (k := 8) (by omega)) kw3_130 yv_X1_octet ⟨Nat.le_of_ble_eq_true rfl, Nat.le_of_ble_eq_true rfl⟩ hK hP (va_recv hK hP (ci := 2) (q0 := ki) rfl (wB_o di1 di2 hi0)) rfl hl.1 rfl (Nat.le_of_ble_eq_true rfl) dX3_toSix_38 ⟨Nat.zero_le _, Nat.zero_le _⟩ ?_
  have hq38 := tg_rd_lt fi ni 8
  refine nv_iconst (k := 1) hx hb dX3_toSix_41 rfl ?_
  refine nv_isub hx hb (by omega) dX3_toSix_42 ?_
  refine wr_S S (c_X3_putSixHead (wB_b hne hb0) (wB_a ha0) (by omega) hN (a := 0) (tr := tg_rd fi ni 1) (pl := ni - 20) (q := pt) (hp := (tg_rd fi ni 8) - 1) (by omega) (by omega) (by omega) (by omega) (by omega)) kw3_203 yv_X3_putSixHead ⟨Nat.le_of_ble_eq_true rfl, Nat.le_of_ble_eq_true rfl⟩ hK hP hD hS hA rfl hl.1 rfl (Nat.le_of_ble_eq_true rfl) dX3_toSix_43 ⟨Nat.zero_le _, Nat.zero_le _⟩ (fun g_2 H locs hg_2 hP hD hS => ?_)
  rw [wB_wB hne] at hP hD
  refine W.eq (g2 := F0 m 46 ls []) rfl ?_
  refine lv_aload_n hx hb dX3_toSix_46 rfl (lv_at hl 3 rfl) ?_
  refine nv_bipush (k := 8) hx hb dX3_toSix_47 (by decide) ?_
  refine lv_aload_n hx hb dX3_toSix_49 rfl (lv_at hl 2 rfl) ?_
  refine nv_bipush (k := 12) hx hb dX3_toSix_50 (by decide) ?_
  refine ro_V S (c_X1_quad (PK_of (wB_o di1 di2 hi0) (wB_o di3 di4 hi1) hniN hNi) (a := 12) (by omega)) kw3_206 yv_X1_quad ⟨Nat.le_of_ble_eq_true rfl, Nat.le_of_ble_eq_true rfl⟩ hK hP (va_recv hK hP (ci := 2) (q0 := ki) rfl (wB_o di1 di2 hi0)) rfl hl.1 rfl (Nat.le_of_ble_eq_true rfl) dX3_toSix_52 ⟨Nat.zero_le _, Nat.zero_le _⟩ ?_
  have hq52 := tg_qd_lt fi ni 12
  refine lv_aload_n hx hb dX3_toSix_55 rfl (lv_at hl 5 rfl) ?_
  refine wr_S S (c_X3_putEmbedded (wB_b hne hb0) (wB_a ha0) (by omega) hN (wB_o ds1 ds2 hs0) hsi ds1 ds2 (a := 8) (x := tg_qd (tg_rd fi ni) 12) (by omega) (by omega)) kw3_207 yv_X3_putEmbedded ⟨Nat.le_of_ble_eq_true rfl, Nat.le_of_ble_eq_true rfl⟩ hK hP hD hS hA rfl hl.1 rfl (Nat.le_of_ble_eq_true rfl) dX3_toSix_56 ⟨Nat.zero_le _, Nat.zero_le _⟩ (fun g_3 H locs hg_3 hP hD hS => ?_)
  rw [wB_wB hne] at hP hD
  refine W.eq (g2 := F0 m 59 ls []) rfl ?_
  refine lv_aload_n hx hb dX3_toSix_59 rfl (lv_at hl 3 rfl) ?_
  refine nv_bipush (k := 24) hx hb dX3_toSix_60 (by decide) ?_
  refine lv_aload_n hx hb dX3_toSix_62 rfl (lv_at hl 4 rfl) ?_
  refine wr_S S (c_X3_putInner (wB_b hne hb0) (wB_a ha0) (by omega) hN (wB_o dw1 dw2 hw0) hpt hih hil hip hop dw1 dw2 (a := 24) (by omega)) kw3_216 yv_X3_putInner ⟨Nat.le_of_ble_eq_true rfl, Nat.le_of_ble_eq_true rfl⟩ hK hP hD hS hA rfl hl.1 rfl (Nat.le_of_ble_eq_true rfl) dX3_toSix_63 ⟨Nat.zero_le _, Nat.zero_le _⟩ (fun g_4 H locs hg_4 hP hD hS => ?_)
  rw [wB_wB hne] at hP hD
  refine W.eq (g2 := F0 m 66 ls []) rfl ?_
  refine lv_aload_n hx hb dX3_toSix_66 rfl (lv_at hl 3 rfl) ?_
  refine lv_aload_n hx hb dX3_toSix_67 rfl (lv_at hl 2 rfl) ?_
  refine nv_bipush (k := 20) hx hb dX3_toSix_68 (by decide) ?_
  refine nv_bipush (k := 40) hx hb dX3_toSix_70 (by decide) ?_
  refine lv_iload hx hb dX3_toSix_72 (lv_at hl 0 rfl) ?_
  refine wr_V S (c_X1_copy (wB_b hne hb0) (wB_a ha0) (by omega) hN (wB_o di1 di2 hi0) (wB_o di3 di4 hi1) hniN hNi di1 di2 di3 di4 (a := 20) (z := 40) (k := ni - 20) (by omega) (by omega)) kw3_135 yv_X1_copy ⟨Nat.le_of_ble_eq_true rfl, Nat.le_of_ble_eq_true rfl⟩ hK hP hD hS hA (va_recv hK hP (ci := 2) (q0 := kb) rfl (wB_b hne hb0)) rfl hl.1 rfl (Nat.le_of_ble_eq_true rfl) dX3_toSix_74 ⟨Nat.zero_le _, Nat.zero_le _⟩ (fun g_5 H locs hg_5 hP hD hS => ?_)
  rw [wB_wB hne] at hP hD
  refine W.eq (g2 := F0 m 77 ls []) rfl ?_
  refine lv_aload_n hx hb dX3_toSix_77 rfl (lv_at hl 3 rfl) ?_
  refine nv_bipush (k := 40) hx hb dX3_toSix_78 (by decide) ?_
  refine lv_iload hx hb dX3_toSix_80 (lv_at hl 1 rfl) ?_
  refine ro_S S (c_X4_destinationPortAt (q := pt) (by omega)) kw4_1 yv_X4_destinationPortAt ⟨Nat.le_of_ble_eq_true rfl, Nat.le_of_ble_eq_true rfl⟩ hK hP rfl hl.1 rfl (Nat.le_of_ble_eq_true rfl) dX3_toSix_82 ⟨Nat.zero_le _, Nat.zero_le _⟩ ?_
  have hq82 := tg_dpa_le pt
  refine nv_iadd hx hb dX3_toSix_85 ?_
  refine lv_aload_n hx hb dX3_toSix_86 rfl (lv_at hl 4 rfl) ?_
  refine va_get (ci := 1) (C := RX0) (T := TX0) (N := 6) hx hb ht iFX0 hown hK hP kw (wB_o dw1 dw2 hw0) rfl 3 (by decide) (ht _ kw3_4) (fun _ h9 => h9) rfl dX3_toSix_87 ?_
  refine wr_V S (c_X1_putPair (wB_b hne hb0) (wB_a ha0) (by omega) hN (a := 40 + (tg_dpa pt)) (x := ip) (by omega) (by omega)) kw3_126 yv_X1_putPair ⟨Nat.le_of_ble_eq_true rfl, Nat.le_of_ble_eq_true rfl⟩ hK hP hD hS hA (va_recv hK hP (ci := 2) (q0 := kb) rfl (wB_b hne hb0)) rfl hl.1 rfl (Nat.le_of_ble_eq_true rfl) dX3_toSix_90 ⟨Nat.zero_le _, Nat.zero_le _⟩ (fun g_6 H locs hg_6 hP hD hS => ?_)
  rw [wB_wB hne] at hP hD
  refine W.eq (g2 := F0 m 93 ls []) rfl ?_
  refine lv_iload hx hb dX3_toSix_93 (lv_at hl 1 rfl) ?_
  refine nv_iconst (k := 1) hx hb dX3_toSix_95 rfl ?_
  refine nv_icmp_ne (tgt := 125) hx hb dX3_toSix_96 (by decide) (by omega) (by omega) (fun h96 => ?_) (fun h96 => ?_)
  · skip
    refine lv_aload_n hx hb dX3_toSix_125 rfl (lv_at hl 3 rfl) ?_
    refine nv_bipush (k := 40) hx hb dX3_toSix_126 (by decide) ?_
    refine wr_S S (c_X9_putPart (wB_b hne hb0) (wB_a ha0) (by omega) hN (hd := 40) (q := tg_nx pt) (by omega) (rd_at (x := tg_nx pt) (by omega) (by rw [hg_6, put_out (i := 6) (a := 40 + (tg_dpa pt)) (k := 2) (by omega), hg_5, cpy_out (i := 6) (by omega), hg_4, inn_out (i := 6) (a := 24) (by omega), hg_3, emb_out (i := 6) (a := 8) (by omega), hg_2]; exact six_6) (tg_nx_lt hpt)) (by omega)) kw3_141 yv_X9_putPart ⟨Nat.le_of_ble_eq_true rfl, Nat.le_of_ble_eq_true rfl⟩ hK hP hD hS hA rfl hl.1 rfl (Nat.le_of_ble_eq_true rfl) dX3_toSix_128 ⟨Nat.zero_le _, Nat.zero_le _⟩ (fun g_7 H locs hg_7 hP hD hS => ?_)
    rw [wB_wB hne] at hP hD
    refine W.eq (g2 := F0 m 131 ls []) rfl ?_
    exact hend _ (by rw [hg_7, hg_6, hg_5, hg_4, hg_3, hg_2]; unfold tg_sx tg_sx1; (first | rw [if_pos h96, if_pos h110] | rw [if_pos h96, if_neg h110] | rw [if_neg h96]) <;> rfl) hP hD hS dX3_toSix_131
  refine lv_aload_n hx hb dX3_toSix_99 rfl (lv_at hl 3 rfl) ?_
  refine nv_bipush (k := 40) hx hb dX3_toSix_100 (by decide) ?_
  refine lv_aload_n hx hb dX3_toSix_102 rfl (lv_at hl 2 rfl) ?_
  refine nv_bipush (k := 20) hx hb dX3_toSix_103 (by decide) ?_
  refine ro_V S (c_X1_octet (PK_of (wB_o di1 di2 hi0) (wB_o di3 di4 hi1) hniN hNi) (k := 20) (by omega)) kw3_130 yv_X1_octet ⟨Nat.le_of_ble_eq_true rfl, Nat.le_of_ble_eq_true rfl⟩ hK hP (va_recv hK hP (ci := 2) (q0 := ki) rfl (wB_o di1 di2 hi0)) rfl hl.1 rfl (Nat.le_of_ble_eq_true rfl) dX3_toSix_105 ⟨Nat.zero_le _, Nat.zero_le _⟩ ?_
  have hq105 := tg_rd_lt fi ni 20
  refine nv_bipush (k := 8) hx hb dX3_toSix_108 (by decide) ?_
  refine nv_icmp_ne (tgt := 119) hx hb dX3_toSix_110 (by decide) (by omega) (by omega) (fun h110 => ?_) (fun h110 => ?_)
  · skip
    refine nv_sipush (k := 129) hx hb dX3_toSix_119 (by decide) ?_
    refine wr_V S (c_X1_put (wB_b hne hb0) (wB_a ha0) (by omega) hN (k := 40) (x := nI (129)) (by omega)) kw3_121 yv_X1_put ⟨Nat.le_of_ble_eq_true rfl, Nat.le_of_ble_eq_true rfl⟩ hK hP hD hS hA (va_recv hK hP (ci := 2) (q0 := kb) rfl (wB_b hne hb0)) rfl hl.1 rfl (Nat.le_of_ble_eq_true rfl) dX3_toSix_122 ⟨Nat.zero_le _, Nat.zero_le _⟩ (fun g_8 H locs hg_8 hP hD hS => ?_)
    rw [wB_wB hne] at hP hD
    rw [by8_nI] at hg_8
    refine W.eq (g2 := F0 m 125 ls []) rfl ?_
    refine lv_aload_n hx hb dX3_toSix_125 rfl (lv_at hl 3 rfl) ?_
    refine nv_bipush (k := 40) hx hb dX3_toSix_126 (by decide) ?_
    refine wr_S S (c_X9_putPart (wB_b hne hb0) (wB_a ha0) (by omega) hN (hd := 40) (q := tg_nx pt) (by omega) (rd_at (x := tg_nx pt) (by omega) (by rw [hg_8, up_out (i := 6) (a := 40) (by omega), hg_6, put_out (i := 6) (a := 40 + (tg_dpa pt)) (k := 2) (by omega), hg_5, cpy_out (i := 6) (by omega), hg_4, inn_out (i := 6) (a := 24) (by omega), hg_3, emb_out (i := 6) (a := 8) (by omega), hg_2]; exact six_6) (tg_nx_lt hpt)) (by omega)) kw3_141 yv_X9_putPart ⟨Nat.le_of_ble_eq_true rfl, Nat.le_of_ble_eq_true rfl⟩ hK hP hD hS hA rfl hl.1 rfl (Nat.le_of_ble_eq_true rfl) dX3_toSix_128 ⟨Nat.zero_le _, Nat.zero_le _⟩ (fun g_9 H locs hg_9 hP hD hS => ?_)
    rw [wB_wB hne] at hP hD
    refine W.eq (g2 := F0 m 131 ls []) rfl ?_
    exact hend _ (by rw [hg_9, hg_8, hg_6, hg_5, hg_4, hg_3, hg_2]; unfold tg_sx tg_sx1; (first | rw [if_pos h96, if_pos h110] | rw [if_pos h96, if_neg h110] | rw [if_neg h96]) <;> rfl) hP hD hS dX3_toSix_131
  refine nv_sipush (k := 128) hx hb dX3_toSix_113 (by decide) ?_
  refine lv_goto (tgt := 122) hx hb dX3_toSix_116 (by decide) ?_
  refine wr_V S (c_X1_put (wB_b hne hb0) (wB_a ha0) (by omega) hN (k := 40) (x := nI (128)) (by omega)) kw3_121 yv_X1_put ⟨Nat.le_of_ble_eq_true rfl, Nat.le_of_ble_eq_true rfl⟩ hK hP hD hS hA (va_recv hK hP (ci := 2) (q0 := kb) rfl (wB_b hne hb0)) rfl hl.1 rfl (Nat.le_of_ble_eq_true rfl) dX3_toSix_122 ⟨Nat.zero_le _, Nat.zero_le _⟩ (fun g_10 H locs hg_10 hP hD hS => ?_)
  rw [wB_wB hne] at hP hD
  rw [by8_nI] at hg_10
  refine W.eq (g2 := F0 m 125 ls []) rfl ?_
  refine lv_aload_n hx hb dX3_toSix_125 rfl (lv_at hl 3 rfl) ?_
  refine nv_bipush (k := 40) hx hb dX3_toSix_126 (by decide) ?_
  refine wr_S S (c_X9_putPart (wB_b hne hb0) (wB_a ha0) (by omega) hN (hd := 40) (q := tg_nx pt) (by omega) (rd_at (x := tg_nx pt) (by omega) (by rw [hg_10, up_out (i := 6) (a := 40) (by omega), hg_6, put_out (i := 6) (a := 40 + (tg_dpa pt)) (k := 2) (by omega), hg_5, cpy_out (i := 6) (by omega), hg_4, inn_out (i := 6) (a := 24) (by omega), hg_3, emb_out (i := 6) (a := 8) (by omega), hg_2]; exact six_6) (tg_nx_lt hpt)) (by omega)) kw3_141 yv_X9_putPart ⟨Nat.le_of_ble_eq_true rfl, Nat.le_of_ble_eq_true rfl⟩ hK hP hD hS hA rfl hl.1 rfl (Nat.le_of_ble_eq_true rfl) dX3_toSix_128 ⟨Nat.zero_le _, Nat.zero_le _⟩ (fun g_11 H locs hg_11 hP hD hS => ?_)
  rw [wB_wB hne] at hP hD
  refine W.eq (g2 := F0 m 131 ls []) rfl ?_
  exact hend _ (by rw [hg_11, hg_10, hg_6, hg_5, hg_4, hg_3, hg_2]; unfold tg_sx tg_sx1; (first | rw [if_pos h96, if_pos h110] | rw [if_pos h96, if_neg h110] | rw [if_neg h96]) <;> rfl) hP hD hS dX3_toSix_131
theorem dX3_errorToSix_0 : decode cX3_errorToSix 0 = .ok (.aload_n 0, 1) := by decide +kernel
theorem dX3_errorToSix_1 : decode cX3_errorToSix 1 = .ok (.invokevirtual 15, 3) := by decide +kernel
theorem dX3_errorToSix_4 : decode cX3_errorToSix 4 = .ok (.bipush 40, 2) := by decide +kernel
theorem dX3_errorToSix_6 : decode cX3_errorToSix 6 = .ok (.iadd, 1) := by decide +kernel
theorem dX3_errorToSix_7 : decode cX3_errorToSix 7 = .ok (.istore 4, 2) := by decide +kernel
theorem dX3_errorToSix_9 : decode cX3_errorToSix 9 = .ok (.aload_n 1, 1) := by decide +kernel
theorem dX3_errorToSix_10 : decode cX3_errorToSix 10 = .ok (.iload 4, 2) := by decide +kernel
theorem dX3_errorToSix_12 : decode cX3_errorToSix 12 = .ok (.sipush 1280, 3) := by decide +kernel
theorem dX3_errorToSix_15 : decode cX3_errorToSix 15 = .ok (.invokestatic 87, 3) := by decide +kernel
theorem dX3_errorToSix_18 : decode cX3_errorToSix 18 = .ok (.invokevirtual 21, 3) := by decide +kernel
theorem dX3_errorToSix_21 : decode cX3_errorToSix 21 = .ok (.aload_n 1, 1) := by decide +kernel
theorem dX3_errorToSix_22 : decode cX3_errorToSix 22 = .ok (.iconst 0, 1) := by decide +kernel
theorem dX3_errorToSix_23 : decode cX3_errorToSix 23 = .ok (.aload_n 0, 1) := by decide +kernel
theorem dX3_errorToSix_24 : decode cX3_errorToSix 24 = .ok (.iconst 1, 1) := by decide +kernel
theorem dX3_errorToSix_25 : decode cX3_errorToSix 25 = .ok (.invokevirtual 36, 3) := by decide +kernel
theorem dX3_errorToSix_28 : decode cX3_errorToSix 28 = .ok (.aload_n 1, 1) := by decide +kernel
theorem dX3_errorToSix_29 : decode cX3_errorToSix 29 = .ok (.invokevirtual 15, 3) := by decide +kernel
theorem dX3_errorToSix_32 : decode cX3_errorToSix 32 = .ok (.bipush 40, 2) := by decide +kernel
theorem dX3_errorToSix_34 : decode cX3_errorToSix 34 = .ok (.isub, 1) := by decide +kernel
theorem dX3_errorToSix_35 : decode cX3_errorToSix 35 = .ok (.iconst 1, 1) := by decide +kernel
theorem dX3_errorToSix_36 : decode cX3_errorToSix 36 = .ok (.aload_n 0, 1) := by decide +kernel
theorem dX3_errorToSix_37 : decode cX3_errorToSix 37 = .ok (.bipush 8, 2) := by decide +kernel
theorem dX3_errorToSix_39 : decode cX3_errorToSix 39 = .ok (.invokevirtual 36, 3) := by decide +kernel
theorem dX3_errorToSix_42 : decode cX3_errorToSix 42 = .ok (.iconst 1, 1) := by decide +kernel
theorem dX3_errorToSix_43 : decode cX3_errorToSix 43 = .ok (.isub, 1) := by decide +kernel
theorem dX3_errorToSix_44 : decode cX3_errorToSix 44 = .ok (.invokestatic 64, 3) := by decide +kernel
theorem dX3_errorToSix_47 : decode cX3_errorToSix 47 = .ok (.aload_n 1, 1) := by decide +kernel
theorem dX3_errorToSix_48 : decode cX3_errorToSix 48 = .ok (.bipush 8, 2) := by decide +kernel
theorem dX3_errorToSix_50 : decode cX3_errorToSix 50 = .ok (.aload_n 0, 1) := by decide +kernel
theorem dX3_errorToSix_51 : decode cX3_errorToSix 51 = .ok (.bipush 12, 2) := by decide +kernel
theorem dX3_errorToSix_53 : decode cX3_errorToSix 53 = .ok (.invokevirtual 70, 3) := by decide +kernel
theorem dX3_errorToSix_56 : decode cX3_errorToSix 56 = .ok (.aload_n 3, 1) := by decide +kernel
theorem dX3_errorToSix_57 : decode cX3_errorToSix 57 = .ok (.invokestatic 73, 3) := by decide +kernel
theorem dX3_errorToSix_60 : decode cX3_errorToSix 60 = .ok (.aload_n 1, 1) := by decide +kernel
theorem dX3_errorToSix_61 : decode cX3_errorToSix 61 = .ok (.bipush 24, 2) := by decide +kernel
theorem dX3_errorToSix_63 : decode cX3_errorToSix 63 = .ok (.aload_n 2, 1) := by decide +kernel
theorem dX3_errorToSix_64 : decode cX3_errorToSix 64 = .ok (.invokestatic 77, 3) := by decide +kernel
theorem dX3_errorToSix_67 : decode cX3_errorToSix 67 = .ok (.aload_n 0, 1) := by decide +kernel
theorem dX3_errorToSix_68 : decode cX3_errorToSix 68 = .ok (.aload_n 1, 1) := by decide +kernel
theorem dX3_errorToSix_69 : decode cX3_errorToSix 69 = .ok (.invokestatic 93, 3) := by decide +kernel
theorem dX3_errorToSix_72 : decode cX3_errorToSix 72 = .ok (.return_, 1) := by decide +kernel
theorem yv_X3_errorToSix : YS yX3_errorToSix cX3_errorToSix 5 none 4 := ⟨kw3_200, kw1_22, kw3_201, by decide +kernel⟩
set_option maxHeartbeats 4000000 in
set_option maxRecDepth 100000 in
theorem c_X3_errorToSix {l : Launch} {D : va_G} {cy : Nat → ClassId} {ws : va_W} {kb ka b ar N n : Nat} {f : Nat → UInt8} (hb0 : ws[kb]? = some (b, .inr (2, [.ref ar, .int (nI n)]))) (ha0 : ws[ka]? = some (ar, .inl (cy 0, N, .inl (bt f)))) (hnN : n ≤ N) (hN : N ≤ 1700) {ki kai bi ai Ni ni : Nat} {fi : Nat → UInt8} (hi0 : ws[ki]? = some (bi, .inr (2, [.ref ai, .int (nI ni)]))) (hi1 : ws[kai]? = some (ai, .inl (cy 0, Ni, .inl (bt fi)))) (hniN : ni ≤ Ni) (hNi : Ni ≤ 1700) (di1 : kb ≠ ki) (di2 : ka ≠ ki) (di3 : kb ≠ kai) (di4 : ka ≠ kai) {kw ow pt ih il ip pn op : Nat} (hw0 : ws[kw]? = some (ow, .inr (1, [.int (nI pt), .long (lN ih), .long (lN il), .int (nI ip), .int (nI pn), .int (nI op)]))) (hpt : pt = 1 ∨ pt = 6 ∨ pt = 17) (hih : ih < 2 ^ 64) (hil : il < 2 ^ 64) (hip : ip < 65536) (hop : op < 2 ^ 31) (dw1 : kb ≠ kw) (dw2 : ka ≠ kw) {ks st bits F G : Nat} (hs0 : ws[ks]? = some (st, .inr (6, [.long (lN F), .long (lN G), .int (nI bits), .int (nI (bits - 32))]))) (hsi : SI bits F G) (ds1 : kb ≠ ks) (ds2 : ka ≠ ks) (hni : 56 ≤ ni) (hNo : 1280 ≤ N) (hhop : 2 ≤ tg_rd fi ni 8) : WR (S := (Nat → UInt8)) l yX3_errorToSix cX3_errorToSix 5 none 3 0 0 73 [.ref bi, .ref b, .ref ow, .ref st] D cy ws (fun _ => none) (fun g => g = tg_er1 f fi ni ih il bits F G) (fun g => wB ws kb ka b ar N cy g (min (ni + 40) 1280)) := by
  refine WRv (by decide) (lv0 := [(0, .ref bi), (1, .ref b), (2, .ref ow), (3, .ref st)]) rfl (Nat.le_of_ble_eq_true rfl) ?_
  intro p e s m args below meth c ls A Q S hnm hP hK hD hS hA hend hl
  have hx := S.1
  have hb := S.2.1
  have hown : s.vm.findClass RX3 = some m.cls := S.2.2.2.1
  have ht : ∀ w ∈ lw_g, w.before args s = true := fun w h => S.2.2.2.2 w (List.mem_cons_of_mem _ h)
  have hne : kb ≠ ka := lst_ne hb0 ha0 (fun z => by cases z)
  have hP : va_P D vwCl (wB ws kb ka b ar N cy f n) s.heap := by rw [wB_self hb0 ha0]; exact hP
  have hD : va_D A (wB ws kb ka b ar N cy f n) := by rw [wB_self hb0 ha0]; exact hD
  refine lv_aload_n hx hb dX3_errorToSix_0 rfl (lv_at hl 0 rfl) ?_
  refine ro_V S (c_X1_length (PK_of (wB_o di1 di2 hi0) (wB_o di3 di4 hi1) hniN hNi)) kw3_119 yv_X1_length ⟨Nat.le_of_ble_eq_true rfl, Nat.le_of_ble_eq_true rfl⟩ hK hP (va_recv hK hP (ci := 2) (q0 := ki) rfl (wB_o di1 di2 hi0)) rfl hl.1 rfl (Nat.le_of_ble_eq_true rfl) dX3_errorToSix_1 ⟨Nat.zero_le _, Nat.zero_le _⟩ ?_
  refine nv_bipush (k := 40) hx hb dX3_errorToSix_4 (by decide) ?_
  refine nv_iadd hx hb dX3_errorToSix_6 ?_
  refine lv_istore (lv' := [(4, .int (nI (ni + 40))), (0, .ref bi), (1, .ref b), (2, .ref ow), (3, .ref st)]) hx hb dX3_errorToSix_7 hl (by decide) rfl (fun ls hl => ?_)
  refine lv_aload_n hx hb dX3_errorToSix_9 rfl (lv_at hl 2 rfl) ?_
  refine lv_iload hx hb dX3_errorToSix_10 (lv_at hl 0 rfl) ?_
  refine nv_sipush (k := 1280) hx hb dX3_errorToSix_12 (by decide) ?_
  refine nv_min hx hb (S.2.2.1.trans hl.1.symm) hown (ht _ kw3_202) (ht _ kw1_229) (ht _ kw1_3) (ht _ kw1_230) (Nat.le_of_ble_eq_true rfl) (Nat.le_of_ble_eq_true rfl) (Nat.zero_le _) (Nat.zero_le _) (by omega) (by omega) dX3_errorToSix_15 ?_
  refine wr_V S (c_X1_resize (wB_b hne hb0) (wB_a ha0) (by omega) hN (x := min (ni + 40) 1280) (by omega)) kw3_120 yv_X1_resize ⟨Nat.le_of_ble_eq_true rfl, Nat.le_of_ble_eq_true rfl⟩ hK hP hD hS hA (va_recv hK hP (ci := 2) (q0 := kb) rfl (wB_b hne hb0)) rfl hl.1 rfl (Nat.le_of_ble_eq_true rfl) dX3_errorToSix_18 ⟨Nat.zero_le _, Nat.zero_le _⟩ (fun g_1 H locs hg_1 hP hD hS => ?_)
  rw [wB_wB hne] at hP hD
  refine W.eq (g2 := F0 m 21 ls []) rfl ?_
  refine lv_aload_n hx hb dX3_errorToSix_21 rfl (lv_at hl 2 rfl) ?_
  refine nv_iconst (k := 0) hx hb dX3_errorToSix_22 rfl ?_
  refine lv_aload_n hx hb dX3_errorToSix_23 rfl (lv_at hl 1 rfl) ?_
  refine nv_iconst (k := 1) hx hb dX3_errorToSix_24 rfl ?_
  refine ro_V S (c_X1_octet (PK_of (wB_o di1 di2 hi0) (wB_o di3 di4 hi1) hniN hNi) (k := 1) (by omega)) kw3_130 yv_X1_octet ⟨Nat.le_of_ble_eq_true rfl, Nat.le_of_ble_eq_true rfl⟩ hK hP (va_recv hK hP (ci := 2) (q0 := ki) rfl (wB_o di1 di2 hi0)) rfl hl.1 rfl (Nat.le_of_ble_eq_true rfl) dX3_errorToSix_25 ⟨Nat.zero_le _, Nat.zero_le _⟩ ?_
  have hq25 := tg_rd_lt fi ni 1
  refine lv_aload_n hx hb dX3_errorToSix_28 rfl (lv_at hl 2 rfl) ?_
  refine ro_V S (c_X1_length (PK_of (wB_b hne hb0) (wB_a ha0) (by omega) hN)) kw3_119 yv_X1_length ⟨Nat.le_of_ble_eq_true rfl, Nat.le_of_ble_eq_true rfl⟩ hK hP (va_recv hK hP (ci := 2) (q0 := kb) rfl (wB_b hne hb0)) rfl hl.1 rfl (Nat.le_of_ble_eq_true rfl) dX3_errorToSix_29 ⟨Nat.zero_le _, Nat.zero_le _⟩ ?_
  refine nv_bipush (k := 40) hx hb dX3_errorToSix_32 (by decide) ?_
  refine nv_isub hx hb (by omega) dX3_errorToSix_34 ?_
  refine nv_iconst (k := 1) hx hb dX3_errorToSix_35 rfl ?_
  refine lv_aload_n hx hb dX3_errorToSix_36 rfl (lv_at hl 1 rfl) ?_
  refine nv_bipush (k := 8) hx hb dX3_errorToSix_37 (by decide) ?_
  refine ro_V S (c_X1_octet (PK_of (wB_o di1 di2 hi0) (wB_o di3 di4 hi1) hniN hNi) (k := 8) (by omega)) kw3_130 yv_X1_octet ⟨Nat.le_of_ble_eq_true rfl, Nat.le_of_ble_eq_true rfl⟩ hK hP (va_recv hK hP (ci := 2) (q0 := ki) rfl (wB_o di1 di2 hi0)) rfl hl.1 rfl (Nat.le_of_ble_eq_true rfl) dX3_errorToSix_39 ⟨Nat.zero_le _, Nat.zero_le _⟩ ?_
  have hq39 := tg_rd_lt fi ni 8
  refine nv_iconst (k := 1) hx hb dX3_errorToSix_42 rfl ?_
  refine nv_isub hx hb (by omega) dX3_errorToSix_43 ?_
  refine wr_S S (c_X3_putSixHead (wB_b hne hb0) (wB_a ha0) (by omega) hN (a := 0) (tr := tg_rd fi ni 1) (pl := ((min (ni + 40) 1280)) - 40) (q := 1) (hp := (tg_rd fi ni 8) - 1) (by omega) (by omega) (by omega) (by omega) (by omega)) kw3_203 yv_X3_putSixHead ⟨Nat.le_of_ble_eq_true rfl, Nat.le_of_ble_eq_true rfl⟩ hK hP hD hS hA rfl hl.1 rfl (Nat.le_of_ble_eq_true rfl) dX3_errorToSix_44 ⟨Nat.zero_le _, Nat.zero_le _⟩ (fun g_2 H locs hg_2 hP hD hS => ?_)
  rw [wB_wB hne] at hP hD
  refine W.eq (g2 := F0 m 47 ls []) rfl ?_
  refine lv_aload_n hx hb dX3_errorToSix_47 rfl (lv_at hl 2 rfl) ?_
  refine nv_bipush (k := 8) hx hb dX3_errorToSix_48 (by decide) ?_
  refine lv_aload_n hx hb dX3_errorToSix_50 rfl (lv_at hl 1 rfl) ?_
  refine nv_bipush (k := 12) hx hb dX3_errorToSix_51 (by decide) ?_
  refine ro_V S (c_X1_quad (PK_of (wB_o di1 di2 hi0) (wB_o di3 di4 hi1) hniN hNi) (a := 12) (by omega)) kw3_206 yv_X1_quad ⟨Nat.le_of_ble_eq_true rfl, Nat.le_of_ble_eq_true rfl⟩ hK hP (va_recv hK hP (ci := 2) (q0 := ki) rfl (wB_o di1 di2 hi0)) rfl hl.1 rfl (Nat.le_of_ble_eq_true rfl) dX3_errorToSix_53 ⟨Nat.zero_le _, Nat.zero_le _⟩ ?_
  have hq53 := tg_qd_lt fi ni 12
  refine lv_aload_n hx hb dX3_errorToSix_56 rfl (lv_at hl 4 rfl) ?_
  refine wr_S S (c_X3_putEmbedded (wB_b hne hb0) (wB_a ha0) (by omega) hN (wB_o ds1 ds2 hs0) hsi ds1 ds2 (a := 8) (x := tg_qd (tg_rd fi ni) 12) (by omega) (by omega)) kw3_207 yv_X3_putEmbedded ⟨Nat.le_of_ble_eq_true rfl, Nat.le_of_ble_eq_true rfl⟩ hK hP hD hS hA rfl hl.1 rfl (Nat.le_of_ble_eq_true rfl) dX3_errorToSix_57 ⟨Nat.zero_le _, Nat.zero_le _⟩ (fun g_3 H locs hg_3 hP hD hS => ?_)
  rw [wB_wB hne] at hP hD
  refine W.eq (g2 := F0 m 60 ls []) rfl ?_
  refine lv_aload_n hx hb dX3_errorToSix_60 rfl (lv_at hl 2 rfl) ?_
  refine nv_bipush (k := 24) hx hb dX3_errorToSix_61 (by decide) ?_
  refine lv_aload_n hx hb dX3_errorToSix_63 rfl (lv_at hl 3 rfl) ?_
  refine wr_S S (c_X3_putInner (wB_b hne hb0) (wB_a ha0) (by omega) hN (wB_o dw1 dw2 hw0) hpt hih hil hip hop dw1 dw2 (a := 24) (by omega)) kw3_216 yv_X3_putInner ⟨Nat.le_of_ble_eq_true rfl, Nat.le_of_ble_eq_true rfl⟩ hK hP hD hS hA rfl hl.1 rfl (Nat.le_of_ble_eq_true rfl) dX3_errorToSix_64 ⟨Nat.zero_le _, Nat.zero_le _⟩ (fun g_4 H locs hg_4 hP hD hS => ?_)
  rw [wB_wB hne] at hP hD
  refine W.eq (g2 := F0 m 67 ls []) rfl ?_
  refine lv_aload_n hx hb dX3_errorToSix_67 rfl (lv_at hl 1 rfl) ?_
  refine lv_aload_n hx hb dX3_errorToSix_68 rfl (lv_at hl 2 rfl) ?_
  refine wr_S S (c_X3_putErrorKind (wB_b hne hb0) (wB_a ha0) (by omega) hN (wB_o di1 di2 hi0) (wB_o di3 di4 hi1) hniN hNi di1 di2 di3 di4 (by omega)) kw3_219 yv_X3_putErrorKind ⟨Nat.le_of_ble_eq_true rfl, Nat.le_of_ble_eq_true rfl⟩ hK hP hD hS hA rfl hl.1 rfl (Nat.le_of_ble_eq_true rfl) dX3_errorToSix_69 ⟨Nat.zero_le _, Nat.zero_le _⟩ (fun g_5 H locs hg_5 hP hD hS => ?_)
  rw [wB_wB hne] at hP hD
  refine W.eq (g2 := F0 m 72 ls []) rfl ?_
  exact hend _ (by rw [hg_5, hg_4, hg_3, hg_2] <;> rfl) hP hD hS dX3_errorToSix_72
theorem dX3_withinToSix_0 : decode cX3_withinToSix 0 = .ok (.aload_n 2, 1) := by decide +kernel
theorem dX3_withinToSix_1 : decode cX3_withinToSix 1 = .ok (.getfield 9, 3) := by decide +kernel
theorem dX3_withinToSix_4 : decode cX3_withinToSix 4 = .ok (.istore 4, 2) := by decide +kernel
theorem dX3_withinToSix_6 : decode cX3_withinToSix 6 = .ok (.aload_n 0, 1) := by decide +kernel
theorem dX3_withinToSix_7 : decode cX3_withinToSix 7 = .ok (.bipush 30, 2) := by decide +kernel
theorem dX3_withinToSix_9 : decode cX3_withinToSix 9 = .ok (.invokevirtual 29, 3) := by decide +kernel
theorem dX3_withinToSix_12 : decode cX3_withinToSix 12 = .ok (.bipush 20, 2) := by decide +kernel
theorem dX3_withinToSix_14 : decode cX3_withinToSix 14 = .ok (.isub, 1) := by decide +kernel
theorem dX3_withinToSix_15 : decode cX3_withinToSix 15 = .ok (.istore 5, 2) := by decide +kernel
theorem dX3_withinToSix_17 : decode cX3_withinToSix 17 = .ok (.bipush 88, 2) := by decide +kernel
theorem dX3_withinToSix_19 : decode cX3_withinToSix 19 = .ok (.istore 6, 2) := by decide +kernel
theorem dX3_withinToSix_21 : decode cX3_withinToSix 21 = .ok (.aload_n 0, 1) := by decide +kernel
theorem dX3_withinToSix_22 : decode cX3_withinToSix 22 = .ok (.bipush 29, 2) := by decide +kernel
theorem dX3_withinToSix_24 : decode cX3_withinToSix 24 = .ok (.invokevirtual 36, 3) := by decide +kernel
theorem dX3_withinToSix_27 : decode cX3_withinToSix 27 = .ok (.istore 7, 2) := by decide +kernel
theorem dX3_withinToSix_29 : decode cX3_withinToSix 29 = .ok (.aload_n 1, 1) := by decide +kernel
theorem dX3_withinToSix_30 : decode cX3_withinToSix 30 = .ok (.bipush 48, 2) := by decide +kernel
theorem dX3_withinToSix_32 : decode cX3_withinToSix 32 = .ok (.iload 7, 2) := by decide +kernel
theorem dX3_withinToSix_34 : decode cX3_withinToSix 34 = .ok (.iload 5, 2) := by decide +kernel
theorem dX3_withinToSix_36 : decode cX3_withinToSix 36 = .ok (.iload 4, 2) := by decide +kernel
theorem dX3_withinToSix_38 : decode cX3_withinToSix 38 = .ok (.aload_n 0, 1) := by decide +kernel
theorem dX3_withinToSix_39 : decode cX3_withinToSix 39 = .ok (.bipush 36, 2) := by decide +kernel
theorem dX3_withinToSix_41 : decode cX3_withinToSix 41 = .ok (.invokevirtual 36, 3) := by decide +kernel
theorem dX3_withinToSix_44 : decode cX3_withinToSix 44 = .ok (.invokestatic 64, 3) := by decide +kernel
theorem dX3_withinToSix_47 : decode cX3_withinToSix 47 = .ok (.aload_n 1, 1) := by decide +kernel
theorem dX3_withinToSix_48 : decode cX3_withinToSix 48 = .ok (.bipush 56, 2) := by decide +kernel
theorem dX3_withinToSix_50 : decode cX3_withinToSix 50 = .ok (.aload_n 2, 1) := by decide +kernel
theorem dX3_withinToSix_51 : decode cX3_withinToSix 51 = .ok (.invokestatic 77, 3) := by decide +kernel
theorem dX3_withinToSix_54 : decode cX3_withinToSix 54 = .ok (.aload_n 1, 1) := by decide +kernel
theorem dX3_withinToSix_55 : decode cX3_withinToSix 55 = .ok (.bipush 72, 2) := by decide +kernel
theorem dX3_withinToSix_57 : decode cX3_withinToSix 57 = .ok (.aload_n 0, 1) := by decide +kernel
theorem dX3_withinToSix_58 : decode cX3_withinToSix 58 = .ok (.bipush 44, 2) := by decide +kernel
theorem dX3_withinToSix_60 : decode cX3_withinToSix 60 = .ok (.invokevirtual 70, 3) := by decide +kernel
theorem dX3_withinToSix_63 : decode cX3_withinToSix 63 = .ok (.aload_n 3, 1) := by decide +kernel
theorem dX3_withinToSix_64 : decode cX3_withinToSix 64 = .ok (.invokestatic 73, 3) := by decide +kernel
theorem dX3_withinToSix_67 : decode cX3_withinToSix 67 = .ok (.aload_n 1, 1) := by decide +kernel
theorem dX3_withinToSix_68 : decode cX3_withinToSix 68 = .ok (.aload_n 0, 1) := by decide +kernel
theorem dX3_withinToSix_69 : decode cX3_withinToSix 69 = .ok (.bipush 48, 2) := by decide +kernel
theorem dX3_withinToSix_71 : decode cX3_withinToSix 71 = .ok (.iload 6, 2) := by decide +kernel
theorem dX3_withinToSix_73 : decode cX3_withinToSix 73 = .ok (.aload_n 1, 1) := by decide +kernel
theorem dX3_withinToSix_74 : decode cX3_withinToSix 74 = .ok (.invokevirtual 15, 3) := by decide +kernel
theorem dX3_withinToSix_77 : decode cX3_withinToSix 77 = .ok (.iload 6, 2) := by decide +kernel
theorem dX3_withinToSix_79 : decode cX3_withinToSix 79 = .ok (.isub, 1) := by decide +kernel
theorem dX3_withinToSix_80 : decode cX3_withinToSix 80 = .ok (.invokevirtual 48, 3) := by decide +kernel
theorem dX3_withinToSix_83 : decode cX3_withinToSix 83 = .ok (.aload_n 1, 1) := by decide +kernel
theorem dX3_withinToSix_84 : decode cX3_withinToSix 84 = .ok (.iload 6, 2) := by decide +kernel
theorem dX3_withinToSix_86 : decode cX3_withinToSix 86 = .ok (.iload 4, 2) := by decide +kernel
theorem dX3_withinToSix_88 : decode cX3_withinToSix 88 = .ok (.invokestatic 52, 3) := by decide +kernel
theorem dX3_withinToSix_91 : decode cX3_withinToSix 91 = .ok (.iadd, 1) := by decide +kernel
theorem dX3_withinToSix_92 : decode cX3_withinToSix 92 = .ok (.aload_n 2, 1) := by decide +kernel
theorem dX3_withinToSix_93 : decode cX3_withinToSix 93 = .ok (.getfield 84, 3) := by decide +kernel
theorem dX3_withinToSix_96 : decode cX3_withinToSix 96 = .ok (.invokevirtual 33, 3) := by decide +kernel
theorem dX3_withinToSix_99 : decode cX3_withinToSix 99 = .ok (.iload 4, 2) := by decide +kernel
theorem dX3_withinToSix_101 : decode cX3_withinToSix 101 = .ok (.iconst 1, 1) := by decide +kernel
theorem dX3_withinToSix_102 : decode cX3_withinToSix 102 = .ok (.if_icmp .ne 12, 3) := by decide +kernel
theorem dX3_withinToSix_105 : decode cX3_withinToSix 105 = .ok (.aload_n 1, 1) := by decide +kernel
theorem dX3_withinToSix_106 : decode cX3_withinToSix 106 = .ok (.iload 6, 2) := by decide +kernel
theorem dX3_withinToSix_108 : decode cX3_withinToSix 108 = .ok (.sipush 128, 3) := by decide +kernel
theorem dX3_withinToSix_111 : decode cX3_withinToSix 111 = .ok (.invokevirtual 25, 3) := by decide +kernel
theorem dX3_withinToSix_114 : decode cX3_withinToSix 114 = .ok (.return_, 1) := by decide +kernel
theorem yv_X3_withinToSix : YS yX3_withinToSix cX3_withinToSix 8 none 4 := ⟨kw3_227, kw1_22, kw3_228, by decide +kernel⟩
set_option maxHeartbeats 4000000 in
set_option maxRecDepth 100000 in
theorem c_X3_withinToSix {l : Launch} {D : va_G} {cy : Nat → ClassId} {ws : va_W} {kb ka b ar N n : Nat} {f : Nat → UInt8} (hb0 : ws[kb]? = some (b, .inr (2, [.ref ar, .int (nI n)]))) (ha0 : ws[ka]? = some (ar, .inl (cy 0, N, .inl (bt f)))) (hnN : n ≤ N) (hN : N ≤ 1700) {ki kai bi ai Ni ni : Nat} {fi : Nat → UInt8} (hi0 : ws[ki]? = some (bi, .inr (2, [.ref ai, .int (nI ni)]))) (hi1 : ws[kai]? = some (ai, .inl (cy 0, Ni, .inl (bt fi)))) (hniN : ni ≤ Ni) (hNi : Ni ≤ 1700) (di1 : kb ≠ ki) (di2 : ka ≠ ki) (di3 : kb ≠ kai) (di4 : ka ≠ kai) {kw ow pt ih il ip pn op : Nat} (hw0 : ws[kw]? = some (ow, .inr (1, [.int (nI pt), .long (lN ih), .long (lN il), .int (nI ip), .int (nI pn), .int (nI op)]))) (hpt : pt = 1 ∨ pt = 6 ∨ pt = 17) (hih : ih < 2 ^ 64) (hil : il < 2 ^ 64) (hip : ip < 65536) (hop : op < 2 ^ 31) (dw1 : kb ≠ kw) (dw2 : ka ≠ kw) {ks st bits F G : Nat} (hs0 : ws[ks]? = some (st, .inr (6, [.long (lN F), .long (lN G), .int (nI bits), .int (nI (bits - 32))]))) (hsi : SI bits F G) (ds1 : kb ≠ ks) (ds2 : ka ≠ ks) (hni : 56 ≤ ni) (hn96 : 96 ≤ n) (hnn : n ≤ ni + 40) : WR (S := (Nat → UInt8)) l yX3_withinToSix cX3_withinToSix 8 none 3 0 0 73 [.ref bi, .ref b, .ref ow, .ref st] D cy ws (fun _ => none) (fun g => g = tg_wi f fi ni n pt ip ih il bits F G) (fun g => wB ws kb ka b ar N cy g n) := by
  refine WRv (by decide) (lv0 := [(0, .ref bi), (1, .ref b), (2, .ref ow), (3, .ref st)]) rfl (Nat.le_of_ble_eq_true rfl) ?_
  intro p e s m args below meth c ls A Q S hnm hP hK hD hS hA hend hl
  have hx := S.1
  have hb := S.2.1
  have hown : s.vm.findClass RX3 = some m.cls := S.2.2.2.1
  have ht : ∀ w ∈ lw_g, w.before args s = true := fun w h => S.2.2.2.2 w (List.mem_cons_of_mem _ h)
  have hne : kb ≠ ka := lst_ne hb0 ha0 (fun z => by cases z)
  have hP : va_P D vwCl (wB ws kb ka b ar N cy f n) s.heap := by rw [wB_self hb0 ha0]; exact hP
  have hD : va_D A (wB ws kb ka b ar N cy f n) := by rw [wB_self hb0 ha0]; exact hD
  refine lv_aload_n hx hb dX3_withinToSix_0 rfl (lv_at hl 2 rfl) ?_
  refine va_get (ci := 1) (C := RX0) (T := TX0) (N := 6) hx hb ht iFX0 hown hK hP kw (wB_o dw1 dw2 hw0) rfl 0 (by decide) (ht _ kw2_234) (fun _ h9 => h9) rfl dX3_withinToSix_1 ?_
  refine lv_istore (lv' := [(4, .int (nI pt)), (0, .ref bi), (1, .ref b), (2, .ref ow), (3, .ref st)]) hx hb dX3_withinToSix_4 hl (by decide) rfl (fun ls hl => ?_)
  refine lv_aload_n hx hb dX3_withinToSix_6 rfl (lv_at hl 1 rfl) ?_
  refine nv_bipush (k := 30) hx hb dX3_withinToSix_7 (by decide) ?_
  refine ro_V S (c_X1_pair (PK_of (wB_o di1 di2 hi0) (wB_o di3 di4 hi1) hniN hNi) (a := 30) (by omega)) kw3_125 yv_X1_pair ⟨Nat.le_of_ble_eq_true rfl, Nat.le_of_ble_eq_true rfl⟩ hK hP (va_recv hK hP (ci := 2) (q0 := ki) rfl (wB_o di1 di2 hi0)) rfl hl.1 rfl (Nat.le_of_ble_eq_true rfl) dX3_withinToSix_9 ⟨Nat.zero_le _, Nat.zero_le _⟩ ?_
  have hq9 := tg_pr_lt fi ni 30
  refine nv_bipush (k := 20) hx hb dX3_withinToSix_12 (by decide) ?_
  refine nv_isubw hx hb (by omega) dX3_withinToSix_14 ?_
  refine lv_istore (lv' := [(5, .int (nI ((tg_pr (tg_rd fi ni) 30 + 4294967296 - 20) % 4294967296))), (4, .int (nI pt)), (0, .ref bi), (1, .ref b), (2, .ref ow), (3, .ref st)]) hx hb dX3_withinToSix_15 hl (by decide) rfl (fun ls hl => ?_)
  refine nv_bipush (k := 88) hx hb dX3_withinToSix_17 (by decide) ?_
  refine lv_istore (lv' := [(6, .int (nI 88)), (5, .int (nI ((tg_pr (tg_rd fi ni) 30 + 4294967296 - 20) % 4294967296))), (4, .int (nI pt)), (0, .ref bi), (1, .ref b), (2, .ref ow), (3, .ref st)]) hx hb dX3_withinToSix_19 hl (by decide) rfl (fun ls hl => ?_)
  refine lv_aload_n hx hb dX3_withinToSix_21 rfl (lv_at hl 3 rfl) ?_
  refine nv_bipush (k := 29) hx hb dX3_withinToSix_22 (by decide) ?_
  refine ro_V S (c_X1_octet (PK_of (wB_o di1 di2 hi0) (wB_o di3 di4 hi1) hniN hNi) (k := 29) (by omega)) kw3_130 yv_X1_octet ⟨Nat.le_of_ble_eq_true rfl, Nat.le_of_ble_eq_true rfl⟩ hK hP (va_recv hK hP (ci := 2) (q0 := ki) rfl (wB_o di1 di2 hi0)) rfl hl.1 rfl (Nat.le_of_ble_eq_true rfl) dX3_withinToSix_24 ⟨Nat.zero_le _, Nat.zero_le _⟩ ?_
  have hq24 := tg_rd_lt fi ni 29
  refine lv_istore (lv' := [(7, .int (nI (tg_rd fi ni 29))), (6, .int (nI 88)), (5, .int (nI ((tg_pr (tg_rd fi ni) 30 + 4294967296 - 20) % 4294967296))), (4, .int (nI pt)), (0, .ref bi), (1, .ref b), (2, .ref ow), (3, .ref st)]) hx hb dX3_withinToSix_27 hl (by decide) rfl (fun ls hl => ?_)
  refine lv_aload_n hx hb dX3_withinToSix_29 rfl (lv_at hl 5 rfl) ?_
  refine nv_bipush (k := 48) hx hb dX3_withinToSix_30 (by decide) ?_
  refine lv_iload hx hb dX3_withinToSix_32 (lv_at hl 0 rfl) ?_
  refine lv_iload hx hb dX3_withinToSix_34 (lv_at hl 2 rfl) ?_
  refine lv_iload hx hb dX3_withinToSix_36 (lv_at hl 3 rfl) ?_
  refine lv_aload_n hx hb dX3_withinToSix_38 rfl (lv_at hl 4 rfl) ?_
  refine nv_bipush (k := 36) hx hb dX3_withinToSix_39 (by decide) ?_
  refine ro_V S (c_X1_octet (PK_of (wB_o di1 di2 hi0) (wB_o di3 di4 hi1) hniN hNi) (k := 36) (by omega)) kw3_130 yv_X1_octet ⟨Nat.le_of_ble_eq_true rfl, Nat.le_of_ble_eq_true rfl⟩ hK hP (va_recv hK hP (ci := 2) (q0 := ki) rfl (wB_o di1 di2 hi0)) rfl hl.1 rfl (Nat.le_of_ble_eq_true rfl) dX3_withinToSix_41 ⟨Nat.zero_le _, Nat.zero_le _⟩ ?_
  have hq41 := tg_rd_lt fi ni 36
  refine wr_S S (c_X3_putSixHead (wB_b hne hb0) (wB_a ha0) (by omega) hN (a := 48) (tr := tg_rd fi ni 29) (pl := (tg_pr (tg_rd fi ni) 30 + 4294967296 - 20) % 4294967296) (q := pt) (hp := tg_rd fi ni 36) (by omega) (by omega) (by omega) (by omega) (by omega)) kw3_203 yv_X3_putSixHead ⟨Nat.le_of_ble_eq_true rfl, Nat.le_of_ble_eq_true rfl⟩ hK hP hD hS hA rfl hl.1 rfl (Nat.le_of_ble_eq_true rfl) dX3_withinToSix_44 ⟨Nat.zero_le _, Nat.zero_le _⟩ (fun g_1 H locs hg_1 hP hD hS => ?_)
  rw [wB_wB hne] at hP hD
  refine W.eq (g2 := F0 m 47 ls []) rfl ?_
  refine lv_aload_n hx hb dX3_withinToSix_47 rfl (lv_at hl 5 rfl) ?_
  refine nv_bipush (k := 56) hx hb dX3_withinToSix_48 (by decide) ?_
  refine lv_aload_n hx hb dX3_withinToSix_50 rfl (lv_at hl 6 rfl) ?_
  refine wr_S S (c_X3_putInner (wB_b hne hb0) (wB_a ha0) (by omega) hN (wB_o dw1 dw2 hw0) hpt hih hil hip hop dw1 dw2 (a := 56) (by omega)) kw3_216 yv_X3_putInner ⟨Nat.le_of_ble_eq_true rfl, Nat.le_of_ble_eq_true rfl⟩ hK hP hD hS hA rfl hl.1 rfl (Nat.le_of_ble_eq_true rfl) dX3_withinToSix_51 ⟨Nat.zero_le _, Nat.zero_le _⟩ (fun g_2 H locs hg_2 hP hD hS => ?_)
  rw [wB_wB hne] at hP hD
  refine W.eq (g2 := F0 m 54 ls []) rfl ?_
  refine lv_aload_n hx hb dX3_withinToSix_54 rfl (lv_at hl 5 rfl) ?_
  refine nv_bipush (k := 72) hx hb dX3_withinToSix_55 (by decide) ?_
  refine lv_aload_n hx hb dX3_withinToSix_57 rfl (lv_at hl 4 rfl) ?_
  refine nv_bipush (k := 44) hx hb dX3_withinToSix_58 (by decide) ?_
  refine ro_V S (c_X1_quad (PK_of (wB_o di1 di2 hi0) (wB_o di3 di4 hi1) hniN hNi) (a := 44) (by omega)) kw3_206 yv_X1_quad ⟨Nat.le_of_ble_eq_true rfl, Nat.le_of_ble_eq_true rfl⟩ hK hP (va_recv hK hP (ci := 2) (q0 := ki) rfl (wB_o di1 di2 hi0)) rfl hl.1 rfl (Nat.le_of_ble_eq_true rfl) dX3_withinToSix_60 ⟨Nat.zero_le _, Nat.zero_le _⟩ ?_
  have hq60 := tg_qd_lt fi ni 44
  refine lv_aload_n hx hb dX3_withinToSix_63 rfl (lv_at hl 7 rfl) ?_
  refine wr_S S (c_X3_putEmbedded (wB_b hne hb0) (wB_a ha0) (by omega) hN (wB_o ds1 ds2 hs0) hsi ds1 ds2 (a := 72) (x := tg_qd (tg_rd fi ni) 44) (by omega) (by omega)) kw3_207 yv_X3_putEmbedded ⟨Nat.le_of_ble_eq_true rfl, Nat.le_of_ble_eq_true rfl⟩ hK hP hD hS hA rfl hl.1 rfl (Nat.le_of_ble_eq_true rfl) dX3_withinToSix_64 ⟨Nat.zero_le _, Nat.zero_le _⟩ (fun g_3 H locs hg_3 hP hD hS => ?_)
  rw [wB_wB hne] at hP hD
  refine W.eq (g2 := F0 m 67 ls []) rfl ?_
  refine lv_aload_n hx hb dX3_withinToSix_67 rfl (lv_at hl 5 rfl) ?_
  refine lv_aload_n hx hb dX3_withinToSix_68 rfl (lv_at hl 4 rfl) ?_
  refine nv_bipush (k := 48) hx hb dX3_withinToSix_69 (by decide) ?_
  refine lv_iload hx hb dX3_withinToSix_71 (lv_at hl 1 rfl) ?_
  refine lv_aload_n hx hb dX3_withinToSix_73 rfl (lv_at hl 5 rfl) ?_
  refine ro_V S (c_X1_length (PK_of (wB_b hne hb0) (wB_a ha0) (by omega) hN)) kw3_119 yv_X1_length ⟨Nat.le_of_ble_eq_true rfl, Nat.le_of_ble_eq_true rfl⟩ hK hP (va_recv hK hP (ci := 2) (q0 := kb) rfl (wB_b hne hb0)) rfl hl.1 rfl (Nat.le_of_ble_eq_true rfl) dX3_withinToSix_74 ⟨Nat.zero_le _, Nat.zero_le _⟩ ?_
  refine lv_iload hx hb dX3_withinToSix_77 (lv_at hl 1 rfl) ?_
  refine nv_isub hx hb (by omega) dX3_withinToSix_79 ?_
  refine wr_V S (c_X1_copy (wB_b hne hb0) (wB_a ha0) (by omega) hN (wB_o di1 di2 hi0) (wB_o di3 di4 hi1) hniN hNi di1 di2 di3 di4 (a := 48) (z := 88) (k := n - 88) (by omega) (by omega)) kw3_135 yv_X1_copy ⟨Nat.le_of_ble_eq_true rfl, Nat.le_of_ble_eq_true rfl⟩ hK hP hD hS hA (va_recv hK hP (ci := 2) (q0 := kb) rfl (wB_b hne hb0)) rfl hl.1 rfl (Nat.le_of_ble_eq_true rfl) dX3_withinToSix_80 ⟨Nat.zero_le _, Nat.zero_le _⟩ (fun g_4 H locs hg_4 hP hD hS => ?_)
  rw [wB_wB hne] at hP hD
  refine W.eq (g2 := F0 m 83 ls []) rfl ?_
  refine lv_aload_n hx hb dX3_withinToSix_83 rfl (lv_at hl 5 rfl) ?_
  refine lv_iload hx hb dX3_withinToSix_84 (lv_at hl 1 rfl) ?_
  refine lv_iload hx hb dX3_withinToSix_86 (lv_at hl 3 rfl) ?_
  refine ro_S S (c_X4_sourcePortAt (q := pt) (by omega)) kw3_140 yv_X4_sourcePortAt ⟨Nat.le_of_ble_eq_true rfl, Nat.le_of_ble_eq_true rfl⟩ hK hP rfl hl.1 rfl (Nat.le_of_ble_eq_true rfl) dX3_withinToSix_88 ⟨Nat.zero_le _, Nat.zero_le _⟩ ?_
  have hq88 := tg_spa_le pt
  refine nv_iadd hx hb dX3_withinToSix_91 ?_
  refine lv_aload_n hx hb dX3_withinToSix_92 rfl (lv_at hl 6 rfl) ?_
  refine va_get (ci := 1) (C := RX0) (T := TX0) (N := 6) hx hb ht iFX0 hown hK hP kw (wB_o dw1 dw2 hw0) rfl 3 (by decide) (ht _ kw3_4) (fun _ h9 => h9) rfl dX3_withinToSix_93 ?_
  refine wr_V S (c_X1_putPair (wB_b hne hb0) (wB_a ha0) (by omega) hN (a := 88 + (tg_spa pt)) (x := ip) (by omega) (by omega)) kw3_126 yv_X1_putPair ⟨Nat.le_of_ble_eq_true rfl, Nat.le_of_ble_eq_true rfl⟩ hK hP hD hS hA (va_recv hK hP (ci := 2) (q0 := kb) rfl (wB_b hne hb0)) rfl hl.1 rfl (Nat.le_of_ble_eq_true rfl) dX3_withinToSix_96 ⟨Nat.zero_le _, Nat.zero_le _⟩ (fun g_5 H locs hg_5 hP hD hS => ?_)
  rw [wB_wB hne] at hP hD
  refine W.eq (g2 := F0 m 99 ls []) rfl ?_
  refine lv_iload hx hb dX3_withinToSix_99 (lv_at hl 3 rfl) ?_
  refine nv_iconst (k := 1) hx hb dX3_withinToSix_101 rfl ?_
  refine nv_icmp_ne (tgt := 114) hx hb dX3_withinToSix_102 (by decide) (by omega) (by omega) (fun h102 => ?_) (fun h102 => ?_)
  · skip
    exact hend _ (by rw [hg_5, hg_4, hg_3, hg_2, hg_1]; unfold tg_wi tg_wi1; (first | rw [if_pos h102] | rw [if_neg h102]) <;> rfl) hP hD hS dX3_withinToSix_114
  refine lv_aload_n hx hb dX3_withinToSix_105 rfl (lv_at hl 5 rfl) ?_
  refine lv_iload hx hb dX3_withinToSix_106 (lv_at hl 1 rfl) ?_
  refine nv_sipush (k := 128) hx hb dX3_withinToSix_108 (by decide) ?_
  refine wr_V S (c_X1_put (wB_b hne hb0) (wB_a ha0) (by omega) hN (k := 88) (x := nI (128)) (by omega)) kw3_121 yv_X1_put ⟨Nat.le_of_ble_eq_true rfl, Nat.le_of_ble_eq_true rfl⟩ hK hP hD hS hA (va_recv hK hP (ci := 2) (q0 := kb) rfl (wB_b hne hb0)) rfl hl.1 rfl (Nat.le_of_ble_eq_true rfl) dX3_withinToSix_111 ⟨Nat.zero_le _, Nat.zero_le _⟩ (fun g_6 H locs hg_6 hP hD hS => ?_)
  rw [wB_wB hne] at hP hD
  rw [by8_nI] at hg_6
  refine W.eq (g2 := F0 m 114 ls []) rfl ?_
  exact hend _ (by rw [hg_6, hg_5, hg_4, hg_3, hg_2, hg_1]; unfold tg_wi tg_wi1; (first | rw [if_pos h102] | rw [if_neg h102]) <;> rfl) hP hD hS dX3_withinToSix_114
end
section
/-! THE MODEL'S READERS: the same words for what they answer -/
/-- a byte array of the model in the world: its bytes f, of which the first n are meant -/
def AR (cy : Nat → ClassId) (ws : va_W) (ro : Nat) (f : Nat → UInt8) (n : Nat) : Prop := ∃ kr N : Nat, ws[kr]? = some (ro, .inl (cy 0, N, .inl (bt f))) ∧ n ≤ N ∧ N ≤ 1700
theorem lN_wshl {x : Nat} (h : x < 2 ^ 32) : (nI x).toInt64 <<< ((nI 32).toInt64 &&& 63) = lN (x * 2 ^ 32) := by
  obtain ⟨y, hy, e⟩ := lN_of (nI x).toInt64
  have h1 := w_low h
  rw [e, lN_toNat hy] at h1
  rw [e, lN_shl (by decide)]
  apply Int64.toBitVec_inj.mp
  apply BitVec.eq_of_toNat_eq
  show (BitVec.ofNat 64 (y * 2 ^ 32)).toNat = (BitVec.ofNat 64 (x * 2 ^ 32)).toNat
  rw [BitVec.toNat_ofNat, BitVec.toNat_ofNat]
  omega
theorem lN_shr {a k : Nat} (ha : a < 2 ^ 63) (hk : k < 64) : lN a >>> ((nI k).toInt64 &&& 63) = lN (a / 2 ^ k) := by
  have h : ∀ k : Nat, k < 64 → (((nI k).toInt64 &&& 63 : Int64).toBitVec.smod 64).toNat = k := by decide +kernel
  apply Int64.toBitVec_inj.mp
  have h2 : (lN a >>> ((nI k).toInt64 &&& 63)).toBitVec = (lN a).toBitVec.sshiftRight (((nI k).toInt64 &&& 63 : Int64).toBitVec.smod 64).toNat := rfl
  have hm : (lN a).toBitVec.msb = false := by
    rw [BitVec.msb_eq_false_iff_two_mul_lt, lN_toNat (by omega)]
    omega
  rw [h2, h k hk, BitVec.sshiftRight_eq_of_msb_false hm]
  apply BitVec.eq_of_toNat_eq
  rw [BitVec.toNat_ushiftRight, lN_toNat (by omega), Nat.shiftRight_eq_div_pow, lN_toNat (Nat.lt_of_le_of_lt (Nat.div_le_self _ _) (by omega))]
section NV5
variable {p : Program} {l : Launch} {e : Env} {R : Room} {s : State} {m : MethodId} {args : Array Value} {below : List Frame} {meth : Method} {c : Code} {H : Heap} {locs : List Loc} {cells slots : Nat} {Q : State → Prop}
variable {cc : ByteArray} {pc : Nat} {ls : Array Slot} {rest : List Value} {a b : Nat} {off : Int} {tgt : Nat}
theorem nv_wshl (hx : p.tables.exec = Jvm.exec) (hb : c.code = cc) (ha : a < 2 ^ 32) (hdg : decode cc pc = .ok (.lshl, 1)) (kk : W p l e R s m args below meth c H locs cells slots Q (F0 m (pc + 1) ls (.long (lN (a * 2 ^ 32)) :: rest))) : W p l e R s m args below meth c H locs cells slots Q (F0 m pc ls (.int (nI 32) :: .long ((nI a).toInt64) :: rest)) :=
  lv_lshl hx hb hdg (lN_wshl ha) kk
theorem nv_lshr (hx : p.tables.exec = Jvm.exec) (hb : c.code = cc) (ha : a < 2 ^ 63) (hk : b < 64) (hdg : decode cc pc = .ok (.lshr, 1)) (kk : W p l e R s m args below meth c H locs cells slots Q (F0 m (pc + 1) ls (.long (lN (a / 2 ^ b)) :: rest))) : W p l e R s m args below meth c H locs cells slots Q (F0 m pc ls (.int (nI b) :: .long (lN a) :: rest)) :=
  lv_lshr hx hb hdg (lN_shr ha hk) kk
theorem nv_Lcmp_le (hx : p.tables.exec = Jvm.exec) (hb : c.code = cc) (hd1 : decode cc pc = .ok (.lcmp, 1)) (hd2 : decode cc (pc + 1) = .ok (.ifCond .le off, 3)) (ht : ((pc + 1 : Nat) : Int) + off = (tgt : Int)) (h1 : a < 2 ^ 63) (h2 : b < 2 ^ 63)
    (kt : a ≤ b → W p l e R s m args below meth c H locs cells slots Q (F0 m tgt ls rest)) (kf : b < a → W p l e R s m args below meth c H locs cells slots Q (F0 m (pc + 4) ls rest)) : W p l e R s m args below meth c H locs cells slots Q (F0 m pc ls (.long (lN b) :: .long (lN a) :: rest)) :=
  nv_lcmp_le hx hb hd1 hd2 ht (fun h => kt ((pk_lLE h1 h2).mp h)) (fun h => kf (Nat.lt_of_not_le (fun z => h ((pk_lLE h1 h2).mpr z))))
theorem nv_Lcmp_lt (hx : p.tables.exec = Jvm.exec) (hb : c.code = cc) (hd1 : decode cc pc = .ok (.lcmp, 1)) (hd2 : decode cc (pc + 1) = .ok (.ifCond .lt off, 3)) (ht : ((pc + 1 : Nat) : Int) + off = (tgt : Int)) (h1 : a < 2 ^ 63) (h2 : b < 2 ^ 63)
    (kt : a < b → W p l e R s m args below meth c H locs cells slots Q (F0 m tgt ls rest)) (kf : b ≤ a → W p l e R s m args below meth c H locs cells slots Q (F0 m (pc + 4) ls rest)) : W p l e R s m args below meth c H locs cells slots Q (F0 m pc ls (.long (lN b) :: .long (lN a) :: rest)) :=
  nv_lcmp_lt hx hb hd1 hd2 ht (fun h => kt ((pk_lLT h1 h2).mp h)) (fun h => kf (Nat.le_of_not_lt (fun z => h ((pk_lLT h1 h2).mpr z))))
theorem nv_Lcmp_ge (hx : p.tables.exec = Jvm.exec) (hb : c.code = cc) (hd1 : decode cc pc = .ok (.lcmp, 1)) (hd2 : decode cc (pc + 1) = .ok (.ifCond .ge off, 3)) (ht : ((pc + 1 : Nat) : Int) + off = (tgt : Int)) (h1 : a < 2 ^ 63) (h2 : b < 2 ^ 63)
    (kt : b ≤ a → W p l e R s m args below meth c H locs cells slots Q (F0 m tgt ls rest)) (kf : a < b → W p l e R s m args below meth c H locs cells slots Q (F0 m (pc + 4) ls rest)) : W p l e R s m args below meth c H locs cells slots Q (F0 m pc ls (.long (lN b) :: .long (lN a) :: rest)) :=
  nv_lcmp_ge hx hb hd1 hd2 ht (fun h => kt ((pk_lLE h2 h1).mp h)) (fun h => kf (Nat.lt_of_not_le (fun z => h ((pk_lLE h2 h1).mpr z))))
end NV5
/-- the sum of words, two bytes at a time -/
theorem tg_ws_2 {h : Nat → Nat} {a z j : Nat} (h1 : a + 2 * j ≠ z + 1) (h2 : a + 2 * j + 1 ≠ z) : tg_ws h a z (2 * (j + 1)) = tg_ws h a z (2 * j) + (if a + 2 * j = z then 0 else tg_pr h (a + 2 * j)) := by
  rw [show 2 * (j + 1) = 2 * j + 1 + 1 by omega]
  simp only [tg_ws, tg_pr]
  rw [show a + (2 * j + 1) = a + 2 * j + 1 by omega]
  have e1 : (2 * j + 1) % 2 = 1 := by omega
  have e2 : (2 * j) % 2 = 0 := by omega
  by_cases hz : a + 2 * j = z
  · simp [hz]
  · rw [if_neg (by omega), if_pos e2, if_neg (by omega), if_neg (by omega), if_neg hz]
    omega
theorem sk_m1 {a m z : Nat} (h : a + 2 * m ≤ z) (hs : z < 2 ^ 30) : ∀ j, j < m → (nI (a + 2 * j) = -1 ↔ a + 2 * j = z) := fun j hj => ⟨fun e => by
    exfalso
    have h1 := nI_toInt (n := a + 2 * j) (by omega)
    rw [e] at h1
    have h2 : (-1 : Int32).toInt = -1 := by decide
    omega, fun e => by omega⟩
theorem sk_n {a m k : Nat} (h : a + 2 * m < 2 ^ 30) (hk : k < 2 ^ 30) : ∀ j, j < m → (nI (a + 2 * j) = nI k ↔ a + 2 * j = k) := fun j hj => nI_eq (by omega) (by omega)
theorem tg_ws_leN {h : Nat → Nat} (hh : ∀ i, h i < 256) (a z : Nat) : ∀ k, tg_ws h a z k ≤ 65280 * k
  | 0 => Nat.le_refl _
  | k + 1 => by
    have h1 := tg_ws_leN hh a z k
    have h2 := hh (a + k)
    unfold tg_ws
    (repeat' split) <;> omega
end
section
theorem by8of {a k : Nat} (ha : a < 2 ^ 64) (hk : k ≤ 56) : (lN a >>> ((nI k).toInt64 &&& 63)).toInt32 &&& nI 255 = nI (a / 2 ^ k % 256) := by
  have h : ∀ k : Nat, k < 64 → (((nI k).toInt64 &&& 63 : Int64).toBitVec.smod 64).toNat = k := by decide +kernel
  rw [pk_and _ 8 (by decide)]
  congr 1
  have h2 : (lN a >>> ((nI k).toInt64 &&& 63)).toInt32.toBitVec = ((lN a).toBitVec.sshiftRight (((nI k).toInt64 &&& 63 : Int64).toBitVec.smod 64).toNat).signExtend 32 := rfl
  rw [h2, h k (by omega)]
  have h3 : (((lN a).toBitVec.sshiftRight k).signExtend 32).setWidth 8 = ((lN a).toBitVec >>> k).setWidth 8 := by
    apply BitVec.eq_of_getLsbD_eq
    intro i hi
    rw [BitVec.getLsbD_setWidth, BitVec.getLsbD_setWidth, BitVec.getLsbD_signExtend, BitVec.getLsbD_sshiftRight, BitVec.getLsbD_ushiftRight]
    simp [hi, show i < 32 by omega, show i < 64 by omega, show ¬ 64 ≤ i by omega, show k + i < 64 by omega]
  have h4 := congrArg BitVec.toNat h3
  rw [BitVec.toNat_setWidth, BitVec.toNat_setWidth, BitVec.toNat_ushiftRight, lN_toNat ha, Nat.shiftRight_eq_div_pow] at h4
  exact h4
def tg_isIn (v lo hi : Int64) : Bool := decide (lo ≤ v ∧ v ≤ hi)
def tg_pl (bits i : Nat) : Nat := if bits < 96 ∧ 8 ≤ bits / 8 + i then bits / 8 + i + 1 else bits / 8 + i
def tg_by (hi lo i : Nat) : Nat := if i < 8 then hi / 2 ^ (56 - 8 * i) % 256 else lo / 2 ^ (120 - 8 * i) % 256
theorem tg_by_lt (hi lo i : Nat) : tg_by hi lo i < 256 := by unfold tg_by; split <;> omega
def tg_db (bits hi lo : Nat) : Nat → Nat
  | 0 => 0
  | i + 1 => tg_db bits hi lo i * 256 + tg_by hi lo (tg_pl bits i)
theorem tg_db_lt (bits hi lo : Nat) : tg_db bits hi lo 1 < 2 ^ 8 ∧ tg_db bits hi lo 2 < 2 ^ 16 ∧ tg_db bits hi lo 3 < 2 ^ 24 ∧ tg_db bits hi lo 4 < 2 ^ 32 := by
  have h0 := tg_by_lt hi lo (tg_pl bits 0)
  have h1 := tg_by_lt hi lo (tg_pl bits 1)
  have h2 := tg_by_lt hi lo (tg_pl bits 2)
  have h3 := tg_by_lt hi lo (tg_pl bits 3)
  simp only [tg_db]
  omega
theorem tg_db_4 {bits hi lo : Nat} (hb : bits = 32 ∨ bits = 40 ∨ bits = 48 ∨ bits = 56 ∨ bits = 64 ∨ bits = 96) : tg_db bits hi lo 4 = tg_dr bits hi lo := by
  rcases hb with rfl | rfl | rfl | rfl | rfl | rfl <;> simp [tg_db, tg_by, tg_pl, tg_dr] <;> omega
def tg_bad (h : Nat → Nat) (n hd q : Nat) : Bool := decide ((q = 6 ∧ ¬ (20 ≤ n - hd ∧ 5 ≤ h (hd + 12) / 16 ∧ 4 * (h (hd + 12) / 16) ≤ n - hd)) ∨ (q ≠ 6 ∧ (n - hd < 8 ∨ (q = 17 ∧ tg_pr h (hd + 4) ≠ n - hd))))
def tg_badErr (h : Nat → Nat) (n : Nat) : Bool := decide (¬ ((h 20 = 3 ∧ h 21 ≠ 2 ∧ h 21 ≠ 14 ∧ h 21 < 16) ∨ (h 20 ≠ 3 ∧ h 21 < 2)) ∨ n < 56 ∨ h 28 ≠ 69 ∨ (h 37 ≠ 1 ∧ h 37 ≠ 6 ∧ h 37 ≠ 17) ∨ (h 37 = 1 ∧ h 48 ≠ 8))
theorem kn6_f {h : Nat → Nat} {n : Nat} (hz : (h 6 ≠ 6 ∧ h 6 ≠ 17 ∧ h 6 ≠ 58) ∨ tg_bad h n 40 (h 6) = true ∨ (h 6 = 58 ∧ h 40 ≠ 128 ∧ h 40 ≠ 129)) : tg_kn6 h n = false := by
  simp only [tg_kn6, tg_tcp, tg_udp, tg_echo6, tg_bad, decide_eq_true_eq] at *
  (repeat' split) <;> first | rfl | (exact decide_eq_false (by omega)) | (exfalso; omega)
theorem kn6_t {h : Nat → Nat} {n : Nat} (h1 : h 6 = 6 ∨ h 6 = 17 ∨ h 6 = 58) (h2 : tg_bad h n 40 (h 6) = false) (h3 : h 6 = 58 → h 40 = 128 ∨ h 40 = 129) : tg_kn6 h n = true := by
  simp only [tg_kn6, tg_tcp, tg_udp, tg_echo6, tg_bad, decide_eq_false_iff_not] at *
  (repeat' split) <;> first | (exact decide_eq_true (by omega)) | (exfalso; omega)
theorem kn4_f {h : Nat → Nat} {n : Nat} (hz : tg_pr h 6 % 2 ^ 14 ≠ 0 ∨ (h 9 ≠ 1 ∧ h 9 ≠ 6 ∧ h 9 ≠ 17) ∨ tg_bad h n 20 (h 9) = true ∨ (h 9 = 1 ∧ h 20 ≠ 0 ∧ h 20 ≠ 8 ∧ tg_isErr h = false) ∨ (tg_isErr h = true ∧ tg_badErr h n = true)) : tg_kn4 h n = false := by
  simp only [tg_kn4, tg_tcp, tg_udp, tg_kicmp4, tg_within, tg_isErr, tg_bad, tg_badErr, decide_eq_true_eq, decide_eq_false_iff_not] at *
  (repeat' split) <;> first | rfl | (exact decide_eq_false (by omega)) | (exfalso; omega) | (rw [Bool.and_eq_false_iff, decide_eq_false_iff_not, decide_eq_false_iff_not]; omega)
theorem kn4_t {h : Nat → Nat} {n : Nat} (h0 : tg_pr h 6 % 2 ^ 14 = 0) (h1 : h 9 = 1 ∨ h 9 = 6 ∨ h 9 = 17) (h2 : tg_bad h n 20 (h 9) = false) (h3 : h 9 = 1 → h 20 = 0 ∨ h 20 = 8 ∨ tg_isErr h = true) (h4 : tg_isErr h = true → tg_badErr h n = false) : tg_kn4 h n = true := by
  simp only [tg_kn4, tg_tcp, tg_udp, tg_kicmp4, tg_within, tg_isErr, tg_bad, tg_badErr, decide_eq_true_eq, decide_eq_false_iff_not] at *
  (repeat' split) <;> first | rfl | (exact decide_eq_true (by omega)) | (exfalso; omega) | (rw [Bool.and_eq_true, decide_eq_true_eq, decide_eq_true_eq]; omega)
theorem isOdd_num {k u : Nat} (hu : u < 2 ^ 31) : tg_num k u < 0 ↔ ¬ k < u := by
  unfold tg_num
  by_cases h : k < u
  · rw [if_pos h]; exact ⟨fun z => absurd z (nI_pos (by omega)), fun z => absurd h z⟩
  · rw [if_neg h]; exact ⟨fun _ => h, fun _ => by decide⟩
end
