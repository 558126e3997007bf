section
/-- a private method of a class that the tables say can be made, by its rows of tables_1 -/
def lw_okq (q : MethodName × Nat) : Prop := (q.1.cls ≠ "java/lang/invoke/MethodHandle" ∧ q.1.cls ≠ "java/lang/invoke/VarHandle") ∧ Cond.instantiable q.1.cls q.2 ∈ tables_1 ∧ Cond.privateMethod q.1 ∈ tables_1 ∧ Cond.instanceMethod q.1 ∈ tables_1
theorem lw_p0 : lw_okq (⟨"MadeOf", "refuse", "(I)I"⟩, 15) := ⟨⟨by decide +kernel, by decide +kernel⟩, List.mem_of_getElem? (i := 22) (by decide +kernel), List.mem_of_getElem? (i := 311) (by decide +kernel), List.mem_of_getElem? (i := 312) (by decide +kernel)⟩
theorem lw_p1 : lw_okq (⟨"MadeOf", "accept", "(I)I"⟩, 15) := ⟨⟨by decide +kernel, by decide +kernel⟩, List.mem_of_getElem? (i := 22) (by decide +kernel), List.mem_of_getElem? (i := 319) (by decide +kernel), List.mem_of_getElem? (i := 320) (by decide +kernel)⟩
theorem lw_p2 : lw_okq (⟨"MadeOf", "isPart", "(I)Z"⟩, 15) := ⟨⟨by decide +kernel, by decide +kernel⟩, List.mem_of_getElem? (i := 22) (by decide +kernel), List.mem_of_getElem? (i := 330) (by decide +kernel), List.mem_of_getElem? (i := 331) (by decide +kernel)⟩
theorem lw_p3 : lw_okq (⟨"MadeOf", "isMake", "(I)Z"⟩, 15) := ⟨⟨by decide +kernel, by decide +kernel⟩, List.mem_of_getElem? (i := 22) (by decide +kernel), List.mem_of_getElem? (i := 358) (by decide +kernel), List.mem_of_getElem? (i := 359) (by decide +kernel)⟩
theorem lw_p4 : lw_okq (⟨"MadeOf", "isLink", "(I)Z"⟩, 15) := ⟨⟨by decide +kernel, by decide +kernel⟩, List.mem_of_getElem? (i := 22) (by decide +kernel), List.mem_of_getElem? (i := 370) (by decide +kernel), List.mem_of_getElem? (i := 371) (by decide +kernel)⟩
theorem lw_p5 : lw_okq (⟨"MadeOf", "whyNoPair", "(IIILMadeOf$Pairs;)I"⟩, 15) := ⟨⟨by decide +kernel, by decide +kernel⟩, List.mem_of_getElem? (i := 22) (by decide +kernel), List.mem_of_getElem? (i := 398) (by decide +kernel), List.mem_of_getElem? (i := 399) (by decide +kernel)⟩
theorem lw_p6 : lw_okq (⟨"MadeOf$Groups", "merge", "(I)V"⟩, 1) := ⟨⟨by decide +kernel, by decide +kernel⟩, List.mem_of_getElem? (i := 153) (by decide +kernel), List.mem_of_getElem? (i := 434) (by decide +kernel), List.mem_of_getElem? (i := 435) (by decide +kernel)⟩
theorem lw_p7 : lw_okq (⟨"MadeOf$Reader", "step", "()V"⟩, 6) := ⟨⟨by decide +kernel, by decide +kernel⟩, List.mem_of_getElem? (i := 180) (by decide +kernel), List.mem_of_getElem? (i := 467) (by decide +kernel), List.mem_of_getElem? (i := 468) (by decide +kernel)⟩
theorem lw_p8 : lw_okq (⟨"MadeOf$Reader", "kindAt", "(I)I"⟩, 6) := ⟨⟨by decide +kernel, by decide +kernel⟩, List.mem_of_getElem? (i := 180) (by decide +kernel), List.mem_of_getElem? (i := 471) (by decide +kernel), List.mem_of_getElem? (i := 472) (by decide +kernel)⟩
theorem lw_p9 : lw_okq (⟨"MadeOf$Reader", "takeWord", "(Ljava/lang/String;)Z"⟩, 6) := ⟨⟨by decide +kernel, by decide +kernel⟩, List.mem_of_getElem? (i := 180) (by decide +kernel), List.mem_of_getElem? (i := 476) (by decide +kernel), List.mem_of_getElem? (i := 477) (by decide +kernel)⟩
theorem lw_p10 : lw_okq (⟨"MadeOf$Reader", "takeNumber", "(I)Z"⟩, 6) := ⟨⟨by decide +kernel, by decide +kernel⟩, List.mem_of_getElem? (i := 180) (by decide +kernel), List.mem_of_getElem? (i := 528) (by decide +kernel), List.mem_of_getElem? (i := 529) (by decide +kernel)⟩
theorem lw_p11 : lw_okq (⟨"MadeOf$Reader", "valueAtHand", "()I"⟩, 6) := ⟨⟨by decide +kernel, by decide +kernel⟩, List.mem_of_getElem? (i := 180) (by decide +kernel), List.mem_of_getElem? (i := 532) (by decide +kernel), List.mem_of_getElem? (i := 533) (by decide +kernel)⟩
theorem lw_p12 : lw_okq (⟨"MadeOf$Reader", "readTest", "(LMadeOf$Warning;)Z"⟩, 6) := ⟨⟨by decide +kernel, by decide +kernel⟩, List.mem_of_getElem? (i := 180) (by decide +kernel), List.mem_of_getElem? (i := 548) (by decide +kernel), List.mem_of_getElem? (i := 549) (by decide +kernel)⟩
theorem lw_p13 : lw_okq (⟨"MadeOf$Reader", "takeSign", "(C)Z"⟩, 6) := ⟨⟨by decide +kernel, by decide +kernel⟩, List.mem_of_getElem? (i := 180) (by decide +kernel), List.mem_of_getElem? (i := 553) (by decide +kernel), List.mem_of_getElem? (i := 554) (by decide +kernel)⟩
theorem lw_p14 : lw_okq (⟨"MadeOf$Reader", "readVersion", "()Z"⟩, 6) := ⟨⟨by decide +kernel, by decide +kernel⟩, List.mem_of_getElem? (i := 180) (by decide +kernel), List.mem_of_getElem? (i := 557) (by decide +kernel), List.mem_of_getElem? (i := 558) (by decide +kernel)⟩
theorem lw_p15 : lw_okq (⟨"MadeOf", "isWarning", "(I)Z"⟩, 15) := ⟨⟨by decide +kernel, by decide +kernel⟩, List.mem_of_getElem? (i := 22) (by decide +kernel), List.mem_of_getElem? (i := 583) (by decide +kernel), List.mem_of_getElem? (i := 584) (by decide +kernel)⟩
def lw_privs_1 : List (MethodName × Nat) := [(⟨"MadeOf", "refuse", "(I)I"⟩, 15), (⟨"MadeOf", "accept", "(I)I"⟩, 15), (⟨"MadeOf", "isPart", "(I)Z"⟩, 15), (⟨"MadeOf", "isMake", "(I)Z"⟩, 15), (⟨"MadeOf", "isLink", "(I)Z"⟩, 15), (⟨"MadeOf", "whyNoPair", "(IIILMadeOf$Pairs;)I"⟩, 15), (⟨"MadeOf$Groups", "merge", "(I)V"⟩, 1), (⟨"MadeOf$Reader", "step", "()V"⟩, 6), (⟨"MadeOf$Reader", "kindAt", "(I)I"⟩, 6), (⟨"MadeOf$Reader", "takeWord", "(Ljava/lang/String;)Z"⟩, 6), (⟨"MadeOf$Reader", "takeNumber", "(I)Z"⟩, 6), (⟨"MadeOf$Reader", "valueAtHand", "()I"⟩, 6), (⟨"MadeOf$Reader", "readTest", "(LMadeOf$Warning;)Z"⟩, 6), (⟨"MadeOf$Reader", "takeSign", "(C)Z"⟩, 6), (⟨"MadeOf$Reader", "readVersion", "()Z"⟩, 6), (⟨"MadeOf", "isWarning", "(I)Z"⟩, 15)]
theorem lw_r1 : ∀ q ∈ lw_privs_1, lw_okq q := List.forall_mem_cons.mpr ⟨lw_p0, List.forall_mem_cons.mpr ⟨lw_p1, List.forall_mem_cons.mpr ⟨lw_p2, List.forall_mem_cons.mpr ⟨lw_p3, List.forall_mem_cons.mpr ⟨lw_p4, List.forall_mem_cons.mpr ⟨lw_p5, List.forall_mem_cons.mpr ⟨lw_p6, List.forall_mem_cons.mpr ⟨lw_p7, List.forall_mem_cons.mpr ⟨lw_p8, List.forall_mem_cons.mpr ⟨lw_p9, List.forall_mem_cons.mpr ⟨lw_p10, List.forall_mem_cons.mpr ⟨lw_p11, List.forall_mem_cons.mpr ⟨lw_p12, List.forall_mem_cons.mpr ⟨lw_p13, List.forall_mem_cons.mpr ⟨lw_p14, List.forall_mem_cons.mpr ⟨lw_p15, fun _ h => absurd h List.not_mem_nil⟩⟩⟩⟩⟩⟩⟩⟩⟩⟩⟩⟩⟩⟩⟩⟩
theorem lw_p16 : lw_okq (⟨"MadeOf", "badMakes", "(II)J"⟩, 15) := ⟨⟨by decide +kernel, by decide +kernel⟩, List.mem_of_getElem? (i := 22) (by decide +kernel), List.mem_of_getElem? (i := 587) (by decide +kernel), List.mem_of_getElem? (i := 588) (by decide +kernel)⟩
theorem lw_p17 : lw_okq (⟨"MadeOf", "trace", "(III)I"⟩, 15) := ⟨⟨by decide +kernel, by decide +kernel⟩, List.mem_of_getElem? (i := 22) (by decide +kernel), List.mem_of_getElem? (i := 599) (by decide +kernel), List.mem_of_getElem? (i := 600) (by decide +kernel)⟩
theorem lw_p18 : lw_okq (⟨"MadeOf", "hitMakes", "(IIZ)J"⟩, 15) := ⟨⟨by decide +kernel, by decide +kernel⟩, List.mem_of_getElem? (i := 22) (by decide +kernel), List.mem_of_getElem? (i := 603) (by decide +kernel), List.mem_of_getElem? (i := 604) (by decide +kernel)⟩
theorem lw_p19 : lw_okq (⟨"MadeOf$Ways", "holdersOf", "(J)J"⟩, 3) := ⟨⟨by decide +kernel, by decide +kernel⟩, List.mem_of_getElem? (i := 207) (by decide +kernel), List.mem_of_getElem? (i := 619) (by decide +kernel), List.mem_of_getElem? (i := 620) (by decide +kernel)⟩
theorem lw_p20 : lw_okq (⟨"MadeOf$Holdings", "isOf", "(IJI)Z"⟩, 6) := ⟨⟨by decide +kernel, by decide +kernel⟩, List.mem_of_getElem? (i := 99) (by decide +kernel), List.mem_of_getElem? (i := 647) (by decide +kernel), List.mem_of_getElem? (i := 648) (by decide +kernel)⟩
theorem lw_p21 : lw_okq (⟨"MadeOf", "groupsInside", "(III)I"⟩, 15) := ⟨⟨by decide +kernel, by decide +kernel⟩, List.mem_of_getElem? (i := 22) (by decide +kernel), List.mem_of_getElem? (i := 664) (by decide +kernel), List.mem_of_getElem? (i := 665) (by decide +kernel)⟩
theorem lw_p22 : lw_okq (⟨"MadeOf", "raiseQuestions", "(I)V"⟩, 15) := ⟨⟨by decide +kernel, by decide +kernel⟩, List.mem_of_getElem? (i := 22) (by decide +kernel), List.mem_of_getElem? (i := 682) (by decide +kernel), List.mem_of_getElem? (i := 683) (by decide +kernel)⟩
theorem lw_p23 : lw_okq (⟨"MadeOf", "makerOf", "(I)I"⟩, 15) := ⟨⟨by decide +kernel, by decide +kernel⟩, List.mem_of_getElem? (i := 22) (by decide +kernel), List.mem_of_getElem? (i := 693) (by decide +kernel), List.mem_of_getElem? (i := 694) (by decide +kernel)⟩
theorem lw_p24 : lw_okq (⟨"MadeOfModel", "ends", "(I)I"⟩, 48) := ⟨⟨by decide +kernel, by decide +kernel⟩, List.mem_of_getElem? (i := 722) (by decide +kernel), List.mem_of_getElem? (i := 880) (by decide +kernel), List.mem_of_getElem? (i := 881) (by decide +kernel)⟩
theorem lw_p25 : lw_okq (⟨"MadeOfModel", "isPart", "(I)Z"⟩, 48) := ⟨⟨by decide +kernel, by decide +kernel⟩, List.mem_of_getElem? (i := 722) (by decide +kernel), List.mem_of_getElem? (i := 891) (by decide +kernel), List.mem_of_getElem? (i := 892) (by decide +kernel)⟩
theorem lw_p26 : lw_okq (⟨"MadeOfModel", "found", "(II)I"⟩, 48) := ⟨⟨by decide +kernel, by decide +kernel⟩, List.mem_of_getElem? (i := 722) (by decide +kernel), List.mem_of_getElem? (i := 898) (by decide +kernel), List.mem_of_getElem? (i := 899) (by decide +kernel)⟩
theorem lw_p27 : lw_okq (⟨"MadeOfModel", "isMake", "(I)Z"⟩, 48) := ⟨⟨by decide +kernel, by decide +kernel⟩, List.mem_of_getElem? (i := 722) (by decide +kernel), List.mem_of_getElem? (i := 913) (by decide +kernel), List.mem_of_getElem? (i := 914) (by decide +kernel)⟩
theorem lw_p28 : lw_okq (⟨"MadeOfModel", "is", "(II)Z"⟩, 48) := ⟨⟨by decide +kernel, by decide +kernel⟩, List.mem_of_getElem? (i := 722) (by decide +kernel), List.mem_of_getElem? (i := 925) (by decide +kernel), List.mem_of_getElem? (i := 926) (by decide +kernel)⟩
theorem lw_p29 : lw_okq (⟨"MadeOfModel", "pairs", "(III)I"⟩, 48) := ⟨⟨by decide +kernel, by decide +kernel⟩, List.mem_of_getElem? (i := 722) (by decide +kernel), List.mem_of_getElem? (i := 937) (by decide +kernel), List.mem_of_getElem? (i := 938) (by decide +kernel)⟩
theorem lw_p30 : lw_okq (⟨"MadeOfModel", "gathers", "(I)V"⟩, 48) := ⟨⟨by decide +kernel, by decide +kernel⟩, List.mem_of_getElem? (i := 722) (by decide +kernel), List.mem_of_getElem? (i := 953) (by decide +kernel), List.mem_of_getElem? (i := 954) (by decide +kernel)⟩
theorem lw_p31 : lw_okq (⟨"MadeOfModel", "isQuarrel", "(III)Z"⟩, 48) := ⟨⟨by decide +kernel, by decide +kernel⟩, List.mem_of_getElem? (i := 722) (by decide +kernel), List.mem_of_getElem? (i := 957) (by decide +kernel), List.mem_of_getElem? (i := 958) (by decide +kernel)⟩
def lw_privs_2 : List (MethodName × Nat) := [(⟨"MadeOf", "badMakes", "(II)J"⟩, 15), (⟨"MadeOf", "trace", "(III)I"⟩, 15), (⟨"MadeOf", "hitMakes", "(IIZ)J"⟩, 15), (⟨"MadeOf$Ways", "holdersOf", "(J)J"⟩, 3), (⟨"MadeOf$Holdings", "isOf", "(IJI)Z"⟩, 6), (⟨"MadeOf", "groupsInside", "(III)I"⟩, 15), (⟨"MadeOf", "raiseQuestions", "(I)V"⟩, 15), (⟨"MadeOf", "makerOf", "(I)I"⟩, 15), (⟨"MadeOfModel", "ends", "(I)I"⟩, 48), (⟨"MadeOfModel", "isPart", "(I)Z"⟩, 48), (⟨"MadeOfModel", "found", "(II)I"⟩, 48), (⟨"MadeOfModel", "isMake", "(I)Z"⟩, 48), (⟨"MadeOfModel", "is", "(II)Z"⟩, 48), (⟨"MadeOfModel", "pairs", "(III)I"⟩, 48), (⟨"MadeOfModel", "gathers", "(I)V"⟩, 48), (⟨"MadeOfModel", "isQuarrel", "(III)Z"⟩, 48)]
theorem lw_r2 : ∀ q ∈ lw_privs_2, lw_okq q := List.forall_mem_cons.mpr ⟨lw_p16, List.forall_mem_cons.mpr ⟨lw_p17, List.forall_mem_cons.mpr ⟨lw_p18, List.forall_mem_cons.mpr ⟨lw_p19, List.forall_mem_cons.mpr ⟨lw_p20, List.forall_mem_cons.mpr ⟨lw_p21, List.forall_mem_cons.mpr ⟨lw_p22, List.forall_mem_cons.mpr ⟨lw_p23, List.forall_mem_cons.mpr ⟨lw_p24, List.forall_mem_cons.mpr ⟨lw_p25, List.forall_mem_cons.mpr ⟨lw_p26, List.forall_mem_cons.mpr ⟨lw_p27, List.forall_mem_cons.mpr ⟨lw_p28, List.forall_mem_cons.mpr ⟨lw_p29, List.forall_mem_cons.mpr ⟨lw_p30, List.forall_mem_cons.mpr ⟨lw_p31, fun _ h => absurd h List.not_mem_nil⟩⟩⟩⟩⟩⟩⟩⟩⟩⟩⟩⟩⟩⟩⟩⟩
theorem lw_p32 : lw_okq (⟨"MadeOfModel", "next", "()V"⟩, 48) := ⟨⟨by decide +kernel, by decide +kernel⟩, List.mem_of_getElem? (i := 722) (by decide +kernel), List.mem_of_getElem? (i := 977) (by decide +kernel), List.mem_of_getElem? (i := 978) (by decide +kernel)⟩
theorem lw_p33 : lw_okq (⟨"MadeOfModel", "isIn", "(III)Z"⟩, 48) := ⟨⟨by decide +kernel, by decide +kernel⟩, List.mem_of_getElem? (i := 722) (by decide +kernel), List.mem_of_getElem? (i := 981) (by decide +kernel), List.mem_of_getElem? (i := 982) (by decide +kernel)⟩
theorem lw_p34 : lw_okq (⟨"MadeOfModel", "isWord", "(J)Z"⟩, 48) := ⟨⟨by decide +kernel, by decide +kernel⟩, List.mem_of_getElem? (i := 722) (by decide +kernel), List.mem_of_getElem? (i := 986) (by decide +kernel), List.mem_of_getElem? (i := 987) (by decide +kernel)⟩
theorem lw_p35 : lw_okq (⟨"MadeOfModel", "faults", "()V"⟩, 48) := ⟨⟨by decide +kernel, by decide +kernel⟩, List.mem_of_getElem? (i := 722) (by decide +kernel), List.mem_of_getElem? (i := 992) (by decide +kernel), List.mem_of_getElem? (i := 993) (by decide +kernel)⟩
theorem lw_p36 : lw_okq (⟨"MadeOfModel", "good", "()Z"⟩, 48) := ⟨⟨by decide +kernel, by decide +kernel⟩, List.mem_of_getElem? (i := 722) (by decide +kernel), List.mem_of_getElem? (i := 996) (by decide +kernel), List.mem_of_getElem? (i := 997) (by decide +kernel)⟩
theorem lw_p37 : lw_okq (⟨"MadeOfModel", "number", "(I)I"⟩, 48) := ⟨⟨by decide +kernel, by decide +kernel⟩, List.mem_of_getElem? (i := 722) (by decide +kernel), List.mem_of_getElem? (i := 1000) (by decide +kernel), List.mem_of_getElem? (i := 1001) (by decide +kernel)⟩
theorem lw_p38 : lw_okq (⟨"MadeOfModel", "test", "()V"⟩, 48) := ⟨⟨by decide +kernel, by decide +kernel⟩, List.mem_of_getElem? (i := 722) (by decide +kernel), List.mem_of_getElem? (i := 1004) (by decide +kernel), List.mem_of_getElem? (i := 1005) (by decide +kernel)⟩
theorem lw_p39 : lw_okq (⟨"MadeOfModel", "isSign", "(I)Z"⟩, 48) := ⟨⟨by decide +kernel, by decide +kernel⟩, List.mem_of_getElem? (i := 722) (by decide +kernel), List.mem_of_getElem? (i := 1009) (by decide +kernel), List.mem_of_getElem? (i := 1010) (by decide +kernel)⟩
theorem lw_p40 : lw_okq (⟨"MadeOfModel", "puts", "(II)V"⟩, 48) := ⟨⟨by decide +kernel, by decide +kernel⟩, List.mem_of_getElem? (i := 722) (by decide +kernel), List.mem_of_getElem? (i := 1013) (by decide +kernel), List.mem_of_getElem? (i := 1014) (by decide +kernel)⟩
theorem lw_p41 : lw_okq (⟨"MadeOfModel", "reads", "()I"⟩, 48) := ⟨⟨by decide +kernel, by decide +kernel⟩, List.mem_of_getElem? (i := 722) (by decide +kernel), List.mem_of_getElem? (i := 1017) (by decide +kernel), List.mem_of_getElem? (i := 1018) (by decide +kernel)⟩
theorem lw_p42 : lw_okq (⟨"MadeOfModel", "isWarning", "(I)Z"⟩, 48) := ⟨⟨by decide +kernel, by decide +kernel⟩, List.mem_of_getElem? (i := 722) (by decide +kernel), List.mem_of_getElem? (i := 1031) (by decide +kernel), List.mem_of_getElem? (i := 1032) (by decide +kernel)⟩
theorem lw_p43 : lw_okq (⟨"MadeOfModel", "isBad", "(II)Z"⟩, 48) := ⟨⟨by decide +kernel, by decide +kernel⟩, List.mem_of_getElem? (i := 722) (by decide +kernel), List.mem_of_getElem? (i := 1035) (by decide +kernel), List.mem_of_getElem? (i := 1036) (by decide +kernel)⟩
theorem lw_p44 : lw_okq (⟨"MadeOfModel", "holds", "(II)Z"⟩, 48) := ⟨⟨by decide +kernel, by decide +kernel⟩, List.mem_of_getElem? (i := 722) (by decide +kernel), List.mem_of_getElem? (i := 1039) (by decide +kernel), List.mem_of_getElem? (i := 1040) (by decide +kernel)⟩
theorem lw_p45 : lw_okq (⟨"MadeOfModel", "hits", "(II)V"⟩, 48) := ⟨⟨by decide +kernel, by decide +kernel⟩, List.mem_of_getElem? (i := 722) (by decide +kernel), List.mem_of_getElem? (i := 1047) (by decide +kernel), List.mem_of_getElem? (i := 1048) (by decide +kernel)⟩
theorem lw_p46 : lw_okq (⟨"MadeOfModel", "spreads", "([IIZ)V"⟩, 48) := ⟨⟨by decide +kernel, by decide +kernel⟩, List.mem_of_getElem? (i := 722) (by decide +kernel), List.mem_of_getElem? (i := 1051) (by decide +kernel), List.mem_of_getElem? (i := 1052) (by decide +kernel)⟩
theorem lw_p47 : lw_okq (⟨"MadeOfModel", "hitOf", "(I)I"⟩, 48) := ⟨⟨by decide +kernel, by decide +kernel⟩, List.mem_of_getElem? (i := 722) (by decide +kernel), List.mem_of_getElem? (i := 1055) (by decide +kernel), List.mem_of_getElem? (i := 1056) (by decide +kernel)⟩
def lw_privs_3 : List (MethodName × Nat) := [(⟨"MadeOfModel", "next", "()V"⟩, 48), (⟨"MadeOfModel", "isIn", "(III)Z"⟩, 48), (⟨"MadeOfModel", "isWord", "(J)Z"⟩, 48), (⟨"MadeOfModel", "faults", "()V"⟩, 48), (⟨"MadeOfModel", "good", "()Z"⟩, 48), (⟨"MadeOfModel", "number", "(I)I"⟩, 48), (⟨"MadeOfModel", "test", "()V"⟩, 48), (⟨"MadeOfModel", "isSign", "(I)Z"⟩, 48), (⟨"MadeOfModel", "puts", "(II)V"⟩, 48), (⟨"MadeOfModel", "reads", "()I"⟩, 48), (⟨"MadeOfModel", "isWarning", "(I)Z"⟩, 48), (⟨"MadeOfModel", "isBad", "(II)Z"⟩, 48), (⟨"MadeOfModel", "holds", "(II)Z"⟩, 48), (⟨"MadeOfModel", "hits", "(II)V"⟩, 48), (⟨"MadeOfModel", "spreads", "([IIZ)V"⟩, 48), (⟨"MadeOfModel", "hitOf", "(I)I"⟩, 48)]
theorem lw_r3 : ∀ q ∈ lw_privs_3, lw_okq q := List.forall_mem_cons.mpr ⟨lw_p32, List.forall_mem_cons.mpr ⟨lw_p33, List.forall_mem_cons.mpr ⟨lw_p34, List.forall_mem_cons.mpr ⟨lw_p35, List.forall_mem_cons.mpr ⟨lw_p36, List.forall_mem_cons.mpr ⟨lw_p37, List.forall_mem_cons.mpr ⟨lw_p38, List.forall_mem_cons.mpr ⟨lw_p39, List.forall_mem_cons.mpr ⟨lw_p40, List.forall_mem_cons.mpr ⟨lw_p41, List.forall_mem_cons.mpr ⟨lw_p42, List.forall_mem_cons.mpr ⟨lw_p43, List.forall_mem_cons.mpr ⟨lw_p44, List.forall_mem_cons.mpr ⟨lw_p45, List.forall_mem_cons.mpr ⟨lw_p46, List.forall_mem_cons.mpr ⟨lw_p47, fun _ h => absurd h List.not_mem_nil⟩⟩⟩⟩⟩⟩⟩⟩⟩⟩⟩⟩⟩⟩⟩⟩
theorem lw_p48 : lw_okq (⟨"MadeOfModel", "nextOf", "(II[IZ)I"⟩, 48) := ⟨⟨by decide +kernel, by decide +kernel⟩, List.mem_of_getElem? (i := 722) (by decide +kernel), List.mem_of_getElem? (i := 1063) (by decide +kernel), List.mem_of_getElem? (i := 1064) (by decide +kernel)⟩
theorem lw_p49 : lw_okq (⟨"MadeOfModel", "hasOf", "(III)I"⟩, 48) := ⟨⟨by decide +kernel, by decide +kernel⟩, List.mem_of_getElem? (i := 722) (by decide +kernel), List.mem_of_getElem? (i := 1074) (by decide +kernel), List.mem_of_getElem? (i := 1075) (by decide +kernel)⟩
theorem lw_p50 : lw_okq (⟨"MadeOfModel", "hasLink", "(IIII)Z"⟩, 48) := ⟨⟨by decide +kernel, by decide +kernel⟩, List.mem_of_getElem? (i := 722) (by decide +kernel), List.mem_of_getElem? (i := 1086) (by decide +kernel), List.mem_of_getElem? (i := 1087) (by decide +kernel)⟩
theorem lw_p51 : lw_okq (⟨"MadeOfModel", "settles", "(II)Z"⟩, 48) := ⟨⟨by decide +kernel, by decide +kernel⟩, List.mem_of_getElem? (i := 722) (by decide +kernel), List.mem_of_getElem? (i := 1098) (by decide +kernel), List.mem_of_getElem? (i := 1099) (by decide +kernel)⟩
def lw_privs_4 : List (MethodName × Nat) := [(⟨"MadeOfModel", "nextOf", "(II[IZ)I"⟩, 48), (⟨"MadeOfModel", "hasOf", "(III)I"⟩, 48), (⟨"MadeOfModel", "hasLink", "(IIII)Z"⟩, 48), (⟨"MadeOfModel", "settles", "(II)Z"⟩, 48)]
theorem lw_r4 : ∀ q ∈ lw_privs_4, lw_okq q := List.forall_mem_cons.mpr ⟨lw_p48, List.forall_mem_cons.mpr ⟨lw_p49, List.forall_mem_cons.mpr ⟨lw_p50, List.forall_mem_cons.mpr ⟨lw_p51, fun _ h => absurd h List.not_mem_nil⟩⟩⟩⟩
def lw_privs : List (MethodName × Nat) := lw_privs_1 ++ (lw_privs_2 ++ (lw_privs_3 ++ (lw_privs_4)))
def lw_tbl : List Cond := k2_sels lw_privs ++ tables_1
theorem lw_privs_ok : ∀ q ∈ lw_privs, lw_okq q := by
  show ∀ q ∈ lw_privs_1 ++ (lw_privs_2 ++ (lw_privs_3 ++ (lw_privs_4))), lw_okq q
  exact List.forall_mem_append.mpr ⟨lw_r1, List.forall_mem_append.mpr ⟨lw_r2, List.forall_mem_append.mpr ⟨lw_r3, lw_r4⟩⟩⟩
def RX0 : String := "MadeOf$Groups"
def TX0 : u_T := fun k => match k with
  | _ => ("MadeOf$Groups", "members", "[I", true)
def tyX0 : Nat → FieldType := fun k => match k with
  | _ => .array .int
theorem nmX0 : ∀ a, a < 1 → ∀ b, b < 1 → a ≠ b → (TX0 a).2.1 ≠ (TX0 b).2.1 := by decide +kernel
theorem tyX0_ok : ∀ k, k < 1 → parseFieldDescriptor (TX0 k).2.2.1 = some (tyX0 k) := by decide +kernel
abbrev cX0_init : ByteArray := prog_2_method_1_code
def yX0_init : MethodName := ⟨RX0, "<init>", "()V"⟩
abbrev cX0_settle : ByteArray := prog_2_method_2_code
def yX0_settle : MethodName := ⟨RX0, "settle", "(LMadeOf$Pairs;LMadeOf$Pairs;I)I"⟩
abbrev cX0_merge : ByteArray := prog_2_method_3_code
def yX0_merge : MethodName := ⟨RX0, "merge", "(I)V"⟩
def RX1 : String := "MadeOf$Holdings"
def TX1 : u_T := fun k => match k with
  | 0 => ("MadeOf$Holdings", "site", "[I", true)
  | 1 => ("MadeOf$Holdings", "make", "[I", true)
  | 2 => ("MadeOf$Holdings", "from", "[I", true)
  | 3 => ("MadeOf$Holdings", "to", "[I", true)
  | 4 => ("MadeOf$Holdings", "knownFrom", "[I", true)
  | _ => ("MadeOf$Holdings", "size", "I", false)
def tyX1 : Nat → FieldType := fun k => match k with
  | 0 => .array .int
  | 1 => .array .int
  | 2 => .array .int
  | 3 => .array .int
  | 4 => .array .int
  | _ => .int
theorem nmX1 : ∀ a, a < 6 → ∀ b, b < 6 → a ≠ b → (TX1 a).2.1 ≠ (TX1 b).2.1 := by decide +kernel
theorem tyX1_ok : ∀ k, k < 6 → parseFieldDescriptor (TX1 k).2.2.1 = some (tyX1 k) := by decide +kernel
abbrev cX1_init : ByteArray := prog_3_method_1_code
def yX1_init : MethodName := ⟨RX1, "<init>", "()V"⟩
abbrev cX1_add : ByteArray := prog_3_method_2_code
def yX1_add : MethodName := ⟨RX1, "add", "(IIIII)I"⟩
abbrev cX1_sitesWith : ByteArray := prog_3_method_3_code
def yX1_sitesWith : MethodName := ⟨RX1, "sitesWith", "(JII)I"⟩
abbrev cX1_firstDay : ByteArray := prog_3_method_4_code
def yX1_firstDay : MethodName := ⟨RX1, "firstDay", "(IJI)I"⟩
abbrev cX1_isOf : ByteArray := prog_3_method_5_code
def yX1_isOf : MethodName := ⟨RX1, "isOf", "(IJI)Z"⟩
def RX2 : String := "MadeOf$Links"
def TX2 : u_T := fun k => match k with
  | 0 => ("MadeOf$Links", "from", "[I", true)
  | 1 => ("MadeOf$Links", "to", "[I", true)
  | 2 => ("MadeOf$Links", "sort", "[I", true)
  | 3 => ("MadeOf$Links", "knownFrom", "[I", true)
  | 4 => ("MadeOf$Links", "cutFrom", "[I", true)
  | _ => ("MadeOf$Links", "size", "I", false)
def tyX2 : Nat → FieldType := fun k => match k with
  | 0 => .array .int
  | 1 => .array .int
  | 2 => .array .int
  | 3 => .array .int
  | 4 => .array .int
  | _ => .int
theorem nmX2 : ∀ a, a < 6 → ∀ b, b < 6 → a ≠ b → (TX2 a).2.1 ≠ (TX2 b).2.1 := by decide +kernel
theorem tyX2_ok : ∀ k, k < 6 → parseFieldDescriptor (TX2 k).2.2.1 = some (tyX2 k) := by decide +kernel
abbrev cX2_init : ByteArray := prog_4_method_1_code
def yX2_init : MethodName := ⟨RX2, "<init>", "()V"⟩
abbrev cX2_add : ByteArray := prog_4_method_2_code
def yX2_add : MethodName := ⟨RX2, "add", "(IIII)I"⟩
abbrev cX2_isCut : ByteArray := prog_4_method_3_code
def yX2_isCut : MethodName := ⟨RX2, "isCut", "(I)Z"⟩
abbrev cX2_isLive : ByteArray := prog_4_method_4_code
def yX2_isLive : MethodName := ⟨RX2, "isLive", "(II)Z"⟩
def RX3 : String := "MadeOf$Makes"
def TX3 : u_T := fun k => match k with
  | 0 => ("MadeOf$Makes", "part", "[I", true)
  | 1 => ("MadeOf$Makes", "version", "[I", true)
  | _ => ("MadeOf$Makes", "size", "I", false)
def tyX3 : Nat → FieldType := fun k => match k with
  | 0 => .array .int
  | 1 => .array .int
  | _ => .int
theorem nmX3 : ∀ a, a < 3 → ∀ b, b < 3 → a ≠ b → (TX3 a).2.1 ≠ (TX3 b).2.1 := by decide +kernel
theorem tyX3_ok : ∀ k, k < 3 → parseFieldDescriptor (TX3 k).2.2.1 = some (tyX3 k) := by decide +kernel
abbrev cX3_init : ByteArray := prog_5_method_1_code
def yX3_init : MethodName := ⟨RX3, "<init>", "()V"⟩
abbrev cX3_add : ByteArray := prog_5_method_2_code
def yX3_add : MethodName := ⟨RX3, "add", "(II)I"⟩
abbrev cX3_search : ByteArray := prog_5_method_3_code
def yX3_search : MethodName := ⟨RX3, "search", "(II)I"⟩
def RX4 : String := "MadeOf$Pairs"
def TX4 : u_T := fun k => match k with
  | 0 => ("MadeOf$Pairs", "a", "[I", true)
  | 1 => ("MadeOf$Pairs", "b", "[I", true)
  | 2 => ("MadeOf$Pairs", "undone", "[Z", true)
  | 3 => ("MadeOf$Pairs", "knownFrom", "[I", true)
  | _ => ("MadeOf$Pairs", "size", "I", false)
def tyX4 : Nat → FieldType := fun k => match k with
  | 0 => .array .int
  | 1 => .array .int
  | 2 => .array .boolean
  | 3 => .array .int
  | _ => .int
theorem nmX4 : ∀ a, a < 5 → ∀ b, b < 5 → a ≠ b → (TX4 a).2.1 ≠ (TX4 b).2.1 := by decide +kernel
theorem tyX4_ok : ∀ k, k < 5 → parseFieldDescriptor (TX4 k).2.2.1 = some (tyX4 k) := by decide +kernel
abbrev cX4_init : ByteArray := prog_6_method_1_code
def yX4_init : MethodName := ⟨RX4, "<init>", "()V"⟩
abbrev cX4_add : ByteArray := prog_6_method_2_code
def yX4_add : MethodName := ⟨RX4, "add", "(III)I"⟩
abbrev cX4_isLive : ByteArray := prog_6_method_3_code
def yX4_isLive : MethodName := ⟨RX4, "isLive", "(II)Z"⟩
abbrev cX4_hasOneWithin : ByteArray := prog_6_method_4_code
def yX4_hasOneWithin : MethodName := ⟨RX4, "hasOneWithin", "(II)Z"⟩
def RX5 : String := "MadeOf$Parts"
def TX5 : u_T := fun k => match k with
  | 0 => ("MadeOf$Parts", "maker", "[I", true)
  | _ => ("MadeOf$Parts", "size", "I", false)
def tyX5 : Nat → FieldType := fun k => match k with
  | 0 => .array .int
  | _ => .int
theorem nmX5 : ∀ a, a < 2 → ∀ b, b < 2 → a ≠ b → (TX5 a).2.1 ≠ (TX5 b).2.1 := by decide +kernel
theorem tyX5_ok : ∀ k, k < 2 → parseFieldDescriptor (TX5 k).2.2.1 = some (tyX5 k) := by decide +kernel
abbrev cX5_init : ByteArray := prog_7_method_1_code
def yX5_init : MethodName := ⟨RX5, "<init>", "()V"⟩
abbrev cX5_add : ByteArray := prog_7_method_2_code
def yX5_add : MethodName := ⟨RX5, "add", "(I)I"⟩
def RX6 : String := "MadeOf$Questions"
def TX6 : u_T := fun k => match k with
  | _ => ("MadeOf$Questions", "others", "[I", true)
def tyX6 : Nat → FieldType := fun k => match k with
  | _ => .array .int
theorem nmX6 : ∀ a, a < 1 → ∀ b, b < 1 → a ≠ b → (TX6 a).2.1 ≠ (TX6 b).2.1 := by decide +kernel
theorem tyX6_ok : ∀ k, k < 1 → parseFieldDescriptor (TX6 k).2.2.1 = some (tyX6 k) := by decide +kernel
abbrev cX6_init : ByteArray := prog_8_method_1_code
def yX6_init : MethodName := ⟨RX6, "<init>", "()V"⟩
abbrev cX6_clear : ByteArray := prog_8_method_2_code
def yX6_clear : MethodName := ⟨RX6, "clear", "()V"⟩
abbrev cX6_add : ByteArray := prog_8_method_3_code
def yX6_add : MethodName := ⟨RX6, "add", "(II)V"⟩
abbrev cX6_areSettledBy : ByteArray := prog_8_method_4_code
def yX6_areSettledBy : MethodName := ⟨RX6, "areSettledBy", "(I)Z"⟩
def RX7 : String := "MadeOf$Reader"
def TX7 : u_T := fun k => match k with
  | 0 => ("MadeOf$Reader", "tape", "LMadeOf$Tape;", true)
  | 1 => ("MadeOf$Reader", "kind", "I", false)
  | 2 => ("MadeOf$Reader", "start", "I", false)
  | 3 => ("MadeOf$Reader", "behind", "I", false)
  | 4 => ("MadeOf$Reader", "number", "I", false)
  | _ => ("MadeOf$Reader", "version", "I", false)
def tyX7 : Nat → FieldType := fun k => match k with
  | 0 => .object "MadeOf$Tape"
  | 1 => .int
  | 2 => .int
  | 3 => .int
  | 4 => .int
  | _ => .int
theorem nmX7 : ∀ a, a < 6 → ∀ b, b < 6 → a ≠ b → (TX7 a).2.1 ≠ (TX7 b).2.1 := by decide +kernel
theorem tyX7_ok : ∀ k, k < 6 → parseFieldDescriptor (TX7 k).2.2.1 = some (tyX7 k) := by decide +kernel
abbrev cX7_init : ByteArray := prog_9_method_1_code
def yX7_init : MethodName := ⟨RX7, "<init>", "(LMadeOf$Tape;)V"⟩
abbrev cX7_read : ByteArray := prog_9_method_2_code
def yX7_read : MethodName := ⟨RX7, "read", "(ILMadeOf$Warning;)I"⟩
abbrev cX7_readTest : ByteArray := prog_9_method_3_code
def yX7_readTest : MethodName := ⟨RX7, "readTest", "(LMadeOf$Warning;)Z"⟩
abbrev cX7_readVersion : ByteArray := prog_9_method_4_code
def yX7_readVersion : MethodName := ⟨RX7, "readVersion", "()Z"⟩
abbrev cX7_takeWord : ByteArray := prog_9_method_5_code
def yX7_takeWord : MethodName := ⟨RX7, "takeWord", "(Ljava/lang/String;)Z"⟩
abbrev cX7_takeSign : ByteArray := prog_9_method_6_code
def yX7_takeSign : MethodName := ⟨RX7, "takeSign", "(C)Z"⟩
abbrev cX7_takeNumber : ByteArray := prog_9_method_7_code
def yX7_takeNumber : MethodName := ⟨RX7, "takeNumber", "(I)Z"⟩
abbrev cX7_valueAtHand : ByteArray := prog_9_method_8_code
def yX7_valueAtHand : MethodName := ⟨RX7, "valueAtHand", "()I"⟩
abbrev cX7_step : ByteArray := prog_9_method_9_code
def yX7_step : MethodName := ⟨RX7, "step", "()V"⟩
abbrev cX7_kindAt : ByteArray := prog_9_method_10_code
def yX7_kindAt : MethodName := ⟨RX7, "kindAt", "(I)I"⟩
def RX8 : String := "MadeOf$Tape"
def TX8 : u_T := fun k => match k with
  | 0 => ("MadeOf$Tape", "bytes", "[I", true)
  | _ => ("MadeOf$Tape", "size", "I", false)
def tyX8 : Nat → FieldType := fun k => match k with
  | 0 => .array .int
  | _ => .int
theorem nmX8 : ∀ a, a < 2 → ∀ b, b < 2 → a ≠ b → (TX8 a).2.1 ≠ (TX8 b).2.1 := by decide +kernel
theorem tyX8_ok : ∀ k, k < 2 → parseFieldDescriptor (TX8 k).2.2.1 = some (tyX8 k) := by decide +kernel
abbrev cX8_init : ByteArray := prog_10_method_1_code
def yX8_init : MethodName := ⟨RX8, "<init>", "()V"⟩
abbrev cX8_add : ByteArray := prog_10_method_2_code
def yX8_add : MethodName := ⟨RX8, "add", "(I)V"⟩
def RX9 : String := "MadeOf$Warning"
def TX9 : u_T := fun k => match k with
  | 0 => ("MadeOf$Warning", "low", "[I", true)
  | 1 => ("MadeOf$Warning", "high", "[I", true)
  | 2 => ("MadeOf$Warning", "terms", "I", false)
  | 3 => ("MadeOf$Warning", "part", "I", false)
  | _ => ("MadeOf$Warning", "told", "I", false)
def tyX9 : Nat → FieldType := fun k => match k with
  | 0 => .array .int
  | 1 => .array .int
  | 2 => .int
  | 3 => .int
  | _ => .int
theorem nmX9 : ∀ a, a < 5 → ∀ b, b < 5 → a ≠ b → (TX9 a).2.1 ≠ (TX9 b).2.1 := by decide +kernel
theorem tyX9_ok : ∀ k, k < 5 → parseFieldDescriptor (TX9 k).2.2.1 = some (tyX9 k) := by decide +kernel
abbrev cX9_init : ByteArray := prog_11_method_1_code
def yX9_init : MethodName := ⟨RX9, "<init>", "()V"⟩
abbrev cX9_begin : ByteArray := prog_11_method_2_code
def yX9_begin : MethodName := ⟨RX9, "begin", "(I)V"⟩
abbrev cX9_openTerm : ByteArray := prog_11_method_3_code
def yX9_openTerm : MethodName := ⟨RX9, "openTerm", "()V"⟩
abbrev cX9_narrow : ByteArray := prog_11_method_4_code
def yX9_narrow : MethodName := ⟨RX9, "narrow", "(II)V"⟩
abbrev cX9_covers : ByteArray := prog_11_method_5_code
def yX9_covers : MethodName := ⟨RX9, "covers", "(I)Z"⟩
def RX10 : String := "MadeOf$Ways"
def TX10 : u_T := fun k => match k with
  | 0 => ("MadeOf$Ways", "inside", "[J", true)
  | 1 => ("MadeOf$Ways", "layers", "[J", true)
  | _ => ("MadeOf$Ways", "depth", "I", false)
def tyX10 : Nat → FieldType := fun k => match k with
  | 0 => .array .long
  | 1 => .array .long
  | _ => .int
theorem nmX10 : ∀ a, a < 3 → ∀ b, b < 3 → a ≠ b → (TX10 a).2.1 ≠ (TX10 b).2.1 := by decide +kernel
theorem tyX10_ok : ∀ k, k < 3 → parseFieldDescriptor (TX10 k).2.2.1 = some (tyX10 k) := by decide +kernel
abbrev cX10_init : ByteArray := prog_12_method_1_code
def yX10_init : MethodName := ⟨RX10, "<init>", "()V"⟩
abbrev cX10_lay : ByteArray := prog_12_method_2_code
def yX10_lay : MethodName := ⟨RX10, "lay", "(LMadeOf$Links;IZ)V"⟩
abbrev cX10_spread : ByteArray := prog_12_method_3_code
def yX10_spread : MethodName := ⟨RX10, "spread", "(J)J"⟩
abbrev cX10_holdersOf : ByteArray := prog_12_method_4_code
def yX10_holdersOf : MethodName := ⟨RX10, "holdersOf", "(J)J"⟩
abbrev cX10_distance : ByteArray := prog_12_method_5_code
def yX10_distance : MethodName := ⟨RX10, "distance", "(I)I"⟩
abbrev cX10_walk : ByteArray := prog_12_method_6_code
def yX10_walk : MethodName := ⟨RX10, "walk", "(II)I"⟩
def RX11 : String := "MadeOf"
def TX11 : u_T := fun k => match k with
  | 0 => ("MadeOf", "parts", "LMadeOf$Parts;", true)
  | 1 => ("MadeOf", "makes", "LMadeOf$Makes;", true)
  | 2 => ("MadeOf", "links", "LMadeOf$Links;", true)
  | 3 => ("MadeOf", "holdings", "LMadeOf$Holdings;", true)
  | 4 => ("MadeOf", "joins", "LMadeOf$Pairs;", true)
  | 5 => ("MadeOf", "unlikes", "LMadeOf$Pairs;", true)
  | 6 => ("MadeOf", "groups", "LMadeOf$Groups;", true)
  | 7 => ("MadeOf", "tape", "LMadeOf$Tape;", true)
  | 8 => ("MadeOf", "reader", "LMadeOf$Reader;", true)
  | 9 => ("MadeOf", "warnings", "[LMadeOf$Warning;", true)
  | 10 => ("MadeOf", "ways", "LMadeOf$Ways;", true)
  | 11 => ("MadeOf", "questions", "LMadeOf$Questions;", true)
  | 12 => ("MadeOf", "warningCount", "I", false)
  | 13 => ("MadeOf", "latestFault", "I", false)
  | _ => ("MadeOf", "refusedBy", "I", false)
def tyX11 : Nat → FieldType := fun k => match k with
  | 0 => .object "MadeOf$Parts"
  | 1 => .object "MadeOf$Makes"
  | 2 => .object "MadeOf$Links"
  | 3 => .object "MadeOf$Holdings"
  | 4 => .object "MadeOf$Pairs"
  | 5 => .object "MadeOf$Pairs"
  | 6 => .object "MadeOf$Groups"
  | 7 => .object "MadeOf$Tape"
  | 8 => .object "MadeOf$Reader"
  | 9 => .array (.object "MadeOf$Warning")
  | 10 => .object "MadeOf$Ways"
  | 11 => .object "MadeOf$Questions"
  | 12 => .int
  | 13 => .int
  | _ => .int
theorem nmX11 : ∀ a, a < 15 → ∀ b, b < 15 → a ≠ b → (TX11 a).2.1 ≠ (TX11 b).2.1 := by decide +kernel
theorem tyX11_ok : ∀ k, k < 15 → parseFieldDescriptor (TX11 k).2.2.1 = some (tyX11 k) := by decide +kernel
abbrev cX11_init : ByteArray := prog_1_method_1_code
def yX11_init : MethodName := ⟨RX11, "<init>", "()V"⟩
abbrev cX11_part : ByteArray := prog_1_method_2_code
def yX11_part : MethodName := ⟨RX11, "part", "(I)I"⟩
abbrev cX11_make : ByteArray := prog_1_method_3_code
def yX11_make : MethodName := ⟨RX11, "make", "(IIII)I"⟩
abbrev cX11_find : ByteArray := prog_1_method_4_code
def yX11_find : MethodName := ⟨RX11, "find", "(IIII)I"⟩
abbrev cX11_link : ByteArray := prog_1_method_5_code
def yX11_link : MethodName := ⟨RX11, "link", "(IIII)I"⟩
abbrev cX11_cut : ByteArray := prog_1_method_6_code
def yX11_cut : MethodName := ⟨RX11, "cut", "(II)I"⟩
abbrev cX11_counts : ByteArray := prog_1_method_7_code
def yX11_counts : MethodName := ⟨RX11, "counts", "(II)I"⟩
abbrev cX11_hold : ByteArray := prog_1_method_8_code
def yX11_hold : MethodName := ⟨RX11, "hold", "(IIIII)I"⟩
abbrev cX11_join : ByteArray := prog_1_method_9_code
def yX11_join : MethodName := ⟨RX11, "join", "(III)I"⟩
abbrev cX11_undo : ByteArray := prog_1_method_10_code
def yX11_undo : MethodName := ⟨RX11, "undo", "(I)I"⟩
abbrev cX11_unlike : ByteArray := prog_1_method_11_code
def yX11_unlike : MethodName := ⟨RX11, "unlike", "(III)I"⟩
abbrev cX11_group : ByteArray := prog_1_method_12_code
def yX11_group : MethodName := ⟨RX11, "group", "(II)I"⟩
abbrev cX11_quarrels : ByteArray := prog_1_method_13_code
def yX11_quarrels : MethodName := ⟨RX11, "quarrels", "(I)I"⟩
abbrev cX11_feed : ByteArray := prog_1_method_14_code
def yX11_feed : MethodName := ⟨RX11, "feed", "(IIIII)I"⟩
abbrev cX11_end : ByteArray := prog_1_method_15_code
def yX11_end : MethodName := ⟨RX11, "end", "(I)I"⟩
abbrev cX11_warning : ByteArray := prog_1_method_16_code
def yX11_warning : MethodName := ⟨RX11, "warning", "()I"⟩
abbrev cX11_fault : ByteArray := prog_1_method_17_code
def yX11_fault : MethodName := ⟨RX11, "fault", "()I"⟩
abbrev cX11_bad : ByteArray := prog_1_method_18_code
def yX11_bad : MethodName := ⟨RX11, "bad", "(III)I"⟩
abbrev cX11_hit : ByteArray := prog_1_method_19_code
def yX11_hit : MethodName := ⟨RX11, "hit", "(III)I"⟩
abbrev cX11_way : ByteArray := prog_1_method_20_code
def yX11_way : MethodName := ⟨RX11, "way", "(IIII)I"⟩
abbrev cX11_has : ByteArray := prog_1_method_21_code
def yX11_has : MethodName := ⟨RX11, "has", "(IIII)I"⟩
abbrev cX11_since : ByteArray := prog_1_method_22_code
def yX11_since : MethodName := ⟨RX11, "since", "(III)I"⟩
abbrev cX11_gaps : ByteArray := prog_1_method_23_code
def yX11_gaps : MethodName := ⟨RX11, "gaps", "(III)I"⟩
abbrev cX11_ring : ByteArray := prog_1_method_24_code
def yX11_ring : MethodName := ⟨RX11, "ring", "(II)I"⟩
abbrev cX11_calls : ByteArray := prog_1_method_25_code
def yX11_calls : MethodName := ⟨RX11, "calls", "(I)I"⟩
abbrev cX11_recall : ByteArray := prog_1_method_26_code
def yX11_recall : MethodName := ⟨RX11, "recall", "(III)I"⟩
abbrev cX11_told : ByteArray := prog_1_method_27_code
def yX11_told : MethodName := ⟨RX11, "told", "(I)I"⟩
abbrev cX11_count : ByteArray := prog_1_method_28_code
def yX11_count : MethodName := ⟨RX11, "count", "(I)I"⟩
abbrev cX11_status : ByteArray := prog_1_method_29_code
def yX11_status : MethodName := ⟨RX11, "status", "()I"⟩
abbrev cX11_refuse : ByteArray := prog_1_method_30_code
def yX11_refuse : MethodName := ⟨RX11, "refuse", "(I)I"⟩
abbrev cX11_accept : ByteArray := prog_1_method_31_code
def yX11_accept : MethodName := ⟨RX11, "accept", "(I)I"⟩
abbrev cX11_isPart : ByteArray := prog_1_method_32_code
def yX11_isPart : MethodName := ⟨RX11, "isPart", "(I)Z"⟩
abbrev cX11_isMake : ByteArray := prog_1_method_33_code
def yX11_isMake : MethodName := ⟨RX11, "isMake", "(I)Z"⟩
abbrev cX11_isLink : ByteArray := prog_1_method_34_code
def yX11_isLink : MethodName := ⟨RX11, "isLink", "(I)Z"⟩
abbrev cX11_isWarning : ByteArray := prog_1_method_35_code
def yX11_isWarning : MethodName := ⟨RX11, "isWarning", "(I)Z"⟩
abbrev cX11_isWithin : ByteArray := prog_1_method_36_code
def yX11_isWithin : MethodName := ⟨RX11, "isWithin", "(II)Z"⟩
abbrev cX11_isDay : ByteArray := prog_1_method_37_code
def yX11_isDay : MethodName := ⟨RX11, "isDay", "(I)Z"⟩
abbrev cX11_isVersion : ByteArray := prog_1_method_38_code
def yX11_isVersion : MethodName := ⟨RX11, "isVersion", "(III)Z"⟩
abbrev cX11_versionOf : ByteArray := prog_1_method_39_code
def yX11_versionOf : MethodName := ⟨RX11, "versionOf", "(III)I"⟩
abbrev cX11_contains : ByteArray := prog_1_method_40_code
def yX11_contains : MethodName := ⟨RX11, "contains", "(JI)Z"⟩
abbrev cX11_lowest : ByteArray := prog_1_method_41_code
def yX11_lowest : MethodName := ⟨RX11, "lowest", "(J)I"⟩
abbrev cX11_whyNoPair : ByteArray := prog_1_method_42_code
def yX11_whyNoPair : MethodName := ⟨RX11, "whyNoPair", "(IIILMadeOf$Pairs;)I"⟩
abbrev cX11_badMakes : ByteArray := prog_1_method_43_code
def yX11_badMakes : MethodName := ⟨RX11, "badMakes", "(II)J"⟩
abbrev cX11_hitMakes : ByteArray := prog_1_method_44_code
def yX11_hitMakes : MethodName := ⟨RX11, "hitMakes", "(IIZ)J"⟩
abbrev cX11_trace : ByteArray := prog_1_method_45_code
def yX11_trace : MethodName := ⟨RX11, "trace", "(III)I"⟩
abbrev cX11_groupsInside : ByteArray := prog_1_method_46_code
def yX11_groupsInside : MethodName := ⟨RX11, "groupsInside", "(III)I"⟩
abbrev cX11_raiseQuestions : ByteArray := prog_1_method_47_code
def yX11_raiseQuestions : MethodName := ⟨RX11, "raiseQuestions", "(I)V"⟩
abbrev cX11_makerOf : ByteArray := prog_1_method_48_code
def yX11_makerOf : MethodName := ⟨RX11, "makerOf", "(I)I"⟩
def RX12 : String := "MadeOfModel"
def TX12 : u_T := fun k => match k with
  | 0 => ("MadeOfModel", "status", "I", false)
  | 1 => ("MadeOfModel", "parts", "I", false)
  | 2 => ("MadeOfModel", "makes", "I", false)
  | 3 => ("MadeOfModel", "maker", "[I", true)
  | 4 => ("MadeOfModel", "makePart", "[I", true)
  | 5 => ("MadeOfModel", "version", "[I", true)
  | 6 => ("MadeOfModel", "links", "I", false)
  | 7 => ("MadeOfModel", "linkFrom", "[I", true)
  | 8 => ("MadeOfModel", "linkTo", "[I", true)
  | 9 => ("MadeOfModel", "linkSort", "[I", true)
  | 10 => ("MadeOfModel", "linkKnown", "[I", true)
  | 11 => ("MadeOfModel", "linkCut", "[I", true)
  | 12 => ("MadeOfModel", "holdings", "I", false)
  | 13 => ("MadeOfModel", "holdSite", "[I", true)
  | 14 => ("MadeOfModel", "holdMake", "[I", true)
  | 15 => ("MadeOfModel", "holdFrom", "[I", true)
  | 16 => ("MadeOfModel", "holdTo", "[I", true)
  | 17 => ("MadeOfModel", "holdKnown", "[I", true)
  | 18 => ("MadeOfModel", "joins", "I", false)
  | 19 => ("MadeOfModel", "unlikes", "I", false)
  | 20 => ("MadeOfModel", "joinA", "[I", true)
  | 21 => ("MadeOfModel", "joinB", "[I", true)
  | 22 => ("MadeOfModel", "joinKnown", "[I", true)
  | 23 => ("MadeOfModel", "isUndone", "[Z", true)
  | 24 => ("MadeOfModel", "unlikeA", "[I", true)
  | 25 => ("MadeOfModel", "unlikeB", "[I", true)
  | 26 => ("MadeOfModel", "unlikeKnown", "[I", true)
  | 27 => ("MadeOfModel", "lowest", "[I", true)
  | 28 => ("MadeOfModel", "quarrels", "I", false)
  | 29 => ("MadeOfModel", "tape", "[B", true)
  | 30 => ("MadeOfModel", "taped", "I", false)
  | 31 => ("MadeOfModel", "size", "I", false)
  | 32 => ("MadeOfModel", "from", "I", false)
  | 33 => ("MadeOfModel", "to", "I", false)
  | 34 => ("MadeOfModel", "fault", "I", false)
  | 35 => ("MadeOfModel", "readFault", "I", false)
  | 36 => ("MadeOfModel", "warnings", "I", false)
  | 37 => ("MadeOfModel", "warnPart", "[I", true)
  | 38 => ("MadeOfModel", "warnTests", "[I", true)
  | 39 => ("MadeOfModel", "testSign", "[I", true)
  | 40 => ("MadeOfModel", "testVersion", "[I", true)
  | 41 => ("MadeOfModel", "testTerm", "[I", true)
  | 42 => ("MadeOfModel", "told", "[I", true)
  | 43 => ("MadeOfModel", "tests", "I", false)
  | 44 => ("MadeOfModel", "term", "I", false)
  | 45 => ("MadeOfModel", "five", "[I", true)
  | 46 => ("MadeOfModel", "sure", "[I", true)
  | _ => ("MadeOfModel", "any", "[I", true)
def tyX12 : Nat → FieldType := fun k => match k with
  | 0 => .int
  | 1 => .int
  | 2 => .int
  | 3 => .array .int
  | 4 => .array .int
  | 5 => .array .int
  | 6 => .int
  | 7 => .array .int
  | 8 => .array .int
  | 9 => .array .int
  | 10 => .array .int
  | 11 => .array .int
  | 12 => .int
  | 13 => .array .int
  | 14 => .array .int
  | 15 => .array .int
  | 16 => .array .int
  | 17 => .array .int
  | 18 => .int
  | 19 => .int
  | 20 => .array .int
  | 21 => .array .int
  | 22 => .array .int
  | 23 => .array .boolean
  | 24 => .array .int
  | 25 => .array .int
  | 26 => .array .int
  | 27 => .array .int
  | 28 => .int
  | 29 => .array .byte
  | 30 => .int
  | 31 => .int
  | 32 => .int
  | 33 => .int
  | 34 => .int
  | 35 => .int
  | 36 => .int
  | 37 => .array .int
  | 38 => .array .int
  | 39 => .array .int
  | 40 => .array .int
  | 41 => .array .int
  | 42 => .array .int
  | 43 => .int
  | 44 => .int
  | 45 => .array .int
  | 46 => .array .int
  | _ => .array .int
theorem nmX12 : ∀ a, a < 48 → ∀ b, b < 48 → a ≠ b → (TX12 a).2.1 ≠ (TX12 b).2.1 := by decide +kernel
theorem tyX12_ok : ∀ k, k < 48 → parseFieldDescriptor (TX12 k).2.2.1 = some (tyX12 k) := by decide +kernel
abbrev cX12_init : ByteArray := prog_14_method_1_code
def yX12_init : MethodName := ⟨RX12, "<init>", "()V"⟩
abbrev cX12_in : ByteArray := prog_14_method_2_code
def yX12_in : MethodName := ⟨RX12, "in", "(III)Z"⟩
abbrev cX12_isDay : ByteArray := prog_14_method_3_code
def yX12_isDay : MethodName := ⟨RX12, "isDay", "(I)Z"⟩
abbrev cX12_ends : ByteArray := prog_14_method_4_code
def yX12_ends : MethodName := ⟨RX12, "ends", "(I)I"⟩
abbrev cX12_isPart : ByteArray := prog_14_method_5_code
def yX12_isPart : MethodName := ⟨RX12, "isPart", "(I)Z"⟩
abbrev cX12_isMake : ByteArray := prog_14_method_6_code
def yX12_isMake : MethodName := ⟨RX12, "isMake", "(I)Z"⟩
abbrev cX12_part : ByteArray := prog_14_method_7_code
def yX12_part : MethodName := ⟨RX12, "part", "(I)I"⟩
abbrev cX12_versionOf : ByteArray := prog_14_method_8_code
def yX12_versionOf : MethodName := ⟨RX12, "versionOf", "(III)I"⟩
abbrev cX12_areGood : ByteArray := prog_14_method_9_code
def yX12_areGood : MethodName := ⟨RX12, "areGood", "(III)Z"⟩
abbrev cX12_found : ByteArray := prog_14_method_10_code
def yX12_found : MethodName := ⟨RX12, "found", "(II)I"⟩
abbrev cX12_make : ByteArray := prog_14_method_11_code
def yX12_make : MethodName := ⟨RX12, "make", "(IIII)I"⟩
abbrev cX12_find : ByteArray := prog_14_method_12_code
def yX12_find : MethodName := ⟨RX12, "find", "(IIII)I"⟩
abbrev cX12_link : ByteArray := prog_14_method_13_code
def yX12_link : MethodName := ⟨RX12, "link", "(IIII)I"⟩
abbrev cX12_cut : ByteArray := prog_14_method_14_code
def yX12_cut : MethodName := ⟨RX12, "cut", "(II)I"⟩
abbrev cX12_is : ByteArray := prog_14_method_15_code
def yX12_is : MethodName := ⟨RX12, "is", "(II)Z"⟩
abbrev cX12_counts : ByteArray := prog_14_method_16_code
def yX12_counts : MethodName := ⟨RX12, "counts", "(II)I"⟩
abbrev cX12_hold : ByteArray := prog_14_method_17_code
def yX12_hold : MethodName := ⟨RX12, "hold", "(IIIII)I"⟩
abbrev cX12_pairs : ByteArray := prog_14_method_18_code
def yX12_pairs : MethodName := ⟨RX12, "pairs", "(III)I"⟩
abbrev cX12_join : ByteArray := prog_14_method_19_code
def yX12_join : MethodName := ⟨RX12, "join", "(III)I"⟩
abbrev cX12_undo : ByteArray := prog_14_method_20_code
def yX12_undo : MethodName := ⟨RX12, "undo", "(I)I"⟩
abbrev cX12_unlike : ByteArray := prog_14_method_21_code
def yX12_unlike : MethodName := ⟨RX12, "unlike", "(III)I"⟩
abbrev cX12_isQuarrel : ByteArray := prog_14_method_22_code
def yX12_isQuarrel : MethodName := ⟨RX12, "isQuarrel", "(III)Z"⟩
abbrev cX12_gathers : ByteArray := prog_14_method_23_code
def yX12_gathers : MethodName := ⟨RX12, "gathers", "(I)V"⟩
abbrev cX12_group : ByteArray := prog_14_method_24_code
def yX12_group : MethodName := ⟨RX12, "group", "(II)I"⟩
abbrev cX12_quarrels : ByteArray := prog_14_method_25_code
def yX12_quarrels : MethodName := ⟨RX12, "quarrels", "(I)I"⟩
abbrev cX12_feed : ByteArray := prog_14_method_26_code
def yX12_feed : MethodName := ⟨RX12, "feed", "(IIIII)I"⟩
abbrev cX12_end : ByteArray := prog_14_method_27_code
def yX12_end : MethodName := ⟨RX12, "end", "(I)I"⟩
abbrev cX12_isIn : ByteArray := prog_14_method_28_code
def yX12_isIn : MethodName := ⟨RX12, "isIn", "(III)Z"⟩
abbrev cX12_next : ByteArray := prog_14_method_29_code
def yX12_next : MethodName := ⟨RX12, "next", "()V"⟩
abbrev cX12_isWord : ByteArray := prog_14_method_30_code
def yX12_isWord : MethodName := ⟨RX12, "isWord", "(J)Z"⟩
abbrev cX12_isSign : ByteArray := prog_14_method_31_code
def yX12_isSign : MethodName := ⟨RX12, "isSign", "(I)Z"⟩
abbrev cX12_good : ByteArray := prog_14_method_32_code
def yX12_good : MethodName := ⟨RX12, "good", "()Z"⟩
abbrev cX12_faults : ByteArray := prog_14_method_33_code
def yX12_faults : MethodName := ⟨RX12, "faults", "()V"⟩
abbrev cX12_number : ByteArray := prog_14_method_34_code
def yX12_number : MethodName := ⟨RX12, "number", "(I)I"⟩
abbrev cX12_puts : ByteArray := prog_14_method_35_code
def yX12_puts : MethodName := ⟨RX12, "puts", "(II)V"⟩
abbrev cX12_reads : ByteArray := prog_14_method_36_code
def yX12_reads : MethodName := ⟨RX12, "reads", "()I"⟩
abbrev cX12_test : ByteArray := prog_14_method_37_code
def yX12_test : MethodName := ⟨RX12, "test", "()V"⟩
abbrev cX12_warning : ByteArray := prog_14_method_38_code
def yX12_warning : MethodName := ⟨RX12, "warning", "()I"⟩
abbrev cX12_fault : ByteArray := prog_14_method_39_code
def yX12_fault : MethodName := ⟨RX12, "fault", "()I"⟩
abbrev cX12_isWarning : ByteArray := prog_14_method_40_code
def yX12_isWarning : MethodName := ⟨RX12, "isWarning", "(I)Z"⟩
abbrev cX12_holds : ByteArray := prog_14_method_41_code
def yX12_holds : MethodName := ⟨RX12, "holds", "(II)Z"⟩
abbrev cX12_isBad : ByteArray := prog_14_method_42_code
def yX12_isBad : MethodName := ⟨RX12, "isBad", "(II)Z"⟩
abbrev cX12_bad : ByteArray := prog_14_method_43_code
def yX12_bad : MethodName := ⟨RX12, "bad", "(III)I"⟩
abbrev cX12_spreads : ByteArray := prog_14_method_44_code
def yX12_spreads : MethodName := ⟨RX12, "spreads", "([IIZ)V"⟩
abbrev cX12_hits : ByteArray := prog_14_method_45_code
def yX12_hits : MethodName := ⟨RX12, "hits", "(II)V"⟩
abbrev cX12_hitOf : ByteArray := prog_14_method_46_code
def yX12_hitOf : MethodName := ⟨RX12, "hitOf", "(I)I"⟩
abbrev cX12_hit : ByteArray := prog_14_method_47_code
def yX12_hit : MethodName := ⟨RX12, "hit", "(III)I"⟩
abbrev cX12_way : ByteArray := prog_14_method_48_code
def yX12_way : MethodName := ⟨RX12, "way", "(IIII)I"⟩
abbrev cX12_nextOf : ByteArray := prog_14_method_49_code
def yX12_nextOf : MethodName := ⟨RX12, "nextOf", "(II[IZ)I"⟩
abbrev cX12_hasOf : ByteArray := prog_14_method_50_code
def yX12_hasOf : MethodName := ⟨RX12, "hasOf", "(III)I"⟩
abbrev cX12_isSite : ByteArray := prog_14_method_51_code
def yX12_isSite : MethodName := ⟨RX12, "isSite", "(I)Z"⟩
abbrev cX12_has : ByteArray := prog_14_method_52_code
def yX12_has : MethodName := ⟨RX12, "has", "(IIII)I"⟩
abbrev cX12_since : ByteArray := prog_14_method_53_code
def yX12_since : MethodName := ⟨RX12, "since", "(III)I"⟩
abbrev cX12_hasLink : ByteArray := prog_14_method_54_code
def yX12_hasLink : MethodName := ⟨RX12, "hasLink", "(IIII)Z"⟩
abbrev cX12_gaps : ByteArray := prog_14_method_55_code
def yX12_gaps : MethodName := ⟨RX12, "gaps", "(III)I"⟩
abbrev cX12_ring : ByteArray := prog_14_method_56_code
def yX12_ring : MethodName := ⟨RX12, "ring", "(II)I"⟩
abbrev cX12_settles : ByteArray := prog_14_method_57_code
def yX12_settles : MethodName := ⟨RX12, "settles", "(II)Z"⟩
abbrev cX12_many : ByteArray := prog_14_method_58_code
def yX12_many : MethodName := ⟨RX12, "many", "(I)I"⟩
abbrev cX12_calls : ByteArray := prog_14_method_59_code
def yX12_calls : MethodName := ⟨RX12, "calls", "(I)I"⟩
abbrev cX12_recall : ByteArray := prog_14_method_60_code
def yX12_recall : MethodName := ⟨RX12, "recall", "(III)I"⟩
abbrev cX12_told : ByteArray := prog_14_method_61_code
def yX12_told : MethodName := ⟨RX12, "told", "(I)I"⟩
abbrev cX12_count : ByteArray := prog_14_method_62_code
def yX12_count : MethodName := ⟨RX12, "count", "(I)I"⟩
abbrev cX12_status : ByteArray := prog_14_method_63_code
def yX12_status : MethodName := ⟨RX12, "status", "()I"⟩
def RJ6 : String := "java/lang/Integer"
def TJ6 : u_T := fun k => match k with
  | _ => ("", "", "", false)
def tyJ6 : Nat → FieldType := fun k => match k with
  | _ => .int
theorem nmJ6 : ∀ a, a < 0 → ∀ b, b < 0 → a ≠ b → (TJ6 a).2.1 ≠ (TJ6 b).2.1 := by decide +kernel
theorem tyJ6_ok : ∀ k, k < 0 → parseFieldDescriptor (TJ6 k).2.2.1 = some (tyJ6 k) := by decide +kernel
abbrev cJ6_bitCount_0f7a4 : ByteArray := prog_15_method_49_code
def yJ6_bitCount_0f7a4 : MethodName := ⟨RJ6, "bitCount", "(I)I"⟩
def RJ9 : String := "java/lang/Math"
def TJ9 : u_T := fun k => match k with
  | _ => ("", "", "", false)
def tyJ9 : Nat → FieldType := fun k => match k with
  | _ => .int
theorem nmJ9 : ∀ a, a < 0 → ∀ b, b < 0 → a ≠ b → (TJ9 a).2.1 ≠ (TJ9 b).2.1 := by decide +kernel
theorem tyJ9_ok : ∀ k, k < 0 → parseFieldDescriptor (TJ9 k).2.2.1 = some (tyJ9 k) := by decide +kernel
abbrev cJ9_max_7cf53 : ByteArray := prog_16_method_65_code
def yJ9_max_7cf53 : MethodName := ⟨RJ9, "max", "(II)I"⟩
abbrev cJ9_min_7cf53 : ByteArray := prog_16_method_69_code
def yJ9_min_7cf53 : MethodName := ⟨RJ9, "min", "(II)I"⟩
def RJ0 : String := "java/lang/String"
def TJ0 : u_T := fun k => match k with
  | _ => ("", "", "", false)
def tyJ0 : Nat → FieldType := fun k => match k with
  | _ => .int
theorem nmJ0 : ∀ a, a < 0 → ∀ b, b < 0 → a ≠ b → (TJ0 a).2.1 ≠ (TJ0 b).2.1 := by decide +kernel
theorem tyJ0_ok : ∀ k, k < 0 → parseFieldDescriptor (TJ0 k).2.2.1 = some (tyJ0 k) := by decide +kernel
abbrev cJ0_length_8abf5 : ByteArray := prog_17_method_54_code
def yJ0_length_8abf5 : MethodName := ⟨RJ0, "length", "()I"⟩
abbrev cJ0_charAt_5068e : ByteArray := prog_17_method_56_code
def yJ0_charAt_5068e : MethodName := ⟨RJ0, "charAt", "(I)C"⟩
abbrev cJ0_coder_7d493 : ByteArray := prog_17_method_152_code
def yJ0_coder_7d493 : MethodName := ⟨RJ0, "coder", "()B"⟩
abbrev cJ0_isLatin1_aae02 : ByteArray := prog_17_method_154_code
def yJ0_isLatin1_aae02 : MethodName := ⟨RJ0, "isLatin1", "()Z"⟩
abbrev cJ0_checkIndex_df160 : ByteArray := prog_17_method_155_code
def yJ0_checkIndex_df160 : MethodName := ⟨RJ0, "checkIndex", "(II)V"⟩
def RJ1 : String := "java/lang/StringLatin1"
def TJ1 : u_T := fun k => match k with
  | _ => ("", "", "", false)
def tyJ1 : Nat → FieldType := fun k => match k with
  | _ => .int
theorem nmJ1 : ∀ a, a < 0 → ∀ b, b < 0 → a ≠ b → (TJ1 a).2.1 ≠ (TJ1 b).2.1 := by decide +kernel
theorem tyJ1_ok : ∀ k, k < 0 → parseFieldDescriptor (TJ1 k).2.2.1 = some (tyJ1 k) := by decide +kernel
abbrev cJ1_charAt_3b067 : ByteArray := prog_18_method_2_code
def yJ1_charAt_3b067 : MethodName := ⟨RJ1, "charAt", "([BI)C"⟩
def RJ2 : String := "java/lang/StringUTF16"
def TJ2 : u_T := fun k => match k with
  | _ => ("", "", "", false)
def tyJ2 : Nat → FieldType := fun k => match k with
  | _ => .int
theorem nmJ2 : ∀ a, a < 0 → ∀ b, b < 0 → a ≠ b → (TJ2 a).2.1 ≠ (TJ2 b).2.1 := by decide +kernel
theorem tyJ2_ok : ∀ k, k < 0 → parseFieldDescriptor (TJ2 k).2.2.1 = some (tyJ2 k) := by decide +kernel
abbrev cJ2_getChar_3b067 : ByteArray := prog_19_method_5_code
def yJ2_getChar_3b067 : MethodName := ⟨RJ2, "getChar", "([BI)C"⟩
abbrev cJ2_length_9d52b : ByteArray := prog_19_method_6_code
def yJ2_length_9d52b : MethodName := ⟨RJ2, "length", "([B)I"⟩
abbrev cJ2_charAt_3b067 : ByteArray := prog_19_method_83_code
def yJ2_charAt_3b067 : MethodName := ⟨RJ2, "charAt", "([BI)C"⟩
abbrev cJ2_checkIndex_2214a : ByteArray := prog_19_method_91_code
def yJ2_checkIndex_2214a : MethodName := ⟨RJ2, "checkIndex", "(I[B)V"⟩
def RJ7 : String := "java/util/Arrays"
def TJ7 : u_T := fun k => match k with
  | _ => ("", "", "", false)
def tyJ7 : Nat → FieldType := fun k => match k with
  | _ => .int
theorem nmJ7 : ∀ a, a < 0 → ∀ b, b < 0 → a ≠ b → (TJ7 a).2.1 ≠ (TJ7 b).2.1 := by decide +kernel
theorem tyJ7_ok : ∀ k, k < 0 → parseFieldDescriptor (TJ7 k).2.2.1 = some (tyJ7 k) := by decide +kernel
abbrev cJ7_fill_d0a16 : ByteArray := prog_20_method_101_code
def yJ7_fill_d0a16 : MethodName := ⟨RJ7, "fill", "([JJ)V"⟩
abbrev cJ7_fill_53178 : ByteArray := prog_20_method_103_code
def yJ7_fill_53178 : MethodName := ⟨RJ7, "fill", "([II)V"⟩
def RJ3 : String := "jdk/internal/util/Preconditions"
def TJ3 : u_T := fun k => match k with
  | _ => ("", "", "", false)
def tyJ3 : Nat → FieldType := fun k => match k with
  | _ => .int
theorem nmJ3 : ∀ a, a < 0 → ∀ b, b < 0 → a ≠ b → (TJ3 a).2.1 ≠ (TJ3 b).2.1 := by decide +kernel
theorem tyJ3_ok : ∀ k, k < 0 → parseFieldDescriptor (TJ3 k).2.2.1 = some (tyJ3 k) := by decide +kernel
abbrev cJ3_checkIndex_8e157 : ByteArray := prog_21_method_11_code
def yJ3_checkIndex_8e157 : MethodName := ⟨RJ3, "checkIndex", "(IILjava/util/function/BiFunction;)I"⟩
def RL : String := "MadeOfLaw"
abbrev cL_law : ByteArray := code
abbrev vwCl : List vw_C := [(RX0, TX0, 1), (RX1, TX1, 6), (RX2, TX2, 6), (RX3, TX3, 3), (RX4, TX4, 5), (RX5, TX5, 2), (RX6, TX6, 1), (RX7, TX7, 6), (RX8, TX8, 2), (RX9, TX9, 5), (RX10, TX10, 3), (RX11, TX11, 15), (RX12, TX12, 48)]
end
section
/-! the picture of all cells: of each kind of cell o: (its form, its length or the number of its class, how many there are, its references) -/
def mo_lay : List (Nat × Nat × Nat × List (Nat × Nat)) := [(0, 11, 1, [(0, 1), (1, 3), (2, 6), (3, 12), (4, 18), (5, 23), (6, 28), (7, 30), (8, 32), (9, 38), (10, 33), (11, 36)]),
 (0, 5, 1, [(0, 2)]),
 (1, 30, 1, []),
 (0, 3, 1, [(0, 4), (1, 5)]),
 (1, 60, 1, []),
 (1, 60, 1, []),
 (0, 2, 1, [(0, 7), (1, 8), (2, 9), (3, 10), (4, 11)]),
 (1, 200, 1, []),
 (1, 200, 1, []),
 (1, 200, 1, []),
 (1, 200, 1, []),
 (1, 200, 1, []),
 (0, 1, 1, [(0, 13), (1, 14), (2, 15), (3, 16), (4, 17)]),
 (1, 100, 1, []),
 (1, 100, 1, []),
 (1, 100, 1, []),
 (1, 100, 1, []),
 (1, 100, 1, []),
 (0, 4, 1, [(0, 19), (1, 20), (2, 21), (3, 22)]),
 (1, 40, 1, []),
 (1, 40, 1, []),
 (3, 40, 1, []),
 (1, 40, 1, []),
 (0, 4, 1, [(0, 24), (1, 25), (2, 26), (3, 27)]),
 (1, 40, 1, []),
 (1, 40, 1, []),
 (3, 40, 1, []),
 (1, 40, 1, []),
 (0, 0, 1, [(0, 29)]),
 (1, 30, 1, []),
 (0, 8, 1, [(0, 31)]),
 (1, 200, 1, []),
 (0, 7, 1, [(0, 30)]),
 (0, 10, 1, [(0, 34), (1, 35)]),
 (2, 60, 1, []),
 (2, 60, 1, []),
 (0, 6, 1, [(0, 37)]),
 (1, 10, 1, []),
 (5, 20, 1, [(0, 39)]),
 (0, 9, 20, [(0, 40), (1, 41)]),
 (1, 30, 20, []),
 (1, 30, 20, []),
 (9, 0, 0, []),
 (9, 0, 0, []),
 (9, 0, 0, []),
 (9, 0, 0, []),
 (9, 0, 0, []),
 (9, 0, 0, []),
 (9, 0, 0, []),
 (9, 0, 0, []),
 (0, 12, 1, [(3, 51), (4, 52), (5, 53), (7, 54), (8, 55), (9, 56), (10, 57), (11, 58), (13, 59), (14, 60), (15, 61), (16, 62), (17, 63), (20, 64), (21, 65), (22, 66), (23, 67), (24, 68), (25, 69), (26, 70), (27, 71), (29, 72), (37, 73), (38, 74), (39, 75), (40, 76), (41, 77), (42, 78), (45, 79), (46, 80), (47, 81)]),
 (1, 30, 1, []),
 (1, 60, 1, []),
 (1, 60, 1, []),
 (1, 200, 1, []),
 (1, 200, 1, []),
 (1, 200, 1, []),
 (1, 200, 1, []),
 (1, 200, 1, []),
 (1, 100, 1, []),
 (1, 100, 1, []),
 (1, 100, 1, []),
 (1, 100, 1, []),
 (1, 100, 1, []),
 (1, 40, 1, []),
 (1, 40, 1, []),
 (1, 40, 1, []),
 (3, 40, 1, []),
 (1, 40, 1, []),
 (1, 40, 1, []),
 (1, 40, 1, []),
 (1, 30, 1, []),
 (4, 200, 1, []),
 (1, 20, 1, []),
 (1, 20, 1, []),
 (1, 600, 1, []),
 (1, 600, 1, []),
 (1, 600, 1, []),
 (1, 20, 1, []),
 (1, 5, 1, []),
 (1, 60, 1, []),
 (1, 60, 1, [])]
def mo_isR : List (List Nat) := [[0], [0, 1, 2, 3, 4], [0, 1, 2, 3, 4], [0, 1], [0, 1, 2, 3], [0], [0], [0], [0], [0, 1], [0, 1], [0, 1, 2, 3, 4, 5, 6, 7, 8, 9, 10, 11], [3, 4, 5, 7, 8, 9, 10, 11, 13, 14, 15, 16, 17, 20, 21, 22, 23, 24, 25, 26, 27, 29, 37, 38, 39, 40, 41, 42, 45, 46, 47]]
def mo_nf : List Nat := [1, 6, 6, 3, 5, 2, 1, 6, 2, 5, 3, 15, 48]
end
section
/-! a small machine over the picture: values, memory, one instruction's weakest precondition -/
abbrev mo_V : Type := Int32 ⊕ (Int64 ⊕ (Nat × Nat))
abbrev mo_M : Type := (Nat → Nat → Nat → Int32) × (Nat → Nat → Nat → Int64)
abbrev mo_I : Type := Nat × Nat × Instr × Nat × Nat × Int
abbrev mo_L : Type := List (Option mo_V)
abbrev mo_Q : Type := Option mo_V → mo_M → Prop
abbrev mo_S : Type := List mo_V → mo_M → mo_Q → Prop
abbrev mo_C : Type := Nat × mo_S
abbrev mo_k : Type := mo_L → List mo_V → mo_M → Prop
abbrev mo_K : Type := Nat → mo_k
/-- a method: its bytes, its class, its locals, what it returns (0 none, 1 int, 2 long, 3 boolean), its room -/
abbrev mo_T : Type := ByteArray × String × Nat × Nat × Room
def mo_at {α : Type} : List α → Nat → Option α
  | [], _ => none
  | a :: _, 0 => some a
  | _ :: r, n + 1 => mo_at r n
def mo_as : List (Nat × Nat) → Nat → Option Nat
  | [], _ => none
  | (a, b) :: r, k => bif Nat.beq a k then some b else mo_as r k
def mo_hs : List Nat → Nat → Bool
  | [], _ => false
  | a :: r, k => bif Nat.beq a k then true else mo_hs r k
/-- form and length or class of o; (9, 0) beyond -/
def mo_kd (o : Nat) : Nat × Nat := match mo_at mo_lay o with
  | some (f, n, _, _) => (f, n)
  | none => (9, 0)
def mo_N (o : Nat) : Nat := match mo_at mo_lay o with
  | some (_, _, n, _) => n
  | none => 0
def mo_rf (o k : Nat) : Nat := match mo_at mo_lay o with
  | some (_, _, _, l) => (match mo_as l k with
    | some b => b
    | none => 0)
  | none => 0
def mo_ref (ci k : Nat) : Bool := match mo_at mo_isR ci with
  | some l => mo_hs l k
  | none => false
def mo_num (ci : Nat) : Nat := match mo_at mo_nf ci with
  | some n => n
  | none => 0
def mo_ps : List (Nat × Nat) := (List.range 82).flatMap fun o => (List.range (mo_N o)).map fun w => (o, w)
/-- the cell (o, w) is there -/
def mo_in (o w : Nat) (P : Prop) : Prop := match mo_N o with
  | 0 => False
  | 1 => bif Nat.beq w 0 then P else False
  | n => w < n ∧ P
/-- the cell (o, w) is an object of class ci -/
def mo_isO (o ci : Nat) : Bool := Nat.beq (mo_kd o).1 0 && Nat.beq (mo_kd o).2 ci
def mo_lk : mo_L → Nat → Option mo_V
  | [], _ => none
  | a :: _, 0 => a
  | _ :: r, n + 1 => mo_lk r n
def mo_set : mo_L → Nat → Option mo_V → mo_L
  | [], _, _ => []
  | _ :: r, 0, v => v :: r
  | a :: r, n + 1, v => a :: mo_set r n v
def mo_st (ls : mo_L) (i : Nat) (v : mo_V) : mo_L := match i with
  | 0 => mo_set ls 0 (some v)
  | j + 1 => (match mo_lk ls j with
    | some (.inr (.inl _)) => mo_set (mo_set ls j none) (j + 1) (some v)
    | _ => mo_set ls (j + 1) (some v))
def mo_st2 (ls : mo_L) (i : Nat) (v : mo_V) : mo_L := mo_set (mo_st ls i v) (i + 1) none
def mo_wI (σ : mo_M) (o w k : Nat) (v : Int32) : mo_M := (fun a b c => if a = o ∧ b = w ∧ c = k then v else σ.1 a b c, σ.2)
def mo_wL (σ : mo_M) (o w k : Nat) (v : Int64) : mo_M := (σ.1, fun a b c => if a = o ∧ b = w ∧ c = k then v else σ.2 a b c)
/-- arrays of ints outside the picture that are only read: 90 the versions' scale, 95 the script -/
def mo_en (ex : Nat × (Nat → Int32)) (o : Nat) : Nat := bif Nat.beq o 90 then 3 else bif Nat.beq o 95 then ex.1 else 0
def mo_ev (ex : Nat × (Nat → Int32)) (o : Nat) : Nat → Int32 := bif Nat.beq o 90 then (fun k => match k with | 0 => 1000000 | 1 => 1000 | _ => 1) else ex.2
def mo_pop : Nat → List mo_V → List mo_V → Option (List mo_V × List mo_V)
  | 0, st, acc => some (acc, st)
  | _ + 1, [], _ => none
  | n + 1, v :: st, acc => mo_pop n st (v :: acc)
def mo_cat : List mo_V → Nat
  | [] => 0
  | .inr (.inl _) :: r => mo_cat r + 2
  | _ :: r => mo_cat r + 1
def mo_psh : Option mo_V → List mo_V → List mo_V
  | none, r => r
  | some v, r => v :: r
def mo_wide : mo_V → Bool
  | .inr (.inl _) => true
  | _ => false
-- shapes of the stack
def mo_1i (st : List mo_V) (f : Int32 → List mo_V → Prop) : Prop := match st with
  | .inl x :: r => f x r
  | _ => False
def mo_2i (st : List mo_V) (f : Int32 → Int32 → List mo_V → Prop) : Prop := match st with
  | .inl y :: .inl x :: r => f x y r
  | _ => False
def mo_1l (st : List mo_V) (f : Int64 → List mo_V → Prop) : Prop := match st with
  | .inr (.inl x) :: r => f x r
  | _ => False
def mo_2l (st : List mo_V) (f : Int64 → Int64 → List mo_V → Prop) : Prop := match st with
  | .inr (.inl y) :: .inr (.inl x) :: r => f x y r
  | _ => False
def mo_li (st : List mo_V) (f : Int64 → Int32 → List mo_V → Prop) : Prop := match st with
  | .inl y :: .inr (.inl x) :: r => f x y r
  | _ => False
def mo_1r (st : List mo_V) (f : Nat → Nat → List mo_V → Prop) : Prop := match st with
  | .inr (.inr (o, w)) :: r => f o w r
  | _ => False
def mo_ri (st : List mo_V) (f : Nat → Nat → Int32 → List mo_V → Prop) : Prop := match st with
  | .inl i :: .inr (.inr (o, w)) :: r => f o w i r
  | _ => False
def mo_rii (st : List mo_V) (f : Nat → Nat → Int32 → Int32 → List mo_V → Prop) : Prop := match st with
  | .inl x :: .inl i :: .inr (.inr (o, w)) :: r => f o w i x r
  | _ => False
def mo_ril (st : List mo_V) (f : Nat → Nat → Int32 → Int64 → List mo_V → Prop) : Prop := match st with
  | .inr (.inl x) :: .inl i :: .inr (.inr (o, w)) :: r => f o w i x r
  | _ => False
def mo_ldi (ls : mo_L) (i : Nat) (f : Int32 → Prop) : Prop := match mo_lk ls i with
  | some (.inl x) => f x
  | _ => False
def mo_ldl (ls : mo_L) (i : Nat) (f : Int64 → Prop) : Prop := match mo_lk ls i with
  | some (.inr (.inl x)) => f x
  | _ => False
def mo_ldr (ls : mo_L) (i : Nat) (f : Nat → Nat → Prop) : Prop := match mo_lk ls i with
  | some (.inr (.inr (o, w))) => f o w
  | _ => False
def mo_b (c : Bool) (P : Prop) : Prop := bif c then P else False
def mo_if (c : Jvm.ClassFile.Cond) (x y : Int32) (T F : Prop) : Prop := match c with
  | .eq => (x = y → T) ∧ (¬ x = y → F)
  | .ne => (¬ x = y → T) ∧ (x = y → F)
  | .lt => (x < y → T) ∧ (¬ x < y → F)
  | .ge => (y ≤ x → T) ∧ (¬ y ≤ x → F)
  | .gt => (y < x → T) ∧ (¬ y < x → F)
  | .le => (x ≤ y → T) ∧ (¬ x ≤ y → F)
/-- where a switch goes -/
def mo_sw (pc : Nat) (d lo hi : Int) (offs : Array Int) (x : Int32) : Int := if x.toInt < lo ∨ hi < x.toInt then (pc : Int) + d else (pc : Int) + (offs[(x.toInt - lo).toNat]?).getD d
def mo_call (C : mo_C) (v : Bool) (ci : Nat) (k : mo_k) (ls : mo_L) (st : List mo_V) (σ : mo_M) : Prop := match mo_pop C.1 st [] with
  | some (as, r) => mo_b (Nat.ble (mo_cat r) 8) (bif v then (mo_1r as fun o w _ => mo_b (mo_isO o ci) (mo_in o w (C.2 as σ (fun x σ' => k ls (mo_psh x r) σ')))) else C.2 as σ (fun x σ' => k ls (mo_psh x r) σ'))
  | none => False
def mo_ald (ex : Nat × (Nat → Int32)) (fm o w : Nat) (i : Int32) (σ : mo_M) (f : Int32 → Prop) : Prop :=
  bif Nat.beq (mo_kd o).1 fm then mo_in o w (vp_in i (mo_kd o).2 ∧ f (σ.1 o w i.toNatClampNeg)) else mo_b (Nat.beq fm 1 && Nat.beq w 0 && (Nat.beq o 90 || Nat.beq o 95)) (vp_in i (mo_en ex o) ∧ f (mo_ev ex o i.toNatClampNeg))
def mo_op (ex : Nat × (Nat → Int32)) (ml rt : Nat) (cs : Nat → mo_C) (K : mo_K) (Q : mo_Q) (q : mo_I) (k : mo_k) (ls : mo_L) (st : List mo_V) (σ : mo_M) : Prop :=
  match q.2.2.1 with
  | .iconst _ => k ls (.inl (Int32.ofInt q.2.2.2.2.2) :: st) σ
  | .bipush _ => k ls (.inl (Int32.ofInt q.2.2.2.2.2) :: st) σ
  | .sipush _ => k ls (.inl (Int32.ofInt q.2.2.2.2.2) :: st) σ
  | .ldc _ => bif Nat.beq q.2.2.2.1 0 then k ls (.inl (Int32.ofInt q.2.2.2.2.2) :: st) σ else k ls (.inr (.inr (q.2.2.2.1, 0)) :: st) σ
  | .ldc_w _ => k ls (.inl (Int32.ofInt q.2.2.2.2.2) :: st) σ
  | .ldc2_w _ => k ls (.inr (.inl (Int64.ofInt q.2.2.2.2.2)) :: st) σ
  | .lconst _ => k ls (.inr (.inl (Int64.ofInt q.2.2.2.2.2)) :: st) σ
  | .iload _ => mo_ldi ls q.2.2.2.1 fun x => k ls (.inl x :: st) σ
  | .iload_n _ => mo_ldi ls q.2.2.2.1 fun x => k ls (.inl x :: st) σ
  | .lload _ => mo_ldl ls q.2.2.2.1 fun x => k ls (.inr (.inl x) :: st) σ
  | .lload_n _ => mo_ldl ls q.2.2.2.1 fun x => k ls (.inr (.inl x) :: st) σ
  | .aload _ => mo_ldr ls q.2.2.2.1 fun o w => k ls (.inr (.inr (o, w)) :: st) σ
  | .aload_n _ => mo_ldr ls q.2.2.2.1 fun o w => k ls (.inr (.inr (o, w)) :: st) σ
  | .istore _ => mo_b (Nat.blt q.2.2.2.1 ml) (mo_1i st fun x r => k (mo_st ls q.2.2.2.1 (.inl x)) r σ)
  | .istore_n _ => mo_b (Nat.blt q.2.2.2.1 ml) (mo_1i st fun x r => k (mo_st ls q.2.2.2.1 (.inl x)) r σ)
  | .lstore _ => mo_b (Nat.blt (q.2.2.2.1 + 1) ml) (mo_1l st fun x r => k (mo_st2 ls q.2.2.2.1 (.inr (.inl x))) r σ)
  | .lstore_n _ => mo_b (Nat.blt (q.2.2.2.1 + 1) ml) (mo_1l st fun x r => k (mo_st2 ls q.2.2.2.1 (.inr (.inl x))) r σ)
  | .astore _ => mo_b (Nat.blt q.2.2.2.1 ml) (mo_1r st fun o w r => k (mo_st ls q.2.2.2.1 (.inr (.inr (o, w)))) r σ)
  | .astore_n _ => mo_b (Nat.blt q.2.2.2.1 ml) (mo_1r st fun o w r => k (mo_st ls q.2.2.2.1 (.inr (.inr (o, w)))) r σ)
  | .iinc _ _ => mo_b (Nat.blt q.2.2.2.1 ml) (mo_ldi ls q.2.2.2.1 fun x => k (mo_st ls q.2.2.2.1 (.inl (x + Int32.ofInt q.2.2.2.2.2))) st σ)
  | .iadd => mo_2i st fun x y r => k ls (.inl (x + y) :: r) σ
  | .isub => mo_2i st fun x y r => k ls (.inl (x - y) :: r) σ
  | .imul => mo_2i st fun x y r => k ls (.inl (x * y) :: r) σ
  | .idiv => mo_2i st fun x y r => ¬ y = 0 ∧ k ls (.inl (x / y) :: r) σ
  | .irem => mo_2i st fun x y r => ¬ y = 0 ∧ k ls (.inl (x - x / y * y) :: r) σ
  | .ineg => mo_1i st fun x r => k ls (.inl (-x) :: r) σ
  | .iand => mo_2i st fun x y r => k ls (.inl (x &&& y) :: r) σ
  | .ior => mo_2i st fun x y r => k ls (.inl (x ||| y) :: r) σ
  | .ixor => mo_2i st fun x y r => k ls (.inl (x ^^^ y) :: r) σ
  | .ishl => mo_2i st fun x y r => k ls (.inl (x <<< (y &&& 31)) :: r) σ
  | .ishr => mo_2i st fun x y r => k ls (.inl (x >>> (y &&& 31)) :: r) σ
  | .iushr => mo_2i st fun x y r => k ls (.inl (x.toUInt32 >>> (y.toUInt32 &&& Int32.toUInt32 31)).toInt32 :: r) σ
  | .ladd => mo_2l st fun x y r => k ls (.inr (.inl (x + y)) :: r) σ
  | .land => mo_2l st fun x y r => k ls (.inr (.inl (x &&& y)) :: r) σ
  | .lor => mo_2l st fun x y r => k ls (.inr (.inl (x ||| y)) :: r) σ
  | .lxor => mo_2l st fun x y r => k ls (.inr (.inl (x ^^^ y)) :: r) σ
  | .lshl => mo_li st fun x y r => k ls (.inr (.inl (x <<< (y.toInt64 &&& 63))) :: r) σ
  | .lshr => mo_li st fun x y r => k ls (.inr (.inl (x >>> (y.toInt64 &&& 63))) :: r) σ
  | .lushr => mo_li st fun x y r => k ls (.inr (.inl (x.toUInt64 >>> (y.toInt64.toUInt64 &&& Int64.toUInt64 63)).toInt64) :: r) σ
  | .i2l => mo_1i st fun x r => k ls (.inr (.inl x.toInt64) :: r) σ
  | .l2i => mo_1l st fun x r => k ls (.inl x.toInt32 :: r) σ
  | .i2b => mo_1i st fun x r => k ls (.inl x.toInt8.toInt32 :: r) σ
  | .lcmp => mo_2l st fun x y r => k ls (.inl (lg_cmp x y) :: r) σ
  | .dup => (match st with
    | v :: r => mo_b (!mo_wide v) (k ls (v :: v :: r) σ)
    | _ => False)
  | .dup2 => (match st with
    | a :: b :: r => mo_b (!mo_wide a && !mo_wide b) (k ls (a :: b :: a :: b :: r) σ)
    | _ => False)
  | .pop => (match st with
    | v :: r => mo_b (!mo_wide v) (k ls r σ)
    | _ => False)
  | .getfield _ => mo_1r st fun o w r => mo_b (mo_isO o q.2.2.2.1) (mo_in o w (bif mo_ref q.2.2.2.1 q.2.2.2.2.1 then k ls (.inr (.inr (mo_rf o q.2.2.2.2.1, w)) :: r) σ else k ls (.inl (σ.1 o w q.2.2.2.2.1) :: r) σ))
  | .putfield _ => (match st with
    | .inl v :: .inr (.inr (o, w)) :: r => mo_b (mo_isO o q.2.2.2.1 && !mo_ref q.2.2.2.1 q.2.2.2.2.1) (mo_in o w (k ls r (mo_wI σ o w q.2.2.2.2.1 v)))
    | _ => False)
  | .getstatic _ => k ls (.inr (.inr (90, 0)) :: st) σ
  | .iaload => mo_ri st fun o w i r => mo_ald ex 1 o w i σ fun x => k ls (.inl x :: r) σ
  | .baload => mo_ri st fun o w i r => bif Nat.beq (mo_kd o).1 3 then mo_ald ex 3 o w i σ fun x => k ls (.inl x :: r) σ else mo_ald ex 4 o w i σ fun x => k ls (.inl x :: r) σ
  | .laload => mo_ri st fun o w i r => mo_b (Nat.beq (mo_kd o).1 2) (mo_in o w (vp_in i (mo_kd o).2 ∧ k ls (.inr (.inl (σ.2 o w i.toNatClampNeg)) :: r) σ))
  | .aaload => mo_ri st fun o w i r => mo_b (Nat.beq (mo_kd o).1 5) (mo_in o w (vp_in i (mo_kd o).2 ∧ k ls (.inr (.inr (mo_rf o 0, i.toNatClampNeg)) :: r) σ))
  | .iastore => mo_rii st fun o w i x r => mo_b (Nat.beq (mo_kd o).1 1) (mo_in o w (vp_in i (mo_kd o).2 ∧ k ls r (mo_wI σ o w i.toNatClampNeg x)))
  | .bastore => mo_rii st fun o w i x r => bif Nat.beq (mo_kd o).1 3 then mo_in o w (vp_in i (mo_kd o).2 ∧ k ls r (mo_wI σ o w i.toNatClampNeg (vp_nar .boolean x))) else mo_b (Nat.beq (mo_kd o).1 4) (mo_in o w (vp_in i (mo_kd o).2 ∧ k ls r (mo_wI σ o w i.toNatClampNeg (vp_nar .byte x))))
  | .lastore => mo_ril st fun o w i x r => mo_b (Nat.beq (mo_kd o).1 2) (mo_in o w (vp_in i (mo_kd o).2 ∧ k ls r (mo_wL σ o w i.toNatClampNeg x)))
  | .arraylength => mo_1r st fun o w r => bif Nat.blt 0 (mo_kd o).1 && Nat.blt (mo_kd o).1 6 then mo_in o w (k ls (.inl (Int32.ofNat (mo_kd o).2) :: r) σ) else mo_b (Nat.beq w 0 && (Nat.beq o 90 || Nat.beq o 95)) (k ls (.inl (Int32.ofNat (mo_en ex o)) :: r) σ)
  | .ifCond c _ => mo_1i st fun x r => mo_if c x 0 (K q.2.2.2.1 ls r σ) (k ls r σ)
  | .if_icmp c _ => mo_2i st fun x y r => mo_if c x y (K q.2.2.2.1 ls r σ) (k ls r σ)
  | .goto _ => K q.2.2.2.1 ls st σ
  | .tableswitch d lo hi offs => mo_1i st fun x r => ∀ t : Nat, mo_sw q.1 d lo hi offs x = (t : Int) → K t ls r σ
  | .ireturn => (match st with
    | [.inl v] => (match rt with
      | 1 => Q (some (.inl v)) σ
      | 3 => (v = 0 ∨ v = 1) ∧ Q (some (.inl v)) σ
      | _ => False)
    | _ => False)
  | .lreturn => (match st with
    | [.inr (.inl v)] => mo_b (Nat.beq rt 2) (Q (some (.inr (.inl v))) σ)
    | _ => False)
  | .return_ => (match st with
    | [] => mo_b (Nat.beq rt 0) (Q none σ)
    | _ => False)
  | .invokevirtual _ => mo_call (cs q.2.2.2.1) (Nat.blt q.2.2.2.2.1 50) q.2.2.2.2.1 k ls st σ
  | .invokestatic _ => mo_call (cs q.2.2.2.1) false 0 k ls st σ
  | _ => False
/-- a row of instructions -/
def mo_am (ex : Nat × (Nat → Int32)) (ml rt : Nat) (cs : Nat → mo_C) (K : mo_K) (Q : mo_Q) : List mo_I → Nat → mo_k
  | [], pc => K pc
  | q :: r, _ => mo_op ex ml rt cs K Q q (mo_am ex ml rt cs K Q r (q.1 + q.2.1))
end
