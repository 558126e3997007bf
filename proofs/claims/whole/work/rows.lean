section
/-- a private method of a class that the tables say can be made, by its rows of tables_1 -/
def lw_okq (q : MethodName × Nat) : Prop := (q.1.cls ≠ "java/lang/invoke/MethodHandle" ∧ q.1.cls ≠ "java/lang/invoke/VarHandle") ∧ Cond.instantiable q.1.cls q.2 ∈ tables_1 ∧ Cond.privateMethod q.1 ∈ tables_1 ∧ Cond.instanceMethod q.1 ∈ tables_1
theorem lw_p0 : lw_okq (⟨"MadeOf", "refuse", "(I)I"⟩, 15) := ⟨⟨by decide +kernel, by decide +kernel⟩, List.mem_of_getElem? (i := 22) (by decide +kernel), List.mem_of_getElem? (i := 311) (by decide +kernel), List.mem_of_getElem? (i := 312) (by decide +kernel)⟩
theorem lw_p1 : lw_okq (⟨"MadeOf", "accept", "(I)I"⟩, 15) := ⟨⟨by decide +kernel, by decide +kernel⟩, List.mem_of_getElem? (i := 22) (by decide +kernel), List.mem_of_getElem? (i := 319) (by decide +kernel), List.mem_of_getElem? (i := 320) (by decide +kernel)⟩
theorem lw_p2 : lw_okq (⟨"MadeOf", "isPart", "(I)Z"⟩, 15) := ⟨⟨by decide +kernel, by decide +kernel⟩, List.mem_of_getElem? (i := 22) (by decide +kernel), List.mem_of_getElem? (i := 330) (by decide +kernel), List.mem_of_getElem? (i := 331) (by decide +kernel)⟩
theorem lw_p3 : lw_okq (⟨"MadeOf", "isMake", "(I)Z"⟩, 15) := ⟨⟨by decide +kernel, by decide +kernel⟩, List.mem_of_getElem? (i := 22) (by decide +kernel), List.mem_of_getElem? (i := 358) (by decide +kernel), List.mem_of_getElem? (i := 359) (by decide +kernel)⟩
theorem lw_p4 : lw_okq (⟨"MadeOf", "isLink", "(I)Z"⟩, 15) := ⟨⟨by decide +kernel, by decide +kernel⟩, List.mem_of_getElem? (i := 22) (by decide +kernel), List.mem_of_getElem? (i := 370) (by decide +kernel), List.mem_of_getElem? (i := 371) (by decide +kernel)⟩
theorem lw_p5 : lw_okq (⟨"MadeOf", "whyNoPair", "(IIILMadeOf$Pairs;)I"⟩, 15) := ⟨⟨by decide +kernel, by decide +kernel⟩, List.mem_of_getElem? (i := 22) (by decide +kernel), List.mem_of_getElem? (i := 398) (by decide +kernel), List.mem_of_getElem? (i := 399) (by decide +kernel)⟩
theorem lw_p6 : lw_okq (⟨"MadeOf$Groups", "merge", "(I)V"⟩, 1) := ⟨⟨by decide +kernel, by decide +kernel⟩, List.mem_of_getElem? (i := 153) (by decide +kernel), List.mem_of_getElem? (i := 434) (by decide +kernel), List.mem_of_getElem? (i := 435) (by decide +kernel)⟩
theorem lw_p7 : lw_okq (⟨"MadeOf$Reader", "step", "()V"⟩, 6) := ⟨⟨by decide +kernel, by decide +kernel⟩, List.mem_of_getElem? (i := 180) (by decide +kernel), List.mem_of_getElem? (i := 467) (by decide +kernel), List.mem_of_getElem? (i := 468) (by decide +kernel)⟩
theorem lw_p8 : lw_okq (⟨"MadeOf$Reader", "kindAt", "(I)I"⟩, 6) := ⟨⟨by decide +kernel, by decide +kernel⟩, List.mem_of_getElem? (i := 180) (by decide +kernel), List.mem_of_getElem? (i := 471) (by decide +kernel), List.mem_of_getElem? (i := 472) (by decide +kernel)⟩
theorem lw_p9 : lw_okq (⟨"MadeOf$Reader", "takeWord", "(Ljava/lang/String;)Z"⟩, 6) := ⟨⟨by decide +kernel, by decide +kernel⟩, List.mem_of_getElem? (i := 180) (by decide +kernel), List.mem_of_getElem? (i := 476) (by decide +kernel), List.mem_of_getElem? (i := 477) (by decide +kernel)⟩
theorem lw_p10 : lw_okq (⟨"MadeOf$Reader", "takeNumber", "(I)Z"⟩, 6) := ⟨⟨by decide +kernel, by decide +kernel⟩, List.mem_of_getElem? (i := 180) (by decide +kernel), List.mem_of_getElem? (i := 528) (by decide +kernel), List.mem_of_getElem? (i := 529) (by decide +kernel)⟩
theorem lw_p11 : lw_okq (⟨"MadeOf$Reader", "valueAtHand", "()I"⟩, 6) := ⟨⟨by decide +kernel, by decide +kernel⟩, List.mem_of_getElem? (i := 180) (by decide +kernel), List.mem_of_getElem? (i := 532) (by decide +kernel), List.mem_of_getElem? (i := 533) (by decide +kernel)⟩
theorem lw_p12 : lw_okq (⟨"MadeOf$Reader", "readTest", "(LMadeOf$Warning;)Z"⟩, 6) := ⟨⟨by decide +kernel, by decide +kernel⟩, List.mem_of_getElem? (i := 180) (by decide +kernel), List.mem_of_getElem? (i := 548) (by decide +kernel), List.mem_of_getElem? (i := 549) (by decide +kernel)⟩
theorem lw_p13 : lw_okq (⟨"MadeOf$Reader", "takeSign", "(C)Z"⟩, 6) := ⟨⟨by decide +kernel, by decide +kernel⟩, List.mem_of_getElem? (i := 180) (by decide +kernel), List.mem_of_getElem? (i := 553) (by decide +kernel), List.mem_of_getElem? (i := 554) (by decide +kernel)⟩
theorem lw_p14 : lw_okq (⟨"MadeOf$Reader", "readVersion", "()Z"⟩, 6) := ⟨⟨by decide +kernel, by decide +kernel⟩, List.mem_of_getElem? (i := 180) (by decide +kernel), List.mem_of_getElem? (i := 557) (by decide +kernel), List.mem_of_getElem? (i := 558) (by decide +kernel)⟩
theorem lw_p15 : lw_okq (⟨"MadeOf", "isWarning", "(I)Z"⟩, 15) := ⟨⟨by decide +kernel, by decide +kernel⟩, List.mem_of_getElem? (i := 22) (by decide +kernel), List.mem_of_getElem? (i := 583) (by decide +kernel), List.mem_of_getElem? (i := 584) (by decide +kernel)⟩
def lw_privs_1 : List (MethodName × Nat) := [(⟨"MadeOf", "refuse", "(I)I"⟩, 15), (⟨"MadeOf", "accept", "(I)I"⟩, 15), (⟨"MadeOf", "isPart", "(I)Z"⟩, 15), (⟨"MadeOf", "isMake", "(I)Z"⟩, 15), (⟨"MadeOf", "isLink", "(I)Z"⟩, 15), (⟨"MadeOf", "whyNoPair", "(IIILMadeOf$Pairs;)I"⟩, 15), (⟨"MadeOf$Groups", "merge", "(I)V"⟩, 1), (⟨"MadeOf$Reader", "step", "()V"⟩, 6), (⟨"MadeOf$Reader", "kindAt", "(I)I"⟩, 6), (⟨"MadeOf$Reader", "takeWord", "(Ljava/lang/String;)Z"⟩, 6), (⟨"MadeOf$Reader", "takeNumber", "(I)Z"⟩, 6), (⟨"MadeOf$Reader", "valueAtHand", "()I"⟩, 6), (⟨"MadeOf$Reader", "readTest", "(LMadeOf$Warning;)Z"⟩, 6), (⟨"MadeOf$Reader", "takeSign", "(C)Z"⟩, 6), (⟨"MadeOf$Reader", "readVersion", "()Z"⟩, 6), (⟨"MadeOf", "isWarning", "(I)Z"⟩, 15)]
theorem lw_r1 : ∀ q ∈ lw_privs_1, lw_okq q := List.forall_mem_cons.mpr ⟨lw_p0, List.forall_mem_cons.mpr ⟨lw_p1, List.forall_mem_cons.mpr ⟨lw_p2, List.forall_mem_cons.mpr ⟨lw_p3, List.forall_mem_cons.mpr ⟨lw_p4, List.forall_mem_cons.mpr ⟨lw_p5, List.forall_mem_cons.mpr ⟨lw_p6, List.forall_mem_cons.mpr ⟨lw_p7, List.forall_mem_cons.mpr ⟨lw_p8, List.forall_mem_cons.mpr ⟨lw_p9, List.forall_mem_cons.mpr ⟨lw_p10, List.forall_mem_cons.mpr ⟨lw_p11, List.forall_mem_cons.mpr ⟨lw_p12, List.forall_mem_cons.mpr ⟨lw_p13, List.forall_mem_cons.mpr ⟨lw_p14, List.forall_mem_cons.mpr ⟨lw_p15, fun _ h => absurd h List.not_mem_nil⟩⟩⟩⟩⟩⟩⟩⟩⟩⟩⟩⟩⟩⟩⟩⟩
theorem lw_p16 : lw_okq (⟨"MadeOf", "badMakes", "(II)J"⟩, 15) := ⟨⟨by decide +kernel, by decide +kernel⟩, List.mem_of_getElem? (i := 22) (by decide +kernel), List.mem_of_getElem? (i := 587) (by decide +kernel), List.mem_of_getElem? (i := 588) (by decide +kernel)⟩
theorem lw_p17 : lw_okq (⟨"MadeOf", "trace", "(III)I"⟩, 15) := ⟨⟨by decide +kernel, by decide +kernel⟩, List.mem_of_getElem? (i := 22) (by decide +kernel), List.mem_of_getElem? (i := 599) (by decide +kernel), List.mem_of_getElem? (i := 600) (by decide +kernel)⟩
theorem lw_p18 : lw_okq (⟨"MadeOf", "hitMakes", "(IIZ)J"⟩, 15) := ⟨⟨by decide +kernel, by decide +kernel⟩, List.mem_of_getElem? (i := 22) (by decide +kernel), List.mem_of_getElem? (i := 603) (by decide +kernel), List.mem_of_getElem? (i := 604) (by decide +kernel)⟩
theorem lw_p19 : lw_okq (⟨"MadeOf$Ways", "holdersOf", "(J)J"⟩, 3) := ⟨⟨by decide +kernel, by decide +kernel⟩, List.mem_of_getElem? (i := 207) (by decide +kernel), List.mem_of_getElem? (i := 619) (by decide +kernel), List.mem_of_getElem? (i := 620) (by decide +kernel)⟩
theorem lw_p20 : lw_okq (⟨"MadeOf$Holdings", "isOf", "(IJI)Z"⟩, 6) := ⟨⟨by decide +kernel, by decide +kernel⟩, List.mem_of_getElem? (i := 99) (by decide +kernel), List.mem_of_getElem? (i := 647) (by decide +kernel), List.mem_of_getElem? (i := 648) (by decide +kernel)⟩
theorem lw_p21 : lw_okq (⟨"MadeOf", "groupsInside", "(III)I"⟩, 15) := ⟨⟨by decide +kernel, by decide +kernel⟩, List.mem_of_getElem? (i := 22) (by decide +kernel), List.mem_of_getElem? (i := 664) (by decide +kernel), List.mem_of_getElem? (i := 665) (by decide +kernel)⟩
theorem lw_p22 : lw_okq (⟨"MadeOf", "raiseQuestions", "(I)V"⟩, 15) := ⟨⟨by decide +kernel, by decide +kernel⟩, List.mem_of_getElem? (i := 22) (by decide +kernel), List.mem_of_getElem? (i := 682) (by decide +kernel), List.mem_of_getElem? (i := 683) (by decide +kernel)⟩
theorem lw_p23 : lw_okq (⟨"MadeOf", "makerOf", "(I)I"⟩, 15) := ⟨⟨by decide +kernel, by decide +kernel⟩, List.mem_of_getElem? (i := 22) (by decide +kernel), List.mem_of_getElem? (i := 693) (by decide +kernel), List.mem_of_getElem? (i := 694) (by decide +kernel)⟩
theorem lw_p24 : lw_okq (⟨"MadeOfModel", "ends", "(I)I"⟩, 48) := ⟨⟨by decide +kernel, by decide +kernel⟩, List.mem_of_getElem? (i := 722) (by decide +kernel), List.mem_of_getElem? (i := 880) (by decide +kernel), List.mem_of_getElem? (i := 881) (by decide +kernel)⟩
theorem lw_p25 : lw_okq (⟨"MadeOfModel", "isPart", "(I)Z"⟩, 48) := ⟨⟨by decide +kernel, by decide +kernel⟩, List.mem_of_getElem? (i := 722) (by decide +kernel), List.mem_of_getElem? (i := 891) (by decide +kernel), List.mem_of_getElem? (i := 892) (by decide +kernel)⟩
theorem lw_p26 : lw_okq (⟨"MadeOfModel", "found", "(II)I"⟩, 48) := ⟨⟨by decide +kernel, by decide +kernel⟩, List.mem_of_getElem? (i := 722) (by decide +kernel), List.mem_of_getElem? (i := 898) (by decide +kernel), List.mem_of_getElem? (i := 899) (by decide +kernel)⟩
theorem lw_p27 : lw_okq (⟨"MadeOfModel", "isMake", "(I)Z"⟩, 48) := ⟨⟨by decide +kernel, by decide +kernel⟩, List.mem_of_getElem? (i := 722) (by decide +kernel), List.mem_of_getElem? (i := 913) (by decide +kernel), List.mem_of_getElem? (i := 914) (by decide +kernel)⟩
theorem lw_p28 : lw_okq (⟨"MadeOfModel", "is", "(II)Z"⟩, 48) := ⟨⟨by decide +kernel, by decide +kernel⟩, List.mem_of_getElem? (i := 722) (by decide +kernel), List.mem_of_getElem? (i := 925) (by decide +kernel), List.mem_of_getElem? (i := 926) (by decide +kernel)⟩
theorem lw_p29 : lw_okq (⟨"MadeOfModel", "pairs", "(III)I"⟩, 48) := ⟨⟨by decide +kernel, by decide +kernel⟩, List.mem_of_getElem? (i := 722) (by decide +kernel), List.mem_of_getElem? (i := 937) (by decide +kernel), List.mem_of_getElem? (i := 938) (by decide +kernel)⟩
theorem lw_p30 : lw_okq (⟨"MadeOfModel", "gathers", "(I)V"⟩, 48) := ⟨⟨by decide +kernel, by decide +kernel⟩, List.mem_of_getElem? (i := 722) (by decide +kernel), List.mem_of_getElem? (i := 953) (by decide +kernel), List.mem_of_getElem? (i := 954) (by decide +kernel)⟩
theorem lw_p31 : lw_okq (⟨"MadeOfModel", "isQuarrel", "(III)Z"⟩, 48) := ⟨⟨by decide +kernel, by decide +kernel⟩, List.mem_of_getElem? (i := 722) (by decide +kernel), List.mem_of_getElem? (i := 957) (by decide +kernel), List.mem_of_getElem? (i := 958) (by decide +kernel)⟩
def lw_privs_2 : List (MethodName × Nat) := [(⟨"MadeOf", "badMakes", "(II)J"⟩, 15), (⟨"MadeOf", "trace", "(III)I"⟩, 15), (⟨"MadeOf", "hitMakes", "(IIZ)J"⟩, 15), (⟨"MadeOf$Ways", "holdersOf", "(J)J"⟩, 3), (⟨"MadeOf$Holdings", "isOf", "(IJI)Z"⟩, 6), (⟨"MadeOf", "groupsInside", "(III)I"⟩, 15), (⟨"MadeOf", "raiseQuestions", "(I)V"⟩, 15), (⟨"MadeOf", "makerOf", "(I)I"⟩, 15), (⟨"MadeOfModel", "ends", "(I)I"⟩, 48), (⟨"MadeOfModel", "isPart", "(I)Z"⟩, 48), (⟨"MadeOfModel", "found", "(II)I"⟩, 48), (⟨"MadeOfModel", "isMake", "(I)Z"⟩, 48), (⟨"MadeOfModel", "is", "(II)Z"⟩, 48), (⟨"MadeOfModel", "pairs", "(III)I"⟩, 48), (⟨"MadeOfModel", "gathers", "(I)V"⟩, 48), (⟨"MadeOfModel", "isQuarrel", "(III)Z"⟩, 48)]
theorem lw_r2 : ∀ q ∈ lw_privs_2, lw_okq q := List.forall_mem_cons.mpr ⟨lw_p16, List.forall_mem_cons.mpr ⟨lw_p17, List.forall_mem_cons.mpr ⟨lw_p18, List.forall_mem_cons.mpr ⟨lw_p19, List.forall_mem_cons.mpr ⟨lw_p20, List.forall_mem_cons.mpr ⟨lw_p21, List.forall_mem_cons.mpr ⟨lw_p22, List.forall_mem_cons.mpr ⟨lw_p23, List.forall_mem_cons.mpr ⟨lw_p24, List.forall_mem_cons.mpr ⟨lw_p25, List.forall_mem_cons.mpr ⟨lw_p26, List.forall_mem_cons.mpr ⟨lw_p27, List.forall_mem_cons.mpr ⟨lw_p28, List.forall_mem_cons.mpr ⟨lw_p29, List.forall_mem_cons.mpr ⟨lw_p30, List.forall_mem_cons.mpr ⟨lw_p31, fun _ h => absurd h List.not_mem_nil⟩⟩⟩⟩⟩⟩⟩⟩⟩⟩⟩⟩⟩⟩⟩⟩
theorem lw_p32 : lw_okq (⟨"MadeOfModel", "next", "()V"⟩, 48) := ⟨⟨by decide +kernel, by decide +kernel⟩, List.mem_of_getElem? (i := 722) (by decide +kernel), List.mem_of_getElem? (i := 977) (by decide +kernel), List.mem_of_getElem? (i := 978) (by decide +kernel)⟩
theorem lw_p33 : lw_okq (⟨"MadeOfModel", "isIn", "(III)Z"⟩, 48) := ⟨⟨by decide +kernel, by decide +kernel⟩, List.mem_of_getElem? (i := 722) (by decide +kernel), List.mem_of_getElem? (i := 981) (by decide +kernel), List.mem_of_getElem? (i := 982) (by decide +kernel)⟩
theorem lw_p34 : lw_okq (⟨"MadeOfModel", "isWord", "(J)Z"⟩, 48) := ⟨⟨by decide +kernel, by decide +kernel⟩, List.mem_of_getElem? (i := 722) (by decide +kernel), List.mem_of_getElem? (i := 986) (by decide +kernel), List.mem_of_getElem? (i := 987) (by decide +kernel)⟩
theorem lw_p35 : lw_okq (⟨"MadeOfModel", "faults", "()V"⟩, 48) := ⟨⟨by decide +kernel, by decide +kernel⟩, List.mem_of_getElem? (i := 722) (by decide +kernel), List.mem_of_getElem? (i := 992) (by decide +kernel), List.mem_of_getElem? (i := 993) (by decide +kernel)⟩
theorem lw_p36 : lw_okq (⟨"MadeOfModel", "good", "()Z"⟩, 48) := ⟨⟨by decide +kernel, by decide +kernel⟩, List.mem_of_getElem? (i := 722) (by decide +kernel), List.mem_of_getElem? (i := 996) (by decide +kernel), List.mem_of_getElem? (i := 997) (by decide +kernel)⟩
theorem lw_p37 : lw_okq (⟨"MadeOfModel", "number", "(I)I"⟩, 48) := ⟨⟨by decide +kernel, by decide +kernel⟩, List.mem_of_getElem? (i := 722) (by decide +kernel), List.mem_of_getElem? (i := 1000) (by decide +kernel), List.mem_of_getElem? (i := 1001) (by decide +kernel)⟩
theorem lw_p38 : lw_okq (⟨"MadeOfModel", "test", "()V"⟩, 48) := ⟨⟨by decide +kernel, by decide +kernel⟩, List.mem_of_getElem? (i := 722) (by decide +kernel), List.mem_of_getElem? (i := 1004) (by decide +kernel), List.mem_of_getElem? (i := 1005) (by decide +kernel)⟩
theorem lw_p39 : lw_okq (⟨"MadeOfModel", "isSign", "(I)Z"⟩, 48) := ⟨⟨by decide +kernel, by decide +kernel⟩, List.mem_of_getElem? (i := 722) (by decide +kernel), List.mem_of_getElem? (i := 1009) (by decide +kernel), List.mem_of_getElem? (i := 1010) (by decide +kernel)⟩
theorem lw_p40 : lw_okq (⟨"MadeOfModel", "puts", "(II)V"⟩, 48) := ⟨⟨by decide +kernel, by decide +kernel⟩, List.mem_of_getElem? (i := 722) (by decide +kernel), List.mem_of_getElem? (i := 1013) (by decide +kernel), List.mem_of_getElem? (i := 1014) (by decide +kernel)⟩
theorem lw_p41 : lw_okq (⟨"MadeOfModel", "reads", "()I"⟩, 48) := ⟨⟨by decide +kernel, by decide +kernel⟩, List.mem_of_getElem? (i := 722) (by decide +kernel), List.mem_of_getElem? (i := 1017) (by decide +kernel), List.mem_of_getElem? (i := 1018) (by decide +kernel)⟩
theorem lw_p42 : lw_okq (⟨"MadeOfModel", "isWarning", "(I)Z"⟩, 48) := ⟨⟨by decide +kernel, by decide +kernel⟩, List.mem_of_getElem? (i := 722) (by decide +kernel), List.mem_of_getElem? (i := 1031) (by decide +kernel), List.mem_of_getElem? (i := 1032) (by decide +kernel)⟩
theorem lw_p43 : lw_okq (⟨"MadeOfModel", "isBad", "(II)Z"⟩, 48) := ⟨⟨by decide +kernel, by decide +kernel⟩, List.mem_of_getElem? (i := 722) (by decide +kernel), List.mem_of_getElem? (i := 1035) (by decide +kernel), List.mem_of_getElem? (i := 1036) (by decide +kernel)⟩
theorem lw_p44 : lw_okq (⟨"MadeOfModel", "holds", "(II)Z"⟩, 48) := ⟨⟨by decide +kernel, by decide +kernel⟩, List.mem_of_getElem? (i := 722) (by decide +kernel), List.mem_of_getElem? (i := 1039) (by decide +kernel), List.mem_of_getElem? (i := 1040) (by decide +kernel)⟩
theorem lw_p45 : lw_okq (⟨"MadeOfModel", "hits", "(II)V"⟩, 48) := ⟨⟨by decide +kernel, by decide +kernel⟩, List.mem_of_getElem? (i := 722) (by decide +kernel), List.mem_of_getElem? (i := 1047) (by decide +kernel), List.mem_of_getElem? (i := 1048) (by decide +kernel)⟩
theorem lw_p46 : lw_okq (⟨"MadeOfModel", "spreads", "([IIZ)V"⟩, 48) := ⟨⟨by decide +kernel, by decide +kernel⟩, List.mem_of_getElem? (i := 722) (by decide +kernel), List.mem_of_getElem? (i := 1051) (by decide +kernel), List.mem_of_getElem? (i := 1052) (by decide +kernel)⟩
theorem lw_p47 : lw_okq (⟨"MadeOfModel", "hitOf", "(I)I"⟩, 48) := ⟨⟨by decide +kernel, by decide +kernel⟩, List.mem_of_getElem? (i := 722) (by decide +kernel), List.mem_of_getElem? (i := 1055) (by decide +kernel), List.mem_of_getElem? (i := 1056) (by decide +kernel)⟩
def lw_privs_3 : List (MethodName × Nat) := [(⟨"MadeOfModel", "next", "()V"⟩, 48), (⟨"MadeOfModel", "isIn", "(III)Z"⟩, 48), (⟨"MadeOfModel", "isWord", "(J)Z"⟩, 48), (⟨"MadeOfModel", "faults", "()V"⟩, 48), (⟨"MadeOfModel", "good", "()Z"⟩, 48), (⟨"MadeOfModel", "number", "(I)I"⟩, 48), (⟨"MadeOfModel", "test", "()V"⟩, 48), (⟨"MadeOfModel", "isSign", "(I)Z"⟩, 48), (⟨"MadeOfModel", "puts", "(II)V"⟩, 48), (⟨"MadeOfModel", "reads", "()I"⟩, 48), (⟨"MadeOfModel", "isWarning", "(I)Z"⟩, 48), (⟨"MadeOfModel", "isBad", "(II)Z"⟩, 48), (⟨"MadeOfModel", "holds", "(II)Z"⟩, 48), (⟨"MadeOfModel", "hits", "(II)V"⟩, 48), (⟨"MadeOfModel", "spreads", "([IIZ)V"⟩, 48), (⟨"MadeOfModel", "hitOf", "(I)I"⟩, 48)]
theorem lw_r3 : ∀ q ∈ lw_privs_3, lw_okq q := List.forall_mem_cons.mpr ⟨lw_p32, List.forall_mem_cons.mpr ⟨lw_p33, List.forall_mem_cons.mpr ⟨lw_p34, List.forall_mem_cons.mpr ⟨lw_p35, List.forall_mem_cons.mpr ⟨lw_p36, List.forall_mem_cons.mpr ⟨lw_p37, List.forall_mem_cons.mpr ⟨lw_p38, List.forall_mem_cons.mpr ⟨lw_p39, List.forall_mem_cons.mpr ⟨lw_p40, List.forall_mem_cons.mpr ⟨lw_p41, List.forall_mem_cons.mpr ⟨lw_p42, List.forall_mem_cons.mpr ⟨lw_p43, List.forall_mem_cons.mpr ⟨lw_p44, List.forall_mem_cons.mpr ⟨lw_p45, List.forall_mem_cons.mpr ⟨lw_p46, List.forall_mem_cons.mpr ⟨lw_p47, fun _ h => absurd h List.not_mem_nil⟩⟩⟩⟩⟩⟩⟩⟩⟩⟩⟩⟩⟩⟩⟩⟩
theorem lw_p48 : lw_okq (⟨"MadeOfModel", "nextOf", "(II[IZ)I"⟩, 48) := ⟨⟨by decide +kernel, by decide +kernel⟩, List.mem_of_getElem? (i := 722) (by decide +kernel), List.mem_of_getElem? (i := 1063) (by decide +kernel), List.mem_of_getElem? (i := 1064) (by decide +kernel)⟩
theorem lw_p49 : lw_okq (⟨"MadeOfModel", "hasOf", "(III)I"⟩, 48) := ⟨⟨by decide +kernel, by decide +kernel⟩, List.mem_of_getElem? (i := 722) (by decide +kernel), List.mem_of_getElem? (i := 1074) (by decide +kernel), List.mem_of_getElem? (i := 1075) (by decide +kernel)⟩
theorem lw_p50 : lw_okq (⟨"MadeOfModel", "hasLink", "(IIII)Z"⟩, 48) := ⟨⟨by decide +kernel, by decide +kernel⟩, List.mem_of_getElem? (i := 722) (by decide +kernel), List.mem_of_getElem? (i := 1086) (by decide +kernel), List.mem_of_getElem? (i := 1087) (by decide +kernel)⟩
theorem lw_p51 : lw_okq (⟨"MadeOfModel", "settles", "(II)Z"⟩, 48) := ⟨⟨by decide +kernel, by decide +kernel⟩, List.mem_of_getElem? (i := 722) (by decide +kernel), List.mem_of_getElem? (i := 1098) (by decide +kernel), List.mem_of_getElem? (i := 1099) (by decide +kernel)⟩
def lw_privs_4 : List (MethodName × Nat) := [(⟨"MadeOfModel", "nextOf", "(II[IZ)I"⟩, 48), (⟨"MadeOfModel", "hasOf", "(III)I"⟩, 48), (⟨"MadeOfModel", "hasLink", "(IIII)Z"⟩, 48), (⟨"MadeOfModel", "settles", "(II)Z"⟩, 48)]
theorem lw_r4 : ∀ q ∈ lw_privs_4, lw_okq q := List.forall_mem_cons.mpr ⟨lw_p48, List.forall_mem_cons.mpr ⟨lw_p49, List.forall_mem_cons.mpr ⟨lw_p50, List.forall_mem_cons.mpr ⟨lw_p51, fun _ h => absurd h List.not_mem_nil⟩⟩⟩⟩
def lw_privs : List (MethodName × Nat) := lw_privs_1 ++ (lw_privs_2 ++ (lw_privs_3 ++ (lw_privs_4)))
def lw_tbl : List Cond := k2_sels lw_privs ++ tables_1
theorem lw_privs_ok : ∀ q ∈ lw_privs, lw_okq q := by
  show ∀ q ∈ lw_privs_1 ++ (lw_privs_2 ++ (lw_privs_3 ++ (lw_privs_4))), lw_okq q
  exact List.forall_mem_append.mpr ⟨lw_r1, List.forall_mem_append.mpr ⟨lw_r2, List.forall_mem_append.mpr ⟨lw_r3, lw_r4⟩⟩⟩
def RX0 : String := "MadeOf$Groups"
def TX0 : u_T := fun k => match k with
  | _ => ("MadeOf$Groups", "members", "[I", true)
def tyX0 : Nat → FieldType := fun k => match k with
  | _ => .array .int
theorem nmX0 : ∀ a, a < 1 → ∀ b, b < 1 → a ≠ b → (TX0 a).2.1 ≠ (TX0 b).2.1 := by decide +kernel
theorem tyX0_ok : ∀ k, k < 1 → parseFieldDescriptor (TX0 k).2.2.1 = some (tyX0 k) := by decide +kernel
abbrev cX0_init : ByteArray := prog_2_method_1_code
def yX0_init : MethodName := ⟨RX0, "<init>", "()V"⟩
abbrev cX0_settle : ByteArray := prog_2_method_2_code
def yX0_settle : MethodName := ⟨RX0, "settle", "(LMadeOf$Pairs;LMadeOf$Pairs;I)I"⟩
abbrev cX0_merge : ByteArray := prog_2_method_3_code
def yX0_merge : MethodName := ⟨RX0, "merge", "(I)V"⟩
def RX1 : String := "MadeOf$Holdings"
def TX1 : u_T := fun k => match k with
  | 0 => ("MadeOf$Holdings", "site", "[I", true)
  | 1 => ("MadeOf$Holdings", "make", "[I", true)
  | 2 => ("MadeOf$Holdings", "from", "[I", true)
  | 3 => ("MadeOf$Holdings", "to", "[I", true)
  | 4 => ("MadeOf$Holdings", "knownFrom", "[I", true)
  | _ => ("MadeOf$Holdings", "size", "I", false)
def tyX1 : Nat → FieldType := fun k => match k with
  | 0 => .array .int
  | 1 => .array .int
  | 2 => .array .int
  | 3 => .array .int
  | 4 => .array .int
  | _ => .int
theorem nmX1 : ∀ a, a < 6 → ∀ b, b < 6 → a ≠ b → (TX1 a).2.1 ≠ (TX1 b).2.1 := by decide +kernel
theorem tyX1_ok : ∀ k, k < 6 → parseFieldDescriptor (TX1 k).2.2.1 = some (tyX1 k) := by decide +kernel
abbrev cX1_init : ByteArray := prog_3_method_1_code
def yX1_init : MethodName := ⟨RX1, "<init>", "()V"⟩
abbrev cX1_add : ByteArray := prog_3_method_2_code
def yX1_add : MethodName := ⟨RX1, "add", "(IIIII)I"⟩
abbrev cX1_sitesWith : ByteArray := prog_3_method_3_code
def yX1_sitesWith : MethodName := ⟨RX1, "sitesWith", "(JII)I"⟩
abbrev cX1_firstDay : ByteArray := prog_3_method_4_code
def yX1_firstDay : MethodName := ⟨RX1, "firstDay", "(IJI)I"⟩
abbrev cX1_isOf : ByteArray := prog_3_method_5_code
def yX1_isOf : MethodName := ⟨RX1, "isOf", "(IJI)Z"⟩
def RX2 : String := "MadeOf$Links"
def TX2 : u_T := fun k => match k with
  | 0 => ("MadeOf$Links", "from", "[I", true)
  | 1 => ("MadeOf$Links", "to", "[I", true)
  | 2 => ("MadeOf$Links", "sort", "[I", true)
  | 3 => ("MadeOf$Links", "knownFrom", "[I", true)
  | 4 => ("MadeOf$Links", "cutFrom", "[I", true)
  | _ => ("MadeOf$Links", "size", "I", false)
def tyX2 : Nat → FieldType := fun k => match k with
  | 0 => .array .int
  | 1 => .array .int
  | 2 => .array .int
  | 3 => .array .int
  | 4 => .array .int
  | _ => .int
theorem nmX2 : ∀ a, a < 6 → ∀ b, b < 6 → a ≠ b → (TX2 a).2.1 ≠ (TX2 b).2.1 := by decide +kernel
theorem tyX2_ok : ∀ k, k < 6 → parseFieldDescriptor (TX2 k).2.2.1 = some (tyX2 k) := by decide +kernel
abbrev cX2_init : ByteArray := prog_4_method_1_code
def yX2_init : MethodName := ⟨RX2, "<init>", "()V"⟩
abbrev cX2_add : ByteArray := prog_4_method_2_code
def yX2_add : MethodName := ⟨RX2, "add", "(IIII)I"⟩
abbrev cX2_isCut : ByteArray := prog_4_method_3_code
def yX2_isCut : MethodName := ⟨RX2, "isCut", "(I)Z"⟩
abbrev cX2_isLive : ByteArray := prog_4_method_4_code
def yX2_isLive : MethodName := ⟨RX2, "isLive", "(II)Z"⟩
def RX3 : String := "MadeOf$Makes"
def TX3 : u_T := fun k => match k with
  | 0 => ("MadeOf$Makes", "part", "[I", true)
  | 1 => ("MadeOf$Makes", "version", "[I", true)
  | _ => ("MadeOf$Makes", "size", "I", false)
def tyX3 : Nat → FieldType := fun k => match k with
  | 0 => .array .int
  | 1 => .array .int
  | _ => .int
theorem nmX3 : ∀ a, a < 3 → ∀ b, b < 3 → a ≠ b → (TX3 a).2.1 ≠ (TX3 b).2.1 := by decide +kernel
theorem tyX3_ok : ∀ k, k < 3 → parseFieldDescriptor (TX3 k).2.2.1 = some (tyX3 k) := by decide +kernel
abbrev cX3_init : ByteArray := prog_5_method_1_code
def yX3_init : MethodName := ⟨RX3, "<init>", "()V"⟩
abbrev cX3_add : ByteArray := prog_5_method_2_code
def yX3_add : MethodName := ⟨RX3, "add", "(II)I"⟩
abbrev cX3_search : ByteArray := prog_5_method_3_code
def yX3_search : MethodName := ⟨RX3, "search", "(II)I"⟩
def RX4 : String := "MadeOf$Pairs"
def TX4 : u_T := fun k => match k with
  | 0 => ("MadeOf$Pairs", "a", "[I", true)
  | 1 => ("MadeOf$Pairs", "b", "[I", true)
  | 2 => ("MadeOf$Pairs", "undone", "[Z", true)
  | 3 => ("MadeOf$Pairs", "knownFrom", "[I", true)
  | _ => ("MadeOf$Pairs", "size", "I", false)
def tyX4 : Nat → FieldType := fun k => match k with
  | 0 => .array .int
  | 1 => .array .int
  | 2 => .array .boolean
  | 3 => .array .int
  | _ => .int
theorem nmX4 : ∀ a, a < 5 → ∀ b, b < 5 → a ≠ b → (TX4 a).2.1 ≠ (TX4 b).2.1 := by decide +kernel
theorem tyX4_ok : ∀ k, k < 5 → parseFieldDescriptor (TX4 k).2.2.1 = some (tyX4 k) := by decide +kernel
abbrev cX4_init : ByteArray := prog_6_method_1_code
def yX4_init : MethodName := ⟨RX4, "<init>", "()V"⟩
abbrev cX4_add : ByteArray := prog_6_method_2_code
def yX4_add : MethodName := ⟨RX4, "add", "(III)I"⟩
abbrev cX4_isLive : ByteArray := prog_6_method_3_code
def yX4_isLive : MethodName := ⟨RX4, "isLive", "(II)Z"⟩
abbrev cX4_hasOneWithin : ByteArray := prog_6_method_4_code
def yX4_hasOneWithin : MethodName := ⟨RX4, "hasOneWithin", "(II)Z"⟩
def RX5 : String := "MadeOf$Parts"
def TX5 : u_T := fun k => match k with
  | 0 => ("MadeOf$Parts", "maker", "[I", true)
  | _ => ("MadeOf$Parts", "size", "I", false)
def tyX5 : Nat → FieldType := fun k => match k with
  | 0 => .array .int
  | _ => .int
theorem nmX5 : ∀ a, a < 2 → ∀ b, b < 2 → a ≠ b → (TX5 a).2.1 ≠ (TX5 b).2.1 := by decide +kernel
theorem tyX5_ok : ∀ k, k < 2 → parseFieldDescriptor (TX5 k).2.2.1 = some (tyX5 k) := by decide +kernel
abbrev cX5_init : ByteArray := prog_7_method_1_code
def yX5_init : MethodName := ⟨RX5, "<init>", "()V"⟩
abbrev cX5_add : ByteArray := prog_7_method_2_code
def yX5_add : MethodName := ⟨RX5, "add", "(I)I"⟩
def RX6 : String := "MadeOf$Questions"
def TX6 : u_T := fun k => match k with
  | _ => ("MadeOf$Questions", "others", "[I", true)
def tyX6 : Nat → FieldType := fun k => match k with
  | _ => .array .int
theorem nmX6 : ∀ a, a < 1 → ∀ b, b < 1 → a ≠ b → (TX6 a).2.1 ≠ (TX6 b).2.1 := by decide +kernel
theorem tyX6_ok : ∀ k, k < 1 → parseFieldDescriptor (TX6 k).2.2.1 = some (tyX6 k) := by decide +kernel
abbrev cX6_init : ByteArray := prog_8_method_1_code
def yX6_init : MethodName := ⟨RX6, "<init>", "()V"⟩
abbrev cX6_clear : ByteArray := prog_8_method_2_code
def yX6_clear : MethodName := ⟨RX6, "clear", "()V"⟩
abbrev cX6_add : ByteArray := prog_8_method_3_code
def yX6_add : MethodName := ⟨RX6, "add", "(II)V"⟩
abbrev cX6_areSettledBy : ByteArray := prog_8_method_4_code
def yX6_areSettledBy : MethodName := ⟨RX6, "areSettledBy", "(I)Z"⟩
def RX7 : String := "MadeOf$Reader"
def TX7 : u_T := fun k => match k with
  | 0 => ("MadeOf$Reader", "tape", "LMadeOf$Tape;", true)
  | 1 => ("MadeOf$Reader", "kind", "I", false)
  | 2 => ("MadeOf$Reader", "start", "I", false)
  | 3 => ("MadeOf$Reader", "behind", "I", false)
  | 4 => ("MadeOf$Reader", "number", "I", false)
  | _ => ("MadeOf$Reader", "version", "I", false)
def tyX7 : Nat → FieldType := fun k => match k with
  | 0 => .object "MadeOf$Tape"
  | 1 => .int
  | 2 => .int
  | 3 => .int
  | 4 => .int
  | _ => .int
theorem nmX7 : ∀ a, a < 6 → ∀ b, b < 6 → a ≠ b → (TX7 a).2.1 ≠ (TX7 b).2.1 := by decide +kernel
theorem tyX7_ok : ∀ k, k < 6 → parseFieldDescriptor (TX7 k).2.2.1 = some (tyX7 k) := by decide +kernel
abbrev cX7_init : ByteArray := prog_9_method_1_code
def yX7_init : MethodName := ⟨RX7, "<init>", "(LMadeOf$Tape;)V"⟩
abbrev cX7_read : ByteArray := prog_9_method_2_code
def yX7_read : MethodName := ⟨RX7, "read", "(ILMadeOf$Warning;)I"⟩
abbrev cX7_readTest : ByteArray := prog_9_method_3_code
def yX7_readTest : MethodName := ⟨RX7, "readTest", "(LMadeOf$Warning;)Z"⟩
abbrev cX7_readVersion : ByteArray := prog_9_method_4_code
def yX7_readVersion : MethodName := ⟨RX7, "readVersion", "()Z"⟩
abbrev cX7_takeWord : ByteArray := prog_9_method_5_code
def yX7_takeWord : MethodName := ⟨RX7, "takeWord", "(Ljava/lang/String;)Z"⟩
abbrev cX7_takeSign : ByteArray := prog_9_method_6_code
def yX7_takeSign : MethodName := ⟨RX7, "takeSign", "(C)Z"⟩
abbrev cX7_takeNumber : ByteArray := prog_9_method_7_code
def yX7_takeNumber : MethodName := ⟨RX7, "takeNumber", "(I)Z"⟩
abbrev cX7_valueAtHand : ByteArray := prog_9_method_8_code
def yX7_valueAtHand : MethodName := ⟨RX7, "valueAtHand", "()I"⟩
abbrev cX7_step : ByteArray := prog_9_method_9_code
def yX7_step : MethodName := ⟨RX7, "step", "()V"⟩
abbrev cX7_kindAt : ByteArray := prog_9_method_10_code
def yX7_kindAt : MethodName := ⟨RX7, "kindAt", "(I)I"⟩
def RX8 : String := "MadeOf$Tape"
def TX8 : u_T := fun k => match k with
  | 0 => ("MadeOf$Tape", "bytes", "[I", true)
  | _ => ("MadeOf$Tape", "size", "I", false)
def tyX8 : Nat → FieldType := fun k => match k with
  | 0 => .array .int
  | _ => .int
theorem nmX8 : ∀ a, a < 2 → ∀ b, b < 2 → a ≠ b → (TX8 a).2.1 ≠ (TX8 b).2.1 := by decide +kernel
theorem tyX8_ok : ∀ k, k < 2 → parseFieldDescriptor (TX8 k).2.2.1 = some (tyX8 k) := by decide +kernel
abbrev cX8_init : ByteArray := prog_10_method_1_code
def yX8_init : MethodName := ⟨RX8, "<init>", "()V"⟩
abbrev cX8_add : ByteArray := prog_10_method_2_code
def yX8_add : MethodName := ⟨RX8, "add", "(I)V"⟩
def RX9 : String := "MadeOf$Warning"
def TX9 : u_T := fun k => match k with
  | 0 => ("MadeOf$Warning", "low", "[I", true)
  | 1 => ("MadeOf$Warning", "high", "[I", true)
  | 2 => ("MadeOf$Warning", "terms", "I", false)
  | 3 => ("MadeOf$Warning", "part", "I", false)
  | _ => ("MadeOf$Warning", "told", "I", false)
def tyX9 : Nat → FieldType := fun k => match k with
  | 0 => .array .int
  | 1 => .array .int
  | 2 => .int
  | 3 => .int
  | _ => .int
theorem nmX9 : ∀ a, a < 5 → ∀ b, b < 5 → a ≠ b → (TX9 a).2.1 ≠ (TX9 b).2.1 := by decide +kernel
theorem tyX9_ok : ∀ k, k < 5 → parseFieldDescriptor (TX9 k).2.2.1 = some (tyX9 k) := by decide +kernel
abbrev cX9_init : ByteArray := prog_11_method_1_code
def yX9_init : MethodName := ⟨RX9, "<init>", "()V"⟩
abbrev cX9_begin : ByteArray := prog_11_method_2_code
def yX9_begin : MethodName := ⟨RX9, "begin", "(I)V"⟩
abbrev cX9_openTerm : ByteArray := prog_11_method_3_code
def yX9_openTerm : MethodName := ⟨RX9, "openTerm", "()V"⟩
abbrev cX9_narrow : ByteArray := prog_11_method_4_code
def yX9_narrow : MethodName := ⟨RX9, "narrow", "(II)V"⟩
abbrev cX9_covers : ByteArray := prog_11_method_5_code
def yX9_covers : MethodName := ⟨RX9, "covers", "(I)Z"⟩
def RX10 : String := "MadeOf$Ways"
def TX10 : u_T := fun k => match k with
  | 0 => ("MadeOf$Ways", "inside", "[J", true)
  | 1 => ("MadeOf$Ways", "layers", "[J", true)
  | _ => ("MadeOf$Ways", "depth", "I", false)
def tyX10 : Nat → FieldType := fun k => match k with
  | 0 => .array .long
  | 1 => .array .long
  | _ => .int
theorem nmX10 : ∀ a, a < 3 → ∀ b, b < 3 → a ≠ b → (TX10 a).2.1 ≠ (TX10 b).2.1 := by decide +kernel
theorem tyX10_ok : ∀ k, k < 3 → parseFieldDescriptor (TX10 k).2.2.1 = some (tyX10 k) := by decide +kernel
abbrev cX10_init : ByteArray := prog_12_method_1_code
def yX10_init : MethodName := ⟨RX10, "<init>", "()V"⟩
abbrev cX10_lay : ByteArray := prog_12_method_2_code
def yX10_lay : MethodName := ⟨RX10, "lay", "(LMadeOf$Links;IZ)V"⟩
abbrev cX10_spread : ByteArray := prog_12_method_3_code
def yX10_spread : MethodName := ⟨RX10, "spread", "(J)J"⟩
abbrev cX10_holdersOf : ByteArray := prog_12_method_4_code
def yX10_holdersOf : MethodName := ⟨RX10, "holdersOf", "(J)J"⟩
abbrev cX10_distance : ByteArray := prog_12_method_5_code
def yX10_distance : MethodName := ⟨RX10, "distance", "(I)I"⟩
abbrev cX10_walk : ByteArray := prog_12_method_6_code
def yX10_walk : MethodName := ⟨RX10, "walk", "(II)I"⟩
def RX11 : String := "MadeOf"
def TX11 : u_T := fun k => match k with
  | 0 => ("MadeOf", "parts", "LMadeOf$Parts;", true)
  | 1 => ("MadeOf", "makes", "LMadeOf$Makes;", true)
  | 2 => ("MadeOf", "links", "LMadeOf$Links;", true)
  | 3 => ("MadeOf", "holdings", "LMadeOf$Holdings;", true)
  | 4 => ("MadeOf", "joins", "LMadeOf$Pairs;", true)
  | 5 => ("MadeOf", "unlikes", "LMadeOf$Pairs;", true)
  | 6 => ("MadeOf", "groups", "LMadeOf$Groups;", true)
  | 7 => ("MadeOf", "tape", "LMadeOf$Tape;", true)
  | 8 => ("MadeOf", "reader", "LMadeOf$Reader;", true)
  | 9 => ("MadeOf", "warnings", "[LMadeOf$Warning;", true)
  | 10 => ("MadeOf", "ways", "LMadeOf$Ways;", true)
  | 11 => ("MadeOf", "questions", "LMadeOf$Questions;", true)
  | 12 => ("MadeOf", "warningCount", "I", false)
  | 13 => ("MadeOf", "latestFault", "I", false)
  | _ => ("MadeOf", "refusedBy", "I", false)
def tyX11 : Nat → FieldType := fun k => match k with
  | 0 => .object "MadeOf$Parts"
  | 1 => .object "MadeOf$Makes"
  | 2 => .object "MadeOf$Links"
  | 3 => .object "MadeOf$Holdings"
  | 4 => .object "MadeOf$Pairs"
  | 5 => .object "MadeOf$Pairs"
  | 6 => .object "MadeOf$Groups"
  | 7 => .object "MadeOf$Tape"
  | 8 => .object "MadeOf$Reader"
  | 9 => .array (.object "MadeOf$Warning")
  | 10 => .object "MadeOf$Ways"
  | 11 => .object "MadeOf$Questions"
  | 12 => .int
  | 13 => .int
  | _ => .int
theorem nmX11 : ∀ a, a < 15 → ∀ b, b < 15 → a ≠ b → (TX11 a).2.1 ≠ (TX11 b).2.1 := by decide +kernel
theorem tyX11_ok : ∀ k, k < 15 → parseFieldDescriptor (TX11 k).2.2.1 = some (tyX11 k) := by decide +kernel
abbrev cX11_init : ByteArray := prog_1_method_1_code
def yX11_init : MethodName := ⟨RX11, "<init>", "()V"⟩
abbrev cX11_part : ByteArray := prog_1_method_2_code
def yX11_part : MethodName := ⟨RX11, "part", "(I)I"⟩
abbrev cX11_make : ByteArray := prog_1_method_3_code
def yX11_make : MethodName := ⟨RX11, "make", "(IIII)I"⟩
abbrev cX11_find : ByteArray := prog_1_method_4_code
def yX11_find : MethodName := ⟨RX11, "find", "(IIII)I"⟩
abbrev cX11_link : ByteArray := prog_1_method_5_code
def yX11_link : MethodName := ⟨RX11, "link", "(IIII)I"⟩
abbrev cX11_cut : ByteArray := prog_1_method_6_code
def yX11_cut : MethodName := ⟨RX11, "cut", "(II)I"⟩
abbrev cX11_counts : ByteArray := prog_1_method_7_code
def yX11_counts : MethodName := ⟨RX11, "counts", "(II)I"⟩
abbrev cX11_hold : ByteArray := prog_1_method_8_code
def yX11_hold : MethodName := ⟨RX11, "hold", "(IIIII)I"⟩
abbrev cX11_join : ByteArray := prog_1_method_9_code
def yX11_join : MethodName := ⟨RX11, "join", "(III)I"⟩
abbrev cX11_undo : ByteArray := prog_1_method_10_code
def yX11_undo : MethodName := ⟨RX11, "undo", "(I)I"⟩
abbrev cX11_unlike : ByteArray := prog_1_method_11_code
def yX11_unlike : MethodName := ⟨RX11, "unlike", "(III)I"⟩
abbrev cX11_group : ByteArray := prog_1_method_12_code
def yX11_group : MethodName := ⟨RX11, "group", "(II)I"⟩
abbrev cX11_quarrels : ByteArray := prog_1_method_13_code
def yX11_quarrels : MethodName := ⟨RX11, "quarrels", "(I)I"⟩
abbrev cX11_feed : ByteArray := prog_1_method_14_code
def yX11_feed : MethodName := ⟨RX11, "feed", "(IIIII)I"⟩
abbrev cX11_end : ByteArray := prog_1_method_15_code
def yX11_end : MethodName := ⟨RX11, "end", "(I)I"⟩
abbrev cX11_warning : ByteArray := prog_1_method_16_code
def yX11_warning : MethodName := ⟨RX11, "warning", "()I"⟩
abbrev cX11_fault : ByteArray := prog_1_method_17_code
def yX11_fault : MethodName := ⟨RX11, "fault", "()I"⟩
abbrev cX11_bad : ByteArray := prog_1_method_18_code
def yX11_bad : MethodName := ⟨RX11, "bad", "(III)I"⟩
abbrev cX11_hit : ByteArray := prog_1_method_19_code
def yX11_hit : MethodName := ⟨RX11, "hit", "(III)I"⟩
abbrev cX11_way : ByteArray := prog_1_method_20_code
def yX11_way : MethodName := ⟨RX11, "way", "(IIII)I"⟩
abbrev cX11_has : ByteArray := prog_1_method_21_code
def yX11_has : MethodName := ⟨RX11, "has", "(IIII)I"⟩
abbrev cX11_since : ByteArray := prog_1_method_22_code
def yX11_since : MethodName := ⟨RX11, "since", "(III)I"⟩
abbrev cX11_gaps : ByteArray := prog_1_method_23_code
def yX11_gaps : MethodName := ⟨RX11, "gaps", "(III)I"⟩
abbrev cX11_ring : ByteArray := prog_1_method_24_code
def yX11_ring : MethodName := ⟨RX11, "ring", "(II)I"⟩
abbrev cX11_calls : ByteArray := prog_1_method_25_code
def yX11_calls : MethodName := ⟨RX11, "calls", "(I)I"⟩
abbrev cX11_recall : ByteArray := prog_1_method_26_code
def yX11_recall : MethodName := ⟨RX11, "recall", "(III)I"⟩
abbrev cX11_told : ByteArray := prog_1_method_27_code
def yX11_told : MethodName := ⟨RX11, "told", "(I)I"⟩
abbrev cX11_count : ByteArray := prog_1_method_28_code
def yX11_count : MethodName := ⟨RX11, "count", "(I)I"⟩
abbrev cX11_status : ByteArray := prog_1_method_29_code
def yX11_status : MethodName := ⟨RX11, "status", "()I"⟩
abbrev cX11_refuse : ByteArray := prog_1_method_30_code
def yX11_refuse : MethodName := ⟨RX11, "refuse", "(I)I"⟩
abbrev cX11_accept : ByteArray := prog_1_method_31_code
def yX11_accept : MethodName := ⟨RX11, "accept", "(I)I"⟩
abbrev cX11_isPart : ByteArray := prog_1_method_32_code
def yX11_isPart : MethodName := ⟨RX11, "isPart", "(I)Z"⟩
abbrev cX11_isMake : ByteArray := prog_1_method_33_code
def yX11_isMake : MethodName := ⟨RX11, "isMake", "(I)Z"⟩
abbrev cX11_isLink : ByteArray := prog_1_method_34_code
def yX11_isLink : MethodName := ⟨RX11, "isLink", "(I)Z"⟩
abbrev cX11_isWarning : ByteArray := prog_1_method_35_code
def yX11_isWarning : MethodName := ⟨RX11, "isWarning", "(I)Z"⟩
abbrev cX11_isWithin : ByteArray := prog_1_method_36_code
def yX11_isWithin : MethodName := ⟨RX11, "isWithin", "(II)Z"⟩
abbrev cX11_isDay : ByteArray := prog_1_method_37_code
def yX11_isDay : MethodName := ⟨RX11, "isDay", "(I)Z"⟩
abbrev cX11_isVersion : ByteArray := prog_1_method_38_code
def yX11_isVersion : MethodName := ⟨RX11, "isVersion", "(III)Z"⟩
abbrev cX11_versionOf : ByteArray := prog_1_method_39_code
def yX11_versionOf : MethodName := ⟨RX11, "versionOf", "(III)I"⟩
abbrev cX11_contains : ByteArray := prog_1_method_40_code
def yX11_contains : MethodName := ⟨RX11, "contains", "(JI)Z"⟩
abbrev cX11_lowest : ByteArray := prog_1_method_41_code
def yX11_lowest : MethodName := ⟨RX11, "lowest", "(J)I"⟩
abbrev cX11_whyNoPair : ByteArray := prog_1_method_42_code
def yX11_whyNoPair : MethodName := ⟨RX11, "whyNoPair", "(IIILMadeOf$Pairs;)I"⟩
abbrev cX11_badMakes : ByteArray := prog_1_method_43_code
def yX11_badMakes : MethodName := ⟨RX11, "badMakes", "(II)J"⟩
abbrev cX11_hitMakes : ByteArray := prog_1_method_44_code
def yX11_hitMakes : MethodName := ⟨RX11, "hitMakes", "(IIZ)J"⟩
abbrev cX11_trace : ByteArray := prog_1_method_45_code
def yX11_trace : MethodName := ⟨RX11, "trace", "(III)I"⟩
abbrev cX11_groupsInside : ByteArray := prog_1_method_46_code
def yX11_groupsInside : MethodName := ⟨RX11, "groupsInside", "(III)I"⟩
abbrev cX11_raiseQuestions : ByteArray := prog_1_method_47_code
def yX11_raiseQuestions : MethodName := ⟨RX11, "raiseQuestions", "(I)V"⟩
abbrev cX11_makerOf : ByteArray := prog_1_method_48_code
def yX11_makerOf : MethodName := ⟨RX11, "makerOf", "(I)I"⟩
def RX12 : String := "MadeOfModel"
def TX12 : u_T := fun k => match k with
  | 0 => ("MadeOfModel", "status", "I", false)
  | 1 => ("MadeOfModel", "parts", "I", false)
  | 2 => ("MadeOfModel", "makes", "I", false)
  | 3 => ("MadeOfModel", "maker", "[I", true)
  | 4 => ("MadeOfModel", "makePart", "[I", true)
  | 5 => ("MadeOfModel", "version", "[I", true)
  | 6 => ("MadeOfModel", "links", "I", false)
  | 7 => ("MadeOfModel", "linkFrom", "[I", true)
  | 8 => ("MadeOfModel", "linkTo", "[I", true)
  | 9 => ("MadeOfModel", "linkSort", "[I", true)
  | 10 => ("MadeOfModel", "linkKnown", "[I", true)
  | 11 => ("MadeOfModel", "linkCut", "[I", true)
  | 12 => ("MadeOfModel", "holdings", "I", false)
  | 13 => ("MadeOfModel", "holdSite", "[I", true)
  | 14 => ("MadeOfModel", "holdMake", "[I", true)
  | 15 => ("MadeOfModel", "holdFrom", "[I", true)
  | 16 => ("MadeOfModel", "holdTo", "[I", true)
  | 17 => ("MadeOfModel", "holdKnown", "[I", true)
  | 18 => ("MadeOfModel", "joins", "I", false)
  | 19 => ("MadeOfModel", "unlikes", "I", false)
  | 20 => ("MadeOfModel", "joinA", "[I", true)
  | 21 => ("MadeOfModel", "joinB", "[I", true)
  | 22 => ("MadeOfModel", "joinKnown", "[I", true)
  | 23 => ("MadeOfModel", "isUndone", "[Z", true)
  | 24 => ("MadeOfModel", "unlikeA", "[I", true)
  | 25 => ("MadeOfModel", "unlikeB", "[I", true)
  | 26 => ("MadeOfModel", "unlikeKnown", "[I", true)
  | 27 => ("MadeOfModel", "lowest", "[I", true)
  | 28 => ("MadeOfModel", "quarrels", "I", false)
  | 29 => ("MadeOfModel", "tape", "[B", true)
  | 30 => ("MadeOfModel", "taped", "I", false)
  | 31 => ("MadeOfModel", "size", "I", false)
  | 32 => ("MadeOfModel", "from", "I", false)
  | 33 => ("MadeOfModel", "to", "I", false)
  | 34 => ("MadeOfModel", "fault", "I", false)
  | 35 => ("MadeOfModel", "readFault", "I", false)
  | 36 => ("MadeOfModel", "warnings", "I", false)
  | 37 => ("MadeOfModel", "warnPart", "[I", true)
  | 38 => ("MadeOfModel", "warnTests", "[I", true)
  | 39 => ("MadeOfModel", "testSign", "[I", true)
  | 40 => ("MadeOfModel", "testVersion", "[I", true)
  | 41 => ("MadeOfModel", "testTerm", "[I", true)
  | 42 => ("MadeOfModel", "told", "[I", true)
  | 43 => ("MadeOfModel", "tests", "I", false)
  | 44 => ("MadeOfModel", "term", "I", false)
  | 45 => ("MadeOfModel", "five", "[I", true)
  | 46 => ("MadeOfModel", "sure", "[I", true)
  | _ => ("MadeOfModel", "any", "[I", true)
def tyX12 : Nat → FieldType := fun k => match k with
  | 0 => .int
  | 1 => .int
  | 2 => .int
  | 3 => .array .int
  | 4 => .array .int
  | 5 => .array .int
  | 6 => .int
  | 7 => .array .int
  | 8 => .array .int
  | 9 => .array .int
  | 10 => .array .int
  | 11 => .array .int
  | 12 => .int
  | 13 => .array .int
  | 14 => .array .int
  | 15 => .array .int
  | 16 => .array .int
  | 17 => .array .int
  | 18 => .int
  | 19 => .int
  | 20 => .array .int
  | 21 => .array .int
  | 22 => .array .int
  | 23 => .array .boolean
  | 24 => .array .int
  | 25 => .array .int
  | 26 => .array .int
  | 27 => .array .int
  | 28 => .int
  | 29 => .array .byte
  | 30 => .int
  | 31 => .int
  | 32 => .int
  | 33 => .int
  | 34 => .int
  | 35 => .int
  | 36 => .int
  | 37 => .array .int
  | 38 => .array .int
  | 39 => .array .int
  | 40 => .array .int
  | 41 => .array .int
  | 42 => .array .int
  | 43 => .int
  | 44 => .int
  | 45 => .array .int
  | 46 => .array .int
  | _ => .array .int
theorem nmX12 : ∀ a, a < 48 → ∀ b, b < 48 → a ≠ b → (TX12 a).2.1 ≠ (TX12 b).2.1 := by decide +kernel
theorem tyX12_ok : ∀ k, k < 48 → parseFieldDescriptor (TX12 k).2.2.1 = some (tyX12 k) := by decide +kernel
abbrev cX12_init : ByteArray := prog_14_method_1_code
def yX12_init : MethodName := ⟨RX12, "<init>", "()V"⟩
abbrev cX12_in : ByteArray := prog_14_method_2_code
def yX12_in : MethodName := ⟨RX12, "in", "(III)Z"⟩
abbrev cX12_isDay : ByteArray := prog_14_method_3_code
def yX12_isDay : MethodName := ⟨RX12, "isDay", "(I)Z"⟩
abbrev cX12_ends : ByteArray := prog_14_method_4_code
def yX12_ends : MethodName := ⟨RX12, "ends", "(I)I"⟩
abbrev cX12_isPart : ByteArray := prog_14_method_5_code
def yX12_isPart : MethodName := ⟨RX12, "isPart", "(I)Z"⟩
abbrev cX12_isMake : ByteArray := prog_14_method_6_code
def yX12_isMake : MethodName := ⟨RX12, "isMake", "(I)Z"⟩
abbrev cX12_part : ByteArray := prog_14_method_7_code
def yX12_part : MethodName := ⟨RX12, "part", "(I)I"⟩
abbrev cX12_versionOf : ByteArray := prog_14_method_8_code
def yX12_versionOf : MethodName := ⟨RX12, "versionOf", "(III)I"⟩
abbrev cX12_areGood : ByteArray := prog_14_method_9_code
def yX12_areGood : MethodName := ⟨RX12, "areGood", "(III)Z"⟩
abbrev cX12_found : ByteArray := prog_14_method_10_code
def yX12_found : MethodName := ⟨RX12, "found", "(II)I"⟩
abbrev cX12_make : ByteArray := prog_14_method_11_code
def yX12_make : MethodName := ⟨RX12, "make", "(IIII)I"⟩
abbrev cX12_find : ByteArray := prog_14_method_12_code
def yX12_find : MethodName := ⟨RX12, "find", "(IIII)I"⟩
abbrev cX12_link : ByteArray := prog_14_method_13_code
def yX12_link : MethodName := ⟨RX12, "link", "(IIII)I"⟩
abbrev cX12_cut : ByteArray := prog_14_method_14_code
def yX12_cut : MethodName := ⟨RX12, "cut", "(II)I"⟩
abbrev cX12_is : ByteArray := prog_14_method_15_code
def yX12_is : MethodName := ⟨RX12, "is", "(II)Z"⟩
abbrev cX12_counts : ByteArray := prog_14_method_16_code
def yX12_counts : MethodName := ⟨RX12, "counts", "(II)I"⟩
abbrev cX12_hold : ByteArray := prog_14_method_17_code
def yX12_hold : MethodName := ⟨RX12, "hold", "(IIIII)I"⟩
abbrev cX12_pairs : ByteArray := prog_14_method_18_code
def yX12_pairs : MethodName := ⟨RX12, "pairs", "(III)I"⟩
abbrev cX12_join : ByteArray := prog_14_method_19_code
def yX12_join : MethodName := ⟨RX12, "join", "(III)I"⟩
abbrev cX12_undo : ByteArray := prog_14_method_20_code
def yX12_undo : MethodName := ⟨RX12, "undo", "(I)I"⟩
abbrev cX12_unlike : ByteArray := prog_14_method_21_code
def yX12_unlike : MethodName := ⟨RX12, "unlike", "(III)I"⟩
abbrev cX12_isQuarrel : ByteArray := prog_14_method_22_code
def yX12_isQuarrel : MethodName := ⟨RX12, "isQuarrel", "(III)Z"⟩
abbrev cX12_gathers : ByteArray := prog_14_method_23_code
def yX12_gathers : MethodName := ⟨RX12, "gathers", "(I)V"⟩
abbrev cX12_group : ByteArray := prog_14_method_24_code
def yX12_group : MethodName := ⟨RX12, "group", "(II)I"⟩
abbrev cX12_quarrels : ByteArray := prog_14_method_25_code
def yX12_quarrels : MethodName := ⟨RX12, "quarrels", "(I)I"⟩
abbrev cX12_feed : ByteArray := prog_14_method_26_code
def yX12_feed : MethodName := ⟨RX12, "feed", "(IIIII)I"⟩
abbrev cX12_end : ByteArray := prog_14_method_27_code
def yX12_end : MethodName := ⟨RX12, "end", "(I)I"⟩
abbrev cX12_isIn : ByteArray := prog_14_method_28_code
def yX12_isIn : MethodName := ⟨RX12, "isIn", "(III)Z"⟩
abbrev cX12_next : ByteArray := prog_14_method_29_code
def yX12_next : MethodName := ⟨RX12, "next", "()V"⟩
abbrev cX12_isWord : ByteArray := prog_14_method_30_code
def yX12_isWord : MethodName := ⟨RX12, "isWord", "(J)Z"⟩
abbrev cX12_isSign : ByteArray := prog_14_method_31_code
def yX12_isSign : MethodName := ⟨RX12, "isSign", "(I)Z"⟩
abbrev cX12_good : ByteArray := prog_14_method_32_code
def yX12_good : MethodName := ⟨RX12, "good", "()Z"⟩
abbrev cX12_faults : ByteArray := prog_14_method_33_code
def yX12_faults : MethodName := ⟨RX12, "faults", "()V"⟩
abbrev cX12_number : ByteArray := prog_14_method_34_code
def yX12_number : MethodName := ⟨RX12, "number", "(I)I"⟩
abbrev cX12_puts : ByteArray := prog_14_method_35_code
def yX12_puts : MethodName := ⟨RX12, "puts", "(II)V"⟩
abbrev cX12_reads : ByteArray := prog_14_method_36_code
def yX12_reads : MethodName := ⟨RX12, "reads", "()I"⟩
abbrev cX12_test : ByteArray := prog_14_method_37_code
def yX12_test : MethodName := ⟨RX12, "test", "()V"⟩
abbrev cX12_warning : ByteArray := prog_14_method_38_code
def yX12_warning : MethodName := ⟨RX12, "warning", "()I"⟩
abbrev cX12_fault : ByteArray := prog_14_method_39_code
def yX12_fault : MethodName := ⟨RX12, "fault", "()I"⟩
abbrev cX12_isWarning : ByteArray := prog_14_method_40_code
def yX12_isWarning : MethodName := ⟨RX12, "isWarning", "(I)Z"⟩
abbrev cX12_holds : ByteArray := prog_14_method_41_code
def yX12_holds : MethodName := ⟨RX12, "holds", "(II)Z"⟩
abbrev cX12_isBad : ByteArray := prog_14_method_42_code
def yX12_isBad : MethodName := ⟨RX12, "isBad", "(II)Z"⟩
abbrev cX12_bad : ByteArray := prog_14_method_43_code
def yX12_bad : MethodName := ⟨RX12, "bad", "(III)I"⟩
abbrev cX12_spreads : ByteArray := prog_14_method_44_code
def yX12_spreads : MethodName := ⟨RX12, "spreads", "([IIZ)V"⟩
abbrev cX12_hits : ByteArray := prog_14_method_45_code
def yX12_hits : MethodName := ⟨RX12, "hits", "(II)V"⟩
abbrev cX12_hitOf : ByteArray := prog_14_method_46_code
def yX12_hitOf : MethodName := ⟨RX12, "hitOf", "(I)I"⟩
abbrev cX12_hit : ByteArray := prog_14_method_47_code
def yX12_hit : MethodName := ⟨RX12, "hit", "(III)I"⟩
abbrev cX12_way : ByteArray := prog_14_method_48_code
def yX12_way : MethodName := ⟨RX12, "way", "(IIII)I"⟩
abbrev cX12_nextOf : ByteArray := prog_14_method_49_code
def yX12_nextOf : MethodName := ⟨RX12, "nextOf", "(II[IZ)I"⟩
abbrev cX12_hasOf : ByteArray := prog_14_method_50_code
def yX12_hasOf : MethodName := ⟨RX12, "hasOf", "(III)I"⟩
abbrev cX12_isSite : ByteArray := prog_14_method_51_code
def yX12_isSite : MethodName := ⟨RX12, "isSite", "(I)Z"⟩
abbrev cX12_has : ByteArray := prog_14_method_52_code
def yX12_has : MethodName := ⟨RX12, "has", "(IIII)I"⟩
abbrev cX12_since : ByteArray := prog_14_method_53_code
def yX12_since : MethodName := ⟨RX12, "since", "(III)I"⟩
abbrev cX12_hasLink : ByteArray := prog_14_method_54_code
def yX12_hasLink : MethodName := ⟨RX12, "hasLink", "(IIII)Z"⟩
abbrev cX12_gaps : ByteArray := prog_14_method_55_code
def yX12_gaps : MethodName := ⟨RX12, "gaps", "(III)I"⟩
abbrev cX12_ring : ByteArray := prog_14_method_56_code
def yX12_ring : MethodName := ⟨RX12, "ring", "(II)I"⟩
abbrev cX12_settles : ByteArray := prog_14_method_57_code
def yX12_settles : MethodName := ⟨RX12, "settles", "(II)Z"⟩
abbrev cX12_many : ByteArray := prog_14_method_58_code
def yX12_many : MethodName := ⟨RX12, "many", "(I)I"⟩
abbrev cX12_calls : ByteArray := prog_14_method_59_code
def yX12_calls : MethodName := ⟨RX12, "calls", "(I)I"⟩
abbrev cX12_recall : ByteArray := prog_14_method_60_code
def yX12_recall : MethodName := ⟨RX12, "recall", "(III)I"⟩
abbrev cX12_told : ByteArray := prog_14_method_61_code
def yX12_told : MethodName := ⟨RX12, "told", "(I)I"⟩
abbrev cX12_count : ByteArray := prog_14_method_62_code
def yX12_count : MethodName := ⟨RX12, "count", "(I)I"⟩
abbrev cX12_status : ByteArray := prog_14_method_63_code
def yX12_status : MethodName := ⟨RX12, "status", "()I"⟩
def RJ6 : String := "java/lang/Integer"
def TJ6 : u_T := fun k => match k with
  | _ => ("", "", "", false)
def tyJ6 : Nat → FieldType := fun k => match k with
  | _ => .int
theorem nmJ6 : ∀ a, a < 0 → ∀ b, b < 0 → a ≠ b → (TJ6 a).2.1 ≠ (TJ6 b).2.1 := by decide +kernel
theorem tyJ6_ok : ∀ k, k < 0 → parseFieldDescriptor (TJ6 k).2.2.1 = some (tyJ6 k) := by decide +kernel
abbrev cJ6_bitCount_0f7a4 : ByteArray := prog_15_method_49_code
def yJ6_bitCount_0f7a4 : MethodName := ⟨RJ6, "bitCount", "(I)I"⟩
def RJ9 : String := "java/lang/Math"
def TJ9 : u_T := fun k => match k with
  | _ => ("", "", "", false)
def tyJ9 : Nat → FieldType := fun k => match k with
  | _ => .int
theorem nmJ9 : ∀ a, a < 0 → ∀ b, b < 0 → a ≠ b → (TJ9 a).2.1 ≠ (TJ9 b).2.1 := by decide +kernel
theorem tyJ9_ok : ∀ k, k < 0 → parseFieldDescriptor (TJ9 k).2.2.1 = some (tyJ9 k) := by decide +kernel
abbrev cJ9_max_7cf53 : ByteArray := prog_16_method_65_code
def yJ9_max_7cf53 : MethodName := ⟨RJ9, "max", "(II)I"⟩
abbrev cJ9_min_7cf53 : ByteArray := prog_16_method_69_code
def yJ9_min_7cf53 : MethodName := ⟨RJ9, "min", "(II)I"⟩
def RJ0 : String := "java/lang/String"
def TJ0 : u_T := fun k => match k with
  | _ => ("", "", "", false)
def tyJ0 : Nat → FieldType := fun k => match k with
  | _ => .int
theorem nmJ0 : ∀ a, a < 0 → ∀ b, b < 0 → a ≠ b → (TJ0 a).2.1 ≠ (TJ0 b).2.1 := by decide +kernel
theorem tyJ0_ok : ∀ k, k < 0 → parseFieldDescriptor (TJ0 k).2.2.1 = some (tyJ0 k) := by decide +kernel
abbrev cJ0_length_8abf5 : ByteArray := prog_17_method_54_code
def yJ0_length_8abf5 : MethodName := ⟨RJ0, "length", "()I"⟩
abbrev cJ0_charAt_5068e : ByteArray := prog_17_method_56_code
def yJ0_charAt_5068e : MethodName := ⟨RJ0, "charAt", "(I)C"⟩
abbrev cJ0_coder_7d493 : ByteArray := prog_17_method_152_code
def yJ0_coder_7d493 : MethodName := ⟨RJ0, "coder", "()B"⟩
abbrev cJ0_isLatin1_aae02 : ByteArray := prog_17_method_154_code
def yJ0_isLatin1_aae02 : MethodName := ⟨RJ0, "isLatin1", "()Z"⟩
abbrev cJ0_checkIndex_df160 : ByteArray := prog_17_method_155_code
def yJ0_checkIndex_df160 : MethodName := ⟨RJ0, "checkIndex", "(II)V"⟩
def RJ1 : String := "java/lang/StringLatin1"
def TJ1 : u_T := fun k => match k with
  | _ => ("", "", "", false)
def tyJ1 : Nat → FieldType := fun k => match k with
  | _ => .int
theorem nmJ1 : ∀ a, a < 0 → ∀ b, b < 0 → a ≠ b → (TJ1 a).2.1 ≠ (TJ1 b).2.1 := by decide +kernel
theorem tyJ1_ok : ∀ k, k < 0 → parseFieldDescriptor (TJ1 k).2.2.1 = some (tyJ1 k) := by decide +kernel
abbrev cJ1_charAt_3b067 : ByteArray := prog_18_method_2_code
def yJ1_charAt_3b067 : MethodName := ⟨RJ1, "charAt", "([BI)C"⟩
def RJ2 : String := "java/lang/StringUTF16"
def TJ2 : u_T := fun k => match k with
  | _ => ("", "", "", false)
def tyJ2 : Nat → FieldType := fun k => match k with
  | _ => .int
theorem nmJ2 : ∀ a, a < 0 → ∀ b, b < 0 → a ≠ b → (TJ2 a).2.1 ≠ (TJ2 b).2.1 := by decide +kernel
theorem tyJ2_ok : ∀ k, k < 0 → parseFieldDescriptor (TJ2 k).2.2.1 = some (tyJ2 k) := by decide +kernel
abbrev cJ2_getChar_3b067 : ByteArray := prog_19_method_5_code
def yJ2_getChar_3b067 : MethodName := ⟨RJ2, "getChar", "([BI)C"⟩
abbrev cJ2_length_9d52b : ByteArray := prog_19_method_6_code
def yJ2_length_9d52b : MethodName := ⟨RJ2, "length", "([B)I"⟩
abbrev cJ2_charAt_3b067 : ByteArray := prog_19_method_83_code
def yJ2_charAt_3b067 : MethodName := ⟨RJ2, "charAt", "([BI)C"⟩
abbrev cJ2_checkIndex_2214a : ByteArray := prog_19_method_91_code
def yJ2_checkIndex_2214a : MethodName := ⟨RJ2, "checkIndex", "(I[B)V"⟩
def RJ7 : String := "java/util/Arrays"
def TJ7 : u_T := fun k => match k with
  | _ => ("", "", "", false)
def tyJ7 : Nat → FieldType := fun k => match k with
  | _ => .int
theorem nmJ7 : ∀ a, a < 0 → ∀ b, b < 0 → a ≠ b → (TJ7 a).2.1 ≠ (TJ7 b).2.1 := by decide +kernel
theorem tyJ7_ok : ∀ k, k < 0 → parseFieldDescriptor (TJ7 k).2.2.1 = some (tyJ7 k) := by decide +kernel
abbrev cJ7_fill_d0a16 : ByteArray := prog_20_method_101_code
def yJ7_fill_d0a16 : MethodName := ⟨RJ7, "fill", "([JJ)V"⟩
abbrev cJ7_fill_53178 : ByteArray := prog_20_method_103_code
def yJ7_fill_53178 : MethodName := ⟨RJ7, "fill", "([II)V"⟩
def RJ3 : String := "jdk/internal/util/Preconditions"
def TJ3 : u_T := fun k => match k with
  | _ => ("", "", "", false)
def tyJ3 : Nat → FieldType := fun k => match k with
  | _ => .int
theorem nmJ3 : ∀ a, a < 0 → ∀ b, b < 0 → a ≠ b → (TJ3 a).2.1 ≠ (TJ3 b).2.1 := by decide +kernel
theorem tyJ3_ok : ∀ k, k < 0 → parseFieldDescriptor (TJ3 k).2.2.1 = some (tyJ3 k) := by decide +kernel
abbrev cJ3_checkIndex_8e157 : ByteArray := prog_21_method_11_code
def yJ3_checkIndex_8e157 : MethodName := ⟨RJ3, "checkIndex", "(IILjava/util/function/BiFunction;)I"⟩
def RL : String := "MadeOfLaw"
abbrev cL_law : ByteArray := code
abbrev vwCl : List vw_C := [(RX0, TX0, 1), (RX1, TX1, 6), (RX2, TX2, 6), (RX3, TX3, 3), (RX4, TX4, 5), (RX5, TX5, 2), (RX6, TX6, 1), (RX7, TX7, 6), (RX8, TX8, 2), (RX9, TX9, 5), (RX10, TX10, 3), (RX11, TX11, 15), (RX12, TX12, 48)]
end
section
/-! the picture of all cells: of each kind of cell o: (its form, its length or the number of its class, how many there are, its references) -/
def mo_lay : List (Nat × Nat × Nat × List (Nat × Nat)) := [(0, 11, 1, [(0, 1), (1, 3), (2, 6), (3, 12), (4, 18), (5, 23), (6, 28), (7, 30), (8, 32), (9, 38), (10, 33), (11, 36)]),
 (0, 5, 1, [(0, 2)]),
 (1, 30, 1, []),
 (0, 3, 1, [(0, 4), (1, 5)]),
 (1, 60, 1, []),
 (1, 60, 1, []),
 (0, 2, 1, [(0, 7), (1, 8), (2, 9), (3, 10), (4, 11)]),
 (1, 200, 1, []),
 (1, 200, 1, []),
 (1, 200, 1, []),
 (1, 200, 1, []),
 (1, 200, 1, []),
 (0, 1, 1, [(0, 13), (1, 14), (2, 15), (3, 16), (4, 17)]),
 (1, 100, 1, []),
 (1, 100, 1, []),
 (1, 100, 1, []),
 (1, 100, 1, []),
 (1, 100, 1, []),
 (0, 4, 1, [(0, 19), (1, 20), (2, 21), (3, 22)]),
 (1, 40, 1, []),
 (1, 40, 1, []),
 (3, 40, 1, []),
 (1, 40, 1, []),
 (0, 4, 1, [(0, 24), (1, 25), (2, 26), (3, 27)]),
 (1, 40, 1, []),
 (1, 40, 1, []),
 (3, 40, 1, []),
 (1, 40, 1, []),
 (0, 0, 1, [(0, 29)]),
 (1, 30, 1, []),
 (0, 8, 1, [(0, 31)]),
 (1, 200, 1, []),
 (0, 7, 1, [(0, 30)]),
 (0, 10, 1, [(0, 34), (1, 35)]),
 (2, 60, 1, []),
 (2, 60, 1, []),
 (0, 6, 1, [(0, 37)]),
 (1, 10, 1, []),
 (5, 20, 1, [(0, 39)]),
 (0, 9, 20, [(0, 40), (1, 41)]),
 (1, 30, 20, []),
 (1, 30, 20, []),
 (9, 0, 0, []),
 (9, 0, 0, []),
 (9, 0, 0, []),
 (9, 0, 0, []),
 (9, 0, 0, []),
 (9, 0, 0, []),
 (9, 0, 0, []),
 (9, 0, 0, []),
 (0, 12, 1, [(3, 51), (4, 52), (5, 53), (7, 54), (8, 55), (9, 56), (10, 57), (11, 58), (13, 59), (14, 60), (15, 61), (16, 62), (17, 63), (20, 64), (21, 65), (22, 66), (23, 67), (24, 68), (25, 69), (26, 70), (27, 71), (29, 72), (37, 73), (38, 74), (39, 75), (40, 76), (41, 77), (42, 78), (45, 79), (46, 80), (47, 81)]),
 (1, 30, 1, []),
 (1, 60, 1, []),
 (1, 60, 1, []),
 (1, 200, 1, []),
 (1, 200, 1, []),
 (1, 200, 1, []),
 (1, 200, 1, []),
 (1, 200, 1, []),
 (1, 100, 1, []),
 (1, 100, 1, []),
 (1, 100, 1, []),
 (1, 100, 1, []),
 (1, 100, 1, []),
 (1, 40, 1, []),
 (1, 40, 1, []),
 (1, 40, 1, []),
 (3, 40, 1, []),
 (1, 40, 1, []),
 (1, 40, 1, []),
 (1, 40, 1, []),
 (1, 30, 1, []),
 (4, 200, 1, []),
 (1, 20, 1, []),
 (1, 20, 1, []),
 (1, 600, 1, []),
 (1, 600, 1, []),
 (1, 600, 1, []),
 (1, 20, 1, []),
 (1, 5, 1, []),
 (1, 60, 1, []),
 (1, 60, 1, [])]
def mo_isR : List (List Nat) := [[0], [0, 1, 2, 3, 4], [0, 1, 2, 3, 4], [0, 1], [0, 1, 2, 3], [0], [0], [0], [0], [0, 1], [0, 1], [0, 1, 2, 3, 4, 5, 6, 7, 8, 9, 10, 11], [3, 4, 5, 7, 8, 9, 10, 11, 13, 14, 15, 16, 17, 20, 21, 22, 23, 24, 25, 26, 27, 29, 37, 38, 39, 40, 41, 42, 45, 46, 47]]
def mo_nf : List Nat := [1, 6, 6, 3, 5, 2, 1, 6, 2, 5, 3, 15, 48]
end
section
/-! a small machine over the picture: values, memory, one instruction's weakest precondition -/
abbrev mo_V : Type := Int32 ⊕ (Int64 ⊕ (Nat × Nat))
abbrev mo_M : Type := (Nat → Nat → Nat → Int32) × (Nat → Nat → Nat → Int64)
abbrev mo_I : Type := Nat × Nat × Instr × Nat × Nat × Int
abbrev mo_L : Type := List (Option mo_V)
abbrev mo_Q : Type := Option mo_V → mo_M → Prop
abbrev mo_S : Type := List mo_V → mo_M → mo_Q → Prop
/-- a callee: how many words, whether by its receiver, its place in the pool, its receiver's class (50: not of the picture), what it does -/
abbrev mo_C : Type := Nat × Bool × Nat × Nat × mo_S
abbrev mo_k : Type := mo_L → List mo_V → mo_M → Prop
abbrev mo_K : Type := Nat → mo_k
/-- a method: its bytes, its class, its locals, what it returns (0 none, 1 int, 2 long, 3 boolean), its room -/
abbrev mo_T : Type := ByteArray × String × Nat × Nat × Room
def mo_at {α : Type} : List α → Nat → Option α
  | [], _ => none
  | a :: _, 0 => some a
  | _ :: r, n + 1 => mo_at r n
def mo_as : List (Nat × Nat) → Nat → Option Nat
  | [], _ => none
  | (a, b) :: r, k => bif Nat.beq a k then some b else mo_as r k
def mo_hs : List Nat → Nat → Bool
  | [], _ => false
  | a :: r, k => bif Nat.beq a k then true else mo_hs r k
/-- form and length or class of o; (9, 0) beyond -/
def mo_kd (o : Nat) : Nat × Nat := match mo_at mo_lay o with
  | some (f, n, _, _) => (f, n)
  | none => (9, 0)
def mo_N (o : Nat) : Nat := match mo_at mo_lay o with
  | some (_, _, n, _) => n
  | none => 0
def mo_rf (o k : Nat) : Nat := match mo_at mo_lay o with
  | some (_, _, _, l) => (match mo_as l k with
    | some b => b
    | none => 0)
  | none => 0
def mo_ref (ci k : Nat) : Bool := match mo_at mo_isR ci with
  | some l => mo_hs l k
  | none => false
def mo_num (ci : Nat) : Nat := match mo_at mo_nf ci with
  | some n => n
  | none => 0
def mo_ps : List (Nat × Nat) := (List.range 82).flatMap fun o => (List.range (mo_N o)).map fun w => (o, w)
/-- the cell (o, w) is there -/
def mo_in (o w : Nat) (P : Prop) : Prop := match mo_N o with
  | 0 => False
  | 1 => bif Nat.beq w 0 then P else False
  | n => w < n ∧ P
/-- the cell (o, w) is an object of class ci -/
def mo_isO (o ci : Nat) : Bool := Nat.beq (mo_kd o).1 0 && Nat.beq (mo_kd o).2 ci
def mo_lk : mo_L → Nat → Option mo_V
  | [], _ => none
  | a :: _, 0 => a
  | _ :: r, n + 1 => mo_lk r n
def mo_set : mo_L → Nat → Option mo_V → mo_L
  | [], _, _ => []
  | _ :: r, 0, v => v :: r
  | a :: r, n + 1, v => a :: mo_set r n v
def mo_st (ls : mo_L) (i : Nat) (v : mo_V) : mo_L := match i with
  | 0 => mo_set ls 0 (some v)
  | j + 1 => (match mo_lk ls j with
    | some (.inr (.inl _)) => mo_set (mo_set ls j none) (j + 1) (some v)
    | _ => mo_set ls (j + 1) (some v))
def mo_st2 (ls : mo_L) (i : Nat) (v : mo_V) : mo_L := mo_set (mo_st ls i v) (i + 1) none
def mo_wI (σ : mo_M) (o w k : Nat) (v : Int32) : mo_M := (fun a b c => if a = o ∧ b = w ∧ c = k then v else σ.1 a b c, σ.2)
def mo_wL (σ : mo_M) (o w k : Nat) (v : Int64) : mo_M := (σ.1, fun a b c => if a = o ∧ b = w ∧ c = k then v else σ.2 a b c)
/-- arrays of ints outside the picture that are only read: 90 the versions' scale, 95 the script -/
def mo_en (ex : Nat × (Nat → Int32)) (o : Nat) : Nat := bif Nat.beq o 90 then 3 else bif Nat.beq o 95 then ex.1 else 0
def mo_ev (ex : Nat × (Nat → Int32)) (o : Nat) : Nat → Int32 := bif Nat.beq o 90 then (fun k => match k with | 0 => 1000000 | 1 => 1000 | _ => 1) else ex.2
def mo_pop : Nat → List mo_V → List mo_V → Option (List mo_V × List mo_V)
  | 0, st, acc => some (acc, st)
  | _ + 1, [], _ => none
  | n + 1, v :: st, acc => mo_pop n st (v :: acc)
def mo_cat : List mo_V → Nat
  | [] => 0
  | .inr (.inl _) :: r => mo_cat r + 2
  | _ :: r => mo_cat r + 1
def mo_psh : Option mo_V → List mo_V → List mo_V
  | none, r => r
  | some v, r => v :: r
def mo_wide : mo_V → Bool
  | .inr (.inl _) => true
  | _ => false
-- shapes of the stack
def mo_1i (st : List mo_V) (f : Int32 → List mo_V → Prop) : Prop := match st with
  | .inl x :: r => f x r
  | _ => False
def mo_2i (st : List mo_V) (f : Int32 → Int32 → List mo_V → Prop) : Prop := match st with
  | .inl y :: .inl x :: r => f x y r
  | _ => False
def mo_1l (st : List mo_V) (f : Int64 → List mo_V → Prop) : Prop := match st with
  | .inr (.inl x) :: r => f x r
  | _ => False
def mo_2l (st : List mo_V) (f : Int64 → Int64 → List mo_V → Prop) : Prop := match st with
  | .inr (.inl y) :: .inr (.inl x) :: r => f x y r
  | _ => False
def mo_li (st : List mo_V) (f : Int64 → Int32 → List mo_V → Prop) : Prop := match st with
  | .inl y :: .inr (.inl x) :: r => f x y r
  | _ => False
def mo_1r (st : List mo_V) (f : Nat → Nat → List mo_V → Prop) : Prop := match st with
  | .inr (.inr (o, w)) :: r => f o w r
  | _ => False
def mo_ri (st : List mo_V) (f : Nat → Nat → Int32 → List mo_V → Prop) : Prop := match st with
  | .inl i :: .inr (.inr (o, w)) :: r => f o w i r
  | _ => False
def mo_rii (st : List mo_V) (f : Nat → Nat → Int32 → Int32 → List mo_V → Prop) : Prop := match st with
  | .inl x :: .inl i :: .inr (.inr (o, w)) :: r => f o w i x r
  | _ => False
def mo_ril (st : List mo_V) (f : Nat → Nat → Int32 → Int64 → List mo_V → Prop) : Prop := match st with
  | .inr (.inl x) :: .inl i :: .inr (.inr (o, w)) :: r => f o w i x r
  | _ => False
def mo_ldi (ls : mo_L) (i : Nat) (f : Int32 → Prop) : Prop := match mo_lk ls i with
  | some (.inl x) => f x
  | _ => False
def mo_ldl (ls : mo_L) (i : Nat) (f : Int64 → Prop) : Prop := match mo_lk ls i with
  | some (.inr (.inl x)) => f x
  | _ => False
def mo_ldr (ls : mo_L) (i : Nat) (f : Nat → Nat → Prop) : Prop := match mo_lk ls i with
  | some (.inr (.inr (o, w))) => f o w
  | _ => False
def mo_b (c : Bool) (P : Prop) : Prop := bif c then P else False
def mo_if (c : Jvm.ClassFile.Cond) (x y : Int32) (T F : Prop) : Prop := match c with
  | .eq => (x = y → T) ∧ (¬ x = y → F)
  | .ne => (¬ x = y → T) ∧ (x = y → F)
  | .lt => (x < y → T) ∧ (¬ x < y → F)
  | .ge => (y ≤ x → T) ∧ (¬ y ≤ x → F)
  | .gt => (y < x → T) ∧ (¬ y < x → F)
  | .le => (x ≤ y → T) ∧ (¬ x ≤ y → F)
/-- where a switch goes -/
def mo_sw (pc : Nat) (d lo hi : Int) (offs : Array Int) (x : Int32) : Int := if x.toInt < lo ∨ hi < x.toInt then (pc : Int) + d else (pc : Int) + (offs[(x.toInt - lo).toNat]?).getD d
def mo_call (C : mo_C) (k : mo_k) (ls : mo_L) (st : List mo_V) (σ : mo_M) : Prop := match mo_pop C.1 st [] with
  | some (as, r) => mo_b (Nat.ble (mo_cat r) 8) (bif C.2.1 && Nat.blt C.2.2.2.1 50 then (mo_1r as fun o w _ => mo_b (mo_isO o C.2.2.2.1) (mo_in o w (C.2.2.2.2 as σ (fun x σ' => k ls (mo_psh x r) σ')))) else C.2.2.2.2 as σ (fun x σ' => k ls (mo_psh x r) σ'))
  | none => False
def mo_ald (ex : Nat × (Nat → Int32)) (fm o w : Nat) (i : Int32) (σ : mo_M) (f : Int32 → Prop) : Prop :=
  bif Nat.beq (mo_kd o).1 fm then mo_in o w (vp_in i (mo_kd o).2 ∧ f (σ.1 o w i.toNatClampNeg)) else mo_b (Nat.beq fm 1 && Nat.beq w 0 && (Nat.beq o 90 || Nat.beq o 95)) (vp_in i (mo_en ex o) ∧ f (mo_ev ex o i.toNatClampNeg))
def mo_op (ex : Nat × (Nat → Int32)) (ml rt : Nat) (cs : Nat → mo_C) (K : mo_K) (Q : mo_Q) (q : mo_I) (k : mo_k) (ls : mo_L) (st : List mo_V) (σ : mo_M) : Prop :=
  match q.2.2.1 with
  | .iconst _ => k ls (.inl (Int32.ofInt q.2.2.2.2.2) :: st) σ
  | .bipush _ => k ls (.inl (Int32.ofInt q.2.2.2.2.2) :: st) σ
  | .sipush _ => k ls (.inl (Int32.ofInt q.2.2.2.2.2) :: st) σ
  | .ldc _ => bif Nat.beq q.2.2.2.1 0 then k ls (.inl (Int32.ofInt q.2.2.2.2.2) :: st) σ else k ls (.inr (.inr (q.2.2.2.1, 0)) :: st) σ
  | .ldc_w _ => k ls (.inl (Int32.ofInt q.2.2.2.2.2) :: st) σ
  | .ldc2_w _ => k ls (.inr (.inl (Int64.ofInt q.2.2.2.2.2)) :: st) σ
  | .lconst _ => k ls (.inr (.inl (Int64.ofInt q.2.2.2.2.2)) :: st) σ
  | .iload _ => mo_ldi ls q.2.2.2.1 fun x => k ls (.inl x :: st) σ
  | .iload_n _ => mo_ldi ls q.2.2.2.1 fun x => k ls (.inl x :: st) σ
  | .lload _ => mo_ldl ls q.2.2.2.1 fun x => k ls (.inr (.inl x) :: st) σ
  | .lload_n _ => mo_ldl ls q.2.2.2.1 fun x => k ls (.inr (.inl x) :: st) σ
  | .aload _ => mo_ldr ls q.2.2.2.1 fun o w => k ls (.inr (.inr (o, w)) :: st) σ
  | .aload_n _ => mo_ldr ls q.2.2.2.1 fun o w => k ls (.inr (.inr (o, w)) :: st) σ
  | .istore _ => mo_b (Nat.blt q.2.2.2.1 ml) (mo_1i st fun x r => k (mo_st ls q.2.2.2.1 (.inl x)) r σ)
  | .istore_n _ => mo_b (Nat.blt q.2.2.2.1 ml) (mo_1i st fun x r => k (mo_st ls q.2.2.2.1 (.inl x)) r σ)
  | .lstore _ => mo_b (Nat.blt (q.2.2.2.1 + 1) ml) (mo_1l st fun x r => k (mo_st2 ls q.2.2.2.1 (.inr (.inl x))) r σ)
  | .lstore_n _ => mo_b (Nat.blt (q.2.2.2.1 + 1) ml) (mo_1l st fun x r => k (mo_st2 ls q.2.2.2.1 (.inr (.inl x))) r σ)
  | .astore _ => mo_b (Nat.blt q.2.2.2.1 ml) (mo_1r st fun o w r => k (mo_st ls q.2.2.2.1 (.inr (.inr (o, w)))) r σ)
  | .astore_n _ => mo_b (Nat.blt q.2.2.2.1 ml) (mo_1r st fun o w r => k (mo_st ls q.2.2.2.1 (.inr (.inr (o, w)))) r σ)
  | .iinc _ _ => mo_b (Nat.blt q.2.2.2.1 ml) (mo_ldi ls q.2.2.2.1 fun x => k (mo_st ls q.2.2.2.1 (.inl (x + Int32.ofInt q.2.2.2.2.2))) st σ)
  | .iadd => mo_2i st fun x y r => k ls (.inl (x + y) :: r) σ
  | .isub => mo_2i st fun x y r => k ls (.inl (x - y) :: r) σ
  | .imul => mo_2i st fun x y r => k ls (.inl (x * y) :: r) σ
  | .idiv => mo_2i st fun x y r => ¬ y = 0 ∧ k ls (.inl (x / y) :: r) σ
  | .irem => mo_2i st fun x y r => ¬ y = 0 ∧ k ls (.inl (x - x / y * y) :: r) σ
  | .ineg => mo_1i st fun x r => k ls (.inl (-x) :: r) σ
  | .iand => mo_2i st fun x y r => k ls (.inl (x &&& y) :: r) σ
  | .ior => mo_2i st fun x y r => k ls (.inl (x ||| y) :: r) σ
  | .ixor => mo_2i st fun x y r => k ls (.inl (x ^^^ y) :: r) σ
  | .ishl => mo_2i st fun x y r => k ls (.inl (x <<< (y &&& 31)) :: r) σ
  | .ishr => mo_2i st fun x y r => k ls (.inl (x >>> (y &&& 31)) :: r) σ
  | .iushr => mo_2i st fun x y r => k ls (.inl (x.toUInt32 >>> (y.toUInt32 &&& Int32.toUInt32 31)).toInt32 :: r) σ
  | .ladd => mo_2l st fun x y r => k ls (.inr (.inl (x + y)) :: r) σ
  | .land => mo_2l st fun x y r => k ls (.inr (.inl (x &&& y)) :: r) σ
  | .lor => mo_2l st fun x y r => k ls (.inr (.inl (x ||| y)) :: r) σ
  | .lxor => mo_2l st fun x y r => k ls (.inr (.inl (x ^^^ y)) :: r) σ
  | .lshl => mo_li st fun x y r => k ls (.inr (.inl (x <<< (y.toInt64 &&& 63))) :: r) σ
  | .lshr => mo_li st fun x y r => k ls (.inr (.inl (x >>> (y.toInt64 &&& 63))) :: r) σ
  | .lushr => mo_li st fun x y r => k ls (.inr (.inl (x.toUInt64 >>> (y.toInt64.toUInt64 &&& Int64.toUInt64 63)).toInt64) :: r) σ
  | .i2l => mo_1i st fun x r => k ls (.inr (.inl x.toInt64) :: r) σ
  | .l2i => mo_1l st fun x r => k ls (.inl x.toInt32 :: r) σ
  | .i2b => mo_1i st fun x r => k ls (.inl x.toInt8.toInt32 :: r) σ
  | .lcmp => mo_2l st fun x y r => k ls (.inl (lg_cmp x y) :: r) σ
  | .dup => (match st with
    | v :: r => mo_b (!mo_wide v) (k ls (v :: v :: r) σ)
    | _ => False)
  | .dup2 => (match st with
    | a :: b :: r => mo_b (!mo_wide a && !mo_wide b) (k ls (a :: b :: a :: b :: r) σ)
    | _ => False)
  | .pop => (match st with
    | v :: r => mo_b (!mo_wide v) (k ls r σ)
    | _ => False)
  | .getfield _ => mo_1r st fun o w r => mo_b (mo_isO o q.2.2.2.1) (mo_in o w (bif mo_ref q.2.2.2.1 q.2.2.2.2.1 then k ls (.inr (.inr (mo_rf o q.2.2.2.2.1, w)) :: r) σ else k ls (.inl (σ.1 o w q.2.2.2.2.1) :: r) σ))
  | .putfield _ => (match st with
    | .inl v :: .inr (.inr (o, w)) :: r => mo_b (mo_isO o q.2.2.2.1 && !mo_ref q.2.2.2.1 q.2.2.2.2.1) (mo_in o w (k ls r (mo_wI σ o w q.2.2.2.2.1 v)))
    | _ => False)
  | .getstatic _ => k ls (.inr (.inr (90, 0)) :: st) σ
  | .iaload => mo_ri st fun o w i r => mo_ald ex 1 o w i σ fun x => k ls (.inl x :: r) σ
  | .baload => mo_ri st fun o w i r => bif Nat.beq (mo_kd o).1 3 then mo_ald ex 3 o w i σ fun x => k ls (.inl x :: r) σ else mo_ald ex 4 o w i σ fun x => k ls (.inl x :: r) σ
  | .laload => mo_ri st fun o w i r => mo_b (Nat.beq (mo_kd o).1 2) (mo_in o w (vp_in i (mo_kd o).2 ∧ k ls (.inr (.inl (σ.2 o w i.toNatClampNeg)) :: r) σ))
  | .aaload => mo_ri st fun o w i r => mo_b (Nat.beq (mo_kd o).1 5) (mo_in o w (vp_in i (mo_kd o).2 ∧ k ls (.inr (.inr (mo_rf o 0, i.toNatClampNeg)) :: r) σ))
  | .iastore => mo_rii st fun o w i x r => mo_b (Nat.beq (mo_kd o).1 1) (mo_in o w (vp_in i (mo_kd o).2 ∧ k ls r (mo_wI σ o w i.toNatClampNeg x)))
  | .bastore => mo_rii st fun o w i x r => bif Nat.beq (mo_kd o).1 3 then mo_in o w (vp_in i (mo_kd o).2 ∧ k ls r (mo_wI σ o w i.toNatClampNeg (vp_nar .boolean x))) else mo_b (Nat.beq (mo_kd o).1 4) (mo_in o w (vp_in i (mo_kd o).2 ∧ k ls r (mo_wI σ o w i.toNatClampNeg (vp_nar .byte x))))
  | .lastore => mo_ril st fun o w i x r => mo_b (Nat.beq (mo_kd o).1 2) (mo_in o w (vp_in i (mo_kd o).2 ∧ k ls r (mo_wL σ o w i.toNatClampNeg x)))
  | .arraylength => mo_1r st fun o w r => bif Nat.blt 0 (mo_kd o).1 && Nat.blt (mo_kd o).1 6 then mo_in o w (k ls (.inl (Int32.ofNat (mo_kd o).2) :: r) σ) else mo_b (Nat.beq w 0 && (Nat.beq o 90 || Nat.beq o 95)) (k ls (.inl (Int32.ofNat (mo_en ex o)) :: r) σ)
  | .ifCond c _ => mo_1i st fun x r => mo_if c x 0 (K q.2.2.2.1 ls r σ) (k ls r σ)
  | .if_icmp c _ => mo_2i st fun x y r => mo_if c x y (K q.2.2.2.1 ls r σ) (k ls r σ)
  | .goto _ => K q.2.2.2.1 ls st σ
  | .tableswitch d lo hi offs => mo_1i st fun x r => ∀ t : Nat, mo_sw q.1 d lo hi offs x = (t : Int) → K t ls r σ
  | .ireturn => (match st with
    | [.inl v] => (match rt with
      | 1 => Q (some (.inl v)) σ
      | 3 => (v = 0 ∨ v = 1) ∧ Q (some (.inl v)) σ
      | _ => False)
    | _ => False)
  | .lreturn => (match st with
    | [.inr (.inl v)] => mo_b (Nat.beq rt 2) (Q (some (.inr (.inl v))) σ)
    | _ => False)
  | .return_ => (match st with
    | [] => mo_b (Nat.beq rt 0) (Q none σ)
    | _ => False)
  | .invokevirtual i => mo_b ((cs q.2.2.2.1).2.1 && Nat.beq (cs q.2.2.2.1).2.2.1 i) (mo_call (cs q.2.2.2.1) k ls st σ)
  | .invokestatic i => mo_b (!(cs q.2.2.2.1).2.1 && Nat.beq (cs q.2.2.2.1).2.2.1 i) (mo_call (cs q.2.2.2.1) k ls st σ)
  | _ => False
/-- a row of instructions -/
def mo_am (ex : Nat × (Nat → Int32)) (ml rt : Nat) (cs : Nat → mo_C) (K : mo_K) (Q : mo_Q) : List mo_I → Nat → mo_k
  | [], pc => K pc
  | q :: r, _ => mo_op ex ml rt cs K Q q (mo_am ex ml rt cs K Q r (q.1 + q.2.1))
end
section
/-! the picture as cells of the heap -/
abbrev mo_E : Type := va_G × (Nat → ClassId) × (Nat → Nat → Nat) × (Nat → Prop) × (Nat × (Nat → Int32))
def mo_cv (ad : Nat → Nat → Nat) : mo_V → Value
  | .inl x => .int x
  | .inr (.inl x) => .long x
  | .inr (.inr (o, w)) => .ref (ad o w)
def mo_fv (ad : Nat → Nat → Nat) (σ : mo_M) (o w ci k : Nat) : Value := bif mo_ref ci k then .ref (ad (mo_rf o k) w) else .int (σ.1 o w k)
def mo_cell (cA : Nat → ClassId) (ad : Nat → Nat → Nat) (σ : mo_M) (o w : Nat) : va_E := match mo_kd o with
  | (0, ci) => .inr (ci, (List.range (mo_num ci)).map (mo_fv ad σ o w ci))
  | (1, n) => .inl (cA 1, n, .inl (σ.1 o w))
  | (2, n) => .inl (cA 2, n, .inr (.inl (σ.2 o w)))
  | (3, n) => .inl (cA 3, n, .inl (σ.1 o w))
  | (4, n) => .inl (cA 4, n, .inl (σ.1 o w))
  | (_, n) => .inl (cA 5, n, .inr (.inr (.inr (.inr (fun k => some (ad (mo_rf o 0) k))))))
def mo_wd (g : mo_E) (σ : mo_M) : va_W := mo_ps.map fun q => (g.2.2.1 q.1 q.2, mo_cell g.2.1 g.2.2.1 σ q.1 q.2)
def mo_ty (cA : Nat → ClassId) : List (ClassId × FieldType) := [(cA 1, .int), (cA 2, .long), (cA 3, .boolean), (cA 4, .byte), (cA 5, .object RX9)]
theorem mo_at_none {α : Type} : ∀ (l : List α) (n : Nat), l.length ≤ n → mo_at l n = none
  | [], _, _ => rfl
  | a :: r, 0, h => absurd h (by simp)
  | a :: r, n + 1, h => mo_at_none r n (by simpa using h)
theorem mo_N_top {o : Nat} (h : 82 ≤ o) : mo_N o = 0 := by
  unfold mo_N
  rw [mo_at_none mo_lay o (by exact h)]
theorem mo_ps_mem {o w : Nat} : (o, w) ∈ mo_ps ↔ w < mo_N o := by
  unfold mo_ps
  simp only [List.mem_flatMap, List.mem_map, List.mem_range, Prod.mk.injEq]
  constructor
  · rintro ⟨a, ha, b, hb, rfl, rfl⟩
    exact hb
  · intro h
    refine ⟨o, ?_, w, h, rfl, rfl⟩
    apply Classical.byContradiction
    intro q
    rw [mo_N_top (by omega)] at h
    omega
theorem mo_in_of {o w : Nat} {P : Prop} (h : mo_in o w P) : (o, w) ∈ mo_ps ∧ P := by
  rw [mo_ps_mem]
  unfold mo_in at h
  split at h
  next => exact h.elim
  next e =>
    rw [e]
    cases hw : Nat.beq w 0 with
    | false => rw [hw] at h; exact h.elim
    | true => rw [hw] at h; exact ⟨by have := Nat.eq_of_beq_eq_true hw; omega, h⟩
  next => exact h
theorem mo_b_of {c : Bool} {P : Prop} (h : mo_b c P) : c = true ∧ P := by
  cases c with
  | false => exact h.elim
  | true => exact ⟨rfl, h⟩
theorem mo_ps_nd : mo_ps.Nodup := by decide +kernel
theorem mo_ps_ix {o w : Nat} (h : (o, w) ∈ mo_ps) : ∃ q0 : Nat, mo_ps[q0]? = some (o, w) := List.getElem?_of_mem h
theorem mo_ps_one {i j : Nat} {q : Nat × Nat} (h : mo_ps[i]? = some q) (h2 : mo_ps[j]? = some q) : i = j := by
  obtain ⟨hi, ei⟩ := List.getElem?_eq_some_iff.mp h
  obtain ⟨hj, ej⟩ := List.getElem?_eq_some_iff.mp h2
  exact (List.getElem?_inj hi mo_ps_nd).mp (h.trans h2.symm)
theorem mo_wd_at (g : mo_E) (σ : mo_M) {q0 o w : Nat} (h : mo_ps[q0]? = some (o, w)) : (mo_wd g σ)[q0]? = some (g.2.2.1 o w, mo_cell g.2.1 g.2.2.1 σ o w) := by
  unfold mo_wd
  rw [List.getElem?_map, h]
  rfl
/-- a memory that differs in the cell (o, w) alone -/
theorem mo_wd_set (g : mo_E) {σ σ' : mo_M} {q0 o w : Nat} (h : mo_ps[q0]? = some (o, w)) (h1 : ∀ a b, ¬ (a = o ∧ b = w) → σ'.1 a b = σ.1 a b) (h2 : ∀ a b, ¬ (a = o ∧ b = w) → σ'.2 a b = σ.2 a b) : (mo_wd g σ).set q0 (g.2.2.1 o w, mo_cell g.2.1 g.2.2.1 σ' o w) = mo_wd g σ' := by
  have hl := (List.getElem?_eq_some_iff.mp (mo_wd_at g σ h)).1
  apply List.ext_getElem?
  intro j
  by_cases hj : j = q0
  · subst hj
    rw [List.getElem?_set_self hl, mo_wd_at g σ' h]
  · rw [List.getElem?_set_ne (Ne.symm hj)]
    unfold mo_wd
    rw [List.getElem?_map, List.getElem?_map]
    cases hq : mo_ps[j]? with
    | none => rfl
    | some q =>
      obtain ⟨a, b⟩ := q
      have hne : ¬ (a = o ∧ b = w) := by
        rintro ⟨rfl, rfl⟩
        exact hj (mo_ps_one hq h)
      show some (g.2.2.1 a b, mo_cell g.2.1 g.2.2.1 σ a b) = some (g.2.2.1 a b, mo_cell g.2.1 g.2.2.1 σ' a b)
      unfold mo_cell mo_fv
      rw [h1 a b hne, h2 a b hne]
theorem mo_wI_o (σ : mo_M) (o w k : Nat) (v : Int32) : ∀ a b, ¬ (a = o ∧ b = w) → (mo_wI σ o w k v).1 a b = σ.1 a b := by
  intro a b h
  funext c
  show (if a = o ∧ b = w ∧ c = k then v else σ.1 a b c) = _
  rw [if_neg (fun q => h ⟨q.1, q.2.1⟩)]
theorem mo_wI_s (σ : mo_M) (o w k : Nat) (v : Int32) : (mo_wI σ o w k v).1 o w = upd (σ.1 o w) k v := by
  funext c
  show (if o = o ∧ w = w ∧ c = k then v else σ.1 o w c) = upd (σ.1 o w) k v c
  by_cases h : c = k <;> simp [upd, h]
theorem mo_wL_o (σ : mo_M) (o w k : Nat) (v : Int64) : ∀ a b, ¬ (a = o ∧ b = w) → (mo_wL σ o w k v).2 a b = σ.2 a b := by
  intro a b h
  funext c
  show (if a = o ∧ b = w ∧ c = k then v else σ.2 a b c) = _
  rw [if_neg (fun q => h ⟨q.1, q.2.1⟩)]
theorem mo_wL_s (σ : mo_M) (o w k : Nat) (v : Int64) : (mo_wL σ o w k v).2 o w = vp_updL (σ.2 o w) k v := by
  funext c
  show (if o = o ∧ w = w ∧ c = k then v else σ.2 o w c) = vp_updL (σ.2 o w) k v c
  by_cases h : c = k <;> simp [vp_updL, h]
-- cells by their forms
theorem mo_cell_o {cA : Nat → ClassId} {ad : Nat → Nat → Nat} (σ : mo_M) {o w ci : Nat} (h : mo_kd o = (0, ci)) : mo_cell cA ad σ o w = .inr (ci, (List.range (mo_num ci)).map (mo_fv ad σ o w ci)) := by
  unfold mo_cell; rw [h]; rfl
theorem mo_cell_1 {cA : Nat → ClassId} {ad : Nat → Nat → Nat} (σ : mo_M) {o w n : Nat} (h : mo_kd o = (1, n)) : mo_cell cA ad σ o w = .inl (cA 1, n, .inl (σ.1 o w)) := by
  unfold mo_cell; rw [h]; rfl
theorem mo_cell_2 {cA : Nat → ClassId} {ad : Nat → Nat → Nat} (σ : mo_M) {o w n : Nat} (h : mo_kd o = (2, n)) : mo_cell cA ad σ o w = .inl (cA 2, n, .inr (.inl (σ.2 o w))) := by
  unfold mo_cell; rw [h]; rfl
theorem mo_cell_3 {cA : Nat → ClassId} {ad : Nat → Nat → Nat} (σ : mo_M) {o w n : Nat} (h : mo_kd o = (3, n)) : mo_cell cA ad σ o w = .inl (cA 3, n, .inl (σ.1 o w)) := by
  unfold mo_cell; rw [h]; rfl
theorem mo_cell_4 {cA : Nat → ClassId} {ad : Nat → Nat → Nat} (σ : mo_M) {o w n : Nat} (h : mo_kd o = (4, n)) : mo_cell cA ad σ o w = .inl (cA 4, n, .inl (σ.1 o w)) := by
  unfold mo_cell; rw [h]; rfl
theorem mo_cell_5 {cA : Nat → ClassId} {ad : Nat → Nat → Nat} (σ : mo_M) {o w n : Nat} (h : mo_kd o = (5, n)) : mo_cell cA ad σ o w = .inl (cA 5, n, .inr (.inr (.inr (.inr (fun k => some (ad (mo_rf o 0) k)))))) := by
  unfold mo_cell; rw [h]; rfl
/-- a field of an object is written -/
theorem mo_cell_put {cA : Nat → ClassId} {ad : Nat → Nat → Nat} (σ : mo_M) {o w ci k : Nat} (h : mo_kd o = (0, ci)) (hr : mo_ref ci k = false) (v : Int32) : mo_cell cA ad (mo_wI σ o w k v) o w = .inr (ci, ((List.range (mo_num ci)).map (mo_fv ad σ o w ci)).set k (.int v)) := by
  rw [mo_cell_o _ h]
  congr 2
  apply List.ext_getElem?
  intro j
  by_cases hj : j = k
  · subst hj
    by_cases hl : j < mo_num ci
    · rw [List.getElem?_set_self (by simpa using hl), List.getElem?_map, List.getElem?_range hl]
      show some (mo_fv ad _ o w ci j) = _
      unfold mo_fv
      rw [hr, mo_wI_s]
      simp [upd]
    · rw [List.getElem?_eq_none (by simpa using Nat.le_of_not_lt hl), List.getElem?_eq_none (by simpa using Nat.le_of_not_lt hl)]
  · rw [List.getElem?_set_ne (Ne.symm hj), List.getElem?_map, List.getElem?_map]
    cases hj2 : (List.range (mo_num ci))[j]? with
    | none => rfl
    | some q =>
      obtain ⟨h1, h2⟩ := List.getElem?_eq_some_iff.mp hj2
      rw [List.getElem_range] at h2
      have hq : ¬ q = k := by omega
      show some _ = some _
      unfold mo_fv
      rw [mo_wI_s]
      simp [upd, hq]
end
section
/-! words: those of the tables that stay -/
def mo_gw : List Cond := lw_tbl.filter goodWord
theorem mo_gw_of {w : Cond} (h : w ∈ lw_tbl) (hg : goodWord w = true) : w ∈ mo_gw := List.mem_filter.mpr ⟨h, hg⟩
theorem mo_gw_in {w : Cond} (h : w ∈ mo_gw) : w ∈ lw_tbl := (List.mem_filter.mp h).1
theorem mo_gw_good {w : Cond} (h : w ∈ mo_gw) : goodWord w = true := (List.mem_filter.mp h).2
/-- words by which a nested class reaches a private member of its host -/
def mo_nw : List Cond := [.methodLinkNest RX4 33 yX11_contains RX11, .methodLinkNest RX0 38 yX11_contains RX11, .methodLinkNest RX10 53 yX11_contains RX11, .methodLinkNest RX10 61 yX11_lowest RX11, .methodLinkNest RX1 35 yX11_contains RX11, .methodLinkNest RX6 21 yX11_contains RX11, .fieldLinkNest RX7 76 "MadeOf" "VERSION_SCALE" "[I" RX11]
/-- String constants of the reader -/
def mo_sr : List (Nat × String × Nat) := [(34, "bad", 91), (54, "or", 92), (59, "and", 93), (61, "any", 94)]
/-- what lies outside the picture and is only read -/
def mo_xt (g : mo_E) (U : State) : Prop :=
  va_Z "MadeOf" "VERSION_SCALE" "[I" (.ref (g.2.2.1 90 0)) g.2.2.2.1 U U.heap ∧ va_T .int (g.2.2.1 90 0) 3 (fun j => .int (mo_ev g.2.2.2.2 90 j)) g.2.2.2.1 U U.heap ∧
  va_T .int (g.2.2.1 95 0) g.2.2.2.2.1 (fun j => .int (mo_ev g.2.2.2.2 95 j)) g.2.2.2.1 U U.heap ∧
  (∀ x ∈ mo_sr, vk_R RX7 x.1 x.2.1 (g.2.2.1 x.2.2 0) U) ∧ (∃ adV : Nat → Nat, vk_S 4 [3, 2, 3, 3] [[98, 97, 100], [111, 114], [97, 110, 100], [97, 110, 121]] (fun i => g.2.2.1 (91 + i) 0) adV g.2.2.2.1 U U.heap) ∧
  va_Z "java/lang/String" "COMPACT_STRINGS" "Z" (.int 1) g.2.2.2.1 U U.heap ∧ va_Zq "jdk/internal/util/Preconditions" "SIOOBE_FORMATTER" "Ljava/util/function/BiFunction;" g.2.2.2.1 U U.heap
def mo_ok (g : mo_E) (U : State) : Prop := va_K g.1 vwCl (mo_ty g.2.1) U ∧ (∀ q ∈ mo_ps, ∀ r ∈ mo_ps, g.2.2.1 q.1 q.2 = g.2.2.1 r.1 r.2 → q = r) ∧ (∀ q ∈ mo_ps, g.2.2.2.1 (g.2.2.1 q.1 q.2)) ∧ (∀ w ∈ mo_nw, va_Nw w U) ∧ mo_xt g U
theorem mo_xt_moved {g : mo_E} {u U : State} (hW : u.WarmedH U.vm) (hh : ∀ a : Nat, a < u.heap.size → ¬ g.2.2.2.1 a → U.heap[a]? = u.heap[a]?) (h : mo_xt g u) : mo_xt g U := by
  obtain ⟨h1, h2, h3, h4, ⟨v, h5⟩, h6, h7⟩ := h
  have ha := hW.alike
  exact ⟨va_Z.kept (va_Z.moved ha h1) hh, va_T.kept (va_T.moved ha h2) hh, va_T.kept (va_T.moved ha h3) hh, fun x hx => vk_R.warm hW (h4 x hx), ⟨v, vk_S.kept (vk_S.moved ha h5) hh⟩, va_Z.kept (va_Z.moved ha h6) hh, va_Zq.kept (va_Zq.moved ha h7) hh⟩
theorem mo_ok_moved {g : mo_E} {u U : State} (hW : u.WarmedH U.vm) (hh : ∀ a : Nat, a < u.heap.size → ¬ g.2.2.2.1 a → U.heap[a]? = u.heap[a]?) (h : mo_ok g u) : mo_ok g U := by
  obtain ⟨h1, h2, h3, h4, h5⟩ := h
  refine ⟨va_K.moved hW.alike h1, h2, h3, fun w hw => ?_, mo_xt_moved hW hh h5⟩
  have hz := h4 w hw
  simp only [mo_nw, List.mem_cons, List.not_mem_nil, or_false] at hw
  rcases hw with rfl | rfl | rfl | rfl | rfl | rfl | rfl
  · exact va_Nw.warmM hW hz
  · exact va_Nw.warmM hW hz
  · exact va_Nw.warmM hW hz
  · exact va_Nw.warmM hW hz
  · exact va_Nw.warmM hW hz
  · exact va_Nw.warmM hW hz
  · exact va_Nw.warmF hW hz
theorem mo_D (g : mo_E) (σ : mo_M) {U : State} (h : mo_ok g U) : va_D g.2.2.2.1 (mo_wd g σ) := by
  obtain ⟨-, h2, h3, -⟩ := h
  have key : ∀ (i : Nat) (x : Nat × va_E), (mo_wd g σ)[i]? = some x → ∃ q : Nat × Nat, mo_ps[i]? = some q ∧ x.1 = g.2.2.1 q.1 q.2 := by
    intro i x hi
    unfold mo_wd at hi
    rw [List.getElem?_map] at hi
    cases hq : mo_ps[i]? with
    | none => rw [hq] at hi; cases hi
    | some q => rw [hq] at hi; cases hi; exact ⟨q, rfl, rfl⟩
  refine ⟨fun i j x y hx hy hxy => ?_, fun i x hx => ?_⟩
  · obtain ⟨q, h4, h5⟩ := key i x hx
    obtain ⟨r, h6, h7⟩ := key j y hy
    have := h2 q (List.mem_of_getElem? h4) r (List.mem_of_getElem? h6) (by rw [← h5, ← h7]; exact hxy)
    subst this
    exact mo_ps_one h4 h6
  · obtain ⟨q, h4, h5⟩ := key i x hx
    rw [h5]
    exact h3 q (List.mem_of_getElem? h4)
/-! locals -/
def mo_lp (ad : Nat → Nat → Nat) : Nat → mo_L → List (Nat × Value)
  | _, [] => []
  | i, none :: r => mo_lp ad (i + 1) r
  | i, some v :: r => (i, mo_cv ad v) :: mo_lp ad (i + 1) r
theorem mo_lp_mem (ad : Nat → Nat → Nat) : ∀ (ls : mo_L) (i : Nat) (q : Nat × Value), q ∈ mo_lp ad i ls ↔ ∃ (j : Nat) (v : mo_V), mo_lk ls j = some v ∧ q = (i + j, mo_cv ad v)
  | [], i, q => by simp [mo_lp, mo_lk]
  | none :: r, i, q => by
    rw [mo_lp, mo_lp_mem ad r (i + 1) q]
    constructor
    · rintro ⟨j, v, h, rfl⟩
      exact ⟨j + 1, v, h, by rw [show i + (j + 1) = i + 1 + j by omega]⟩
    · rintro ⟨j, v, h, rfl⟩
      cases j with
      | zero => cases h
      | succ j => exact ⟨j, v, h, by rw [show i + (j + 1) = i + 1 + j by omega]⟩
  | some w :: r, i, q => by
    rw [mo_lp, List.mem_cons, mo_lp_mem ad r (i + 1) q]
    constructor
    · rintro (rfl | ⟨j, v, h, rfl⟩)
      · exact ⟨0, w, rfl, rfl⟩
      · exact ⟨j + 1, v, h, by rw [show i + (j + 1) = i + 1 + j by omega]⟩
    · rintro ⟨j, v, h, rfl⟩
      cases j with
      | zero => cases h; exact Or.inl rfl
      | succ j => exact Or.inr ⟨j, v, h, by rw [show i + (j + 1) = i + 1 + j by omega]⟩
theorem mo_lk_set : ∀ (ls : mo_L) (i j : Nat) (v : Option mo_V), mo_lk (mo_set ls i v) j = if j = i then (if i < ls.length then v else none) else mo_lk ls j
  | [], i, j, v => by simp [mo_set, mo_lk]
  | a :: r, 0, 0, v => by simp [mo_set, mo_lk]
  | a :: r, 0, j + 1, v => by simp [mo_set, mo_lk]
  | a :: r, i + 1, 0, v => by simp [mo_set, mo_lk]
  | a :: r, i + 1, j + 1, v => by simp [mo_set, mo_lk, mo_lk_set r i j v]
theorem mo_cv_cat (ad : Nat → Nat → Nat) (v : mo_V) : (mo_cv ad v).category = if mo_wide v then 2 else 1 := by
  rcases v with x | x | ⟨o, w⟩ <;> rfl
theorem mo_lv {ad : Nat → Nat → Nat} {A : Array Slot} {n : Nat} {ls : mo_L} (h : lv_has A n (mo_lp ad 0 ls)) {i : Nat} {v : mo_V} (hi : mo_lk ls i = some v) : A[i]? = some (.val (mo_cv ad v)) :=
  h.2.2 (i, mo_cv ad v) ((mo_lp_mem ad ls 0 _).mpr ⟨i, v, hi, by simp⟩)
/-- what a store of one word leaves -/
theorem mo_lst {ad : Nat → Nat → Nat} {A : Array Slot} {n : Nat} {ls : mo_L} {i : Nat} {v : mo_V} (h : lv_has A n ((i, mo_cv ad v) :: (mo_lp ad 0 ls).filter (fun q => !(q.1 == i) && !(q.1 + 1 == i && q.2.category == 2)))) : lv_has A n (mo_lp ad 0 (mo_st ls i v)) := by
  refine ⟨h.1, h.2.1, fun q hq => ?_⟩
  obtain ⟨j, u, hj, rfl⟩ := (mo_lp_mem ad _ 0 q).mp hq
  simp only [Nat.zero_add] at *
  have key : (j = i ∧ u = v) ∨ (mo_lk ls j = some u ∧ ¬ j = i ∧ ¬ (j + 1 = i ∧ mo_wide u = true)) := by
    unfold mo_st at hj
    cases i with
    | zero =>
      simp only [mo_lk_set] at hj
      by_cases e : j = 0
      · rw [if_pos e] at hj
        split at hj
        · cases hj; exact Or.inl ⟨e, rfl⟩
        · cases hj
      · rw [if_neg e] at hj
        exact Or.inr ⟨hj, e, fun q => absurd q.1 (by omega)⟩
    | succ i =>
      simp only at hj
      split at hj
      next x hx =>
        simp only [mo_lk_set] at hj
        by_cases e : j = i + 1
        · rw [if_pos e] at hj
          split at hj
          · cases hj; exact Or.inl ⟨e, rfl⟩
          · cases hj
        · rw [if_neg e] at hj
          by_cases e2 : j = i
          · rw [if_pos e2] at hj
            split at hj <;> cases hj
          · rw [if_neg e2] at hj
            exact Or.inr ⟨hj, e, fun q => e2 (by omega)⟩
      next hx =>
        simp only [mo_lk_set] at hj
        by_cases e : j = i + 1
        · rw [if_pos e] at hj
          split at hj
          · cases hj; exact Or.inl ⟨e, rfl⟩
          · cases hj
        · rw [if_neg e] at hj
          refine Or.inr ⟨hj, e, fun q => ?_⟩
          obtain ⟨q1, q2⟩ := q
          have : j = i := by omega
          subst this
          rcases u with x | x | ⟨o, w⟩
          · cases q2
          · exact hx x hj
          · cases q2
  rcases key with ⟨rfl, rfl⟩ | ⟨h1, h2, h3⟩
  · exact h.2.2 _ List.mem_cons_self
  · refine h.2.2 (j, mo_cv ad u) (List.mem_cons_of_mem _ (List.mem_filter.mpr ⟨(mo_lp_mem ad ls 0 (j, mo_cv ad u)).mpr ⟨j, u, h1, by simp⟩, ?_⟩))
    simp only [mo_cv_cat]
    cases hw : mo_wide u with
    | false => simp [h2]
    | true =>
      have : ¬ j + 1 = i := fun e => h3 ⟨e, hw⟩
      simp [h2, this]
theorem mo_lst2 {ad : Nat → Nat → Nat} {A : Array Slot} {n : Nat} {ls : mo_L} {i : Nat} {v : mo_V} (h : lv_has A n ((i, mo_cv ad v) :: (mo_lp ad 0 ls).filter (fun q => !(q.1 == i) && (!(q.1 == i + 1) && !(q.1 + 1 == i && q.2.category == 2))))) : lv_has A n (mo_lp ad 0 (mo_st2 ls i v)) := by
  have h1 : lv_has A n ((i, mo_cv ad v) :: (mo_lp ad 0 (mo_set ls (i + 1) none)).filter (fun q => !(q.1 == i) && !(q.1 + 1 == i && q.2.category == 2))) := by
    refine ⟨h.1, h.2.1, fun q hq => h.2.2 q ?_⟩
    rcases List.mem_cons.mp hq with rfl | hq
    · exact List.mem_cons_self
    · obtain ⟨hq1, hq2⟩ := List.mem_filter.mp hq
      obtain ⟨j, u, hj, rfl⟩ := (mo_lp_mem ad _ 0 q).mp hq1
      rw [mo_lk_set] at hj
      by_cases e : j = i + 1
      · rw [if_pos e] at hj
        split at hj <;> cases hj
      · rw [if_neg e] at hj
        refine List.mem_cons_of_mem _ (List.mem_filter.mpr ⟨(mo_lp_mem ad ls 0 _).mpr ⟨j, u, hj, rfl⟩, ?_⟩)
        simp only [Nat.zero_add] at hq2 ⊢
        simp only [Bool.and_eq_true] at hq2 ⊢
        exact ⟨hq2.1, by simp [e], hq2.2⟩
  have h2 := mo_lst h1
  refine ⟨h2.1, h2.2.1, fun q hq => h2.2.2 q ?_⟩
  obtain ⟨j, u, hj, rfl⟩ := (mo_lp_mem ad _ 0 q).mp hq
  refine (mo_lp_mem ad _ 0 _).mpr ⟨j, u, ?_, rfl⟩
  unfold mo_st2 at hj
  rw [mo_lk_set] at hj
  by_cases e : j = i + 1
  · rw [if_pos e] at hj
    split at hj <;> cases hj
  · rw [if_neg e] at hj
    rw [← hj]
    have es : ∀ k : Nat, k ≤ i → mo_lk (mo_set ls (i + 1) none) k = mo_lk ls k := fun k hk => by rw [mo_lk_set, if_neg (by omega)]
    have el : (mo_set ls (i + 1) none).length = ls.length := by
      clear h h1 h2 hj hq e es
      induction ls generalizing i with
      | nil => rfl
      | cons a r ih =>
        cases i with
        | zero => cases r <;> rfl
        | succ i => simp [mo_set, ih]
    unfold mo_st
    cases i with
    | zero => simp only [mo_lk_set, el]; split <;> simp_all
    | succ i =>
      simp only
      rw [es i (by omega)]
      have eset : ∀ (l : mo_L) (a : Nat), (mo_set l a none).length = l.length := by
        intro l
        induction l with
        | nil => intro a; rfl
        | cons x r ih => intro a; cases a <;> simp [mo_set, ih]
      split
      · simp only [mo_lk_set, eset]
        by_cases e1 : j = i + 1 <;> by_cases e2 : j = i <;> simp [e1, e2, e]
      · simp only [mo_lk_set, eset]
        by_cases e1 : j = i + 1 <;> simp [e1, e]
end
section
/-! the judgement: from here the method comes to an end with Q -/
def mo_ro (rt : Nat) : Option mo_V → Prop
  | none => rt = 0
  | some (.inl v) => rt = 1 ∨ (rt = 3 ∧ (v = 0 ∨ v = 1))
  | some (.inr (.inl _)) => rt = 2
  | _ => False
def mo_rn : Option mo_V → Instr
  | none => .return_
  | some (.inl _) => .ireturn
  | some (.inr (.inl _)) => .lreturn
  | _ => .areturn
def mo_cx (g : mo_E) (mt : mo_T) (Q : mo_Q) (p : Program) (l : Launch) (e : Env) (s : State) (m : MethodId) (args : Array Value) (below : List Frame) (meth : Method) (c : Code) (cells slots : Nat) (QQ : State → Prop) : Prop :=
  p.tables.exec = Jvm.exec ∧ c.code = mt.1 ∧ c.maxLocals = mt.2.2.1 ∧ s.vm.findClass mt.2.1 = some m.cls ∧ (∀ w ∈ mo_gw, w.before args s = true) ∧ mo_ok g s ∧ (cells ≤ mt.2.2.2.2.cells ∧ slots ≤ mt.2.2.2.2.slots) ∧
  ∀ (r : Option mo_V) (σ : mo_M) (H : Heap) (locs : List Loc) (ls : Array Slot) (pc : Nat), Q r σ → mo_ro mt.2.2.2.1 r → decode mt.1 pc = .ok (mo_rn r, 1) → va_P g.1 vwCl (mo_wd g σ) H → va_S g.2.2.2.1 s.heap H locs → W p l e mt.2.2.2.2 s m args below meth c H locs cells slots QQ (F0 m pc ls ((r.map (mo_cv g.2.2.1)).toList))
def mo_X (g : mo_E) (mt : mo_T) (Q : mo_Q) : mo_K := fun pc ls st σ =>
  ∀ (p : Program) (l : Launch) (e : Env) (s : State) (m : MethodId) (args : Array Value) (below : List Frame) (meth : Method) (c : Code) (cells slots : Nat) (QQ : State → Prop), mo_cx g mt Q p l e s m args below meth c cells slots QQ →
  ∀ (H : Heap) (locs : List Loc) (A : Array Slot), va_P g.1 vwCl (mo_wd g σ) H → va_S g.2.2.2.1 s.heap H locs → lv_has A mt.2.2.1 (mo_lp g.2.2.1 0 ls) → W p l e mt.2.2.2.2 s m args below meth c H locs cells slots QQ (F0 m pc A (st.map (mo_cv g.2.2.1)))
def mo_tbs : List u_T := [TX0, TX1, TX2, TX3, TX4, TX5, TX6, TX7, TX8, TX9, TX10, TX11, TX12]
def mo_fl (own : String) (i a b : Nat) : Cond := match mo_at mo_tbs a with
  | some T => .fieldLink own i (T b).1 (T b).2.1 (T b).2.2.1
  | none => .initialized ""
def mo_gB (w : Cond) : Bool := decide (w ∈ lw_tbl) && goodWord w
theorem mo_gB_of {w : Cond} (h : mo_gB w = true) : w ∈ mo_gw := by
  unfold mo_gB at h
  rw [Bool.and_eq_true] at h
  exact mo_gw_of (of_decide_eq_true h.1) h.2
def mo_ck (own : String) (q : mo_I) : Bool := match q.2.2.1 with
  | .iconst n => Nat.beq q.2.1 1 && decide (n = q.2.2.2.2.2)
  | .bipush n => Nat.beq q.2.1 2 && decide ((Int8.ofInt n).toInt32 = Int32.ofInt q.2.2.2.2.2)
  | .sipush n => Nat.beq q.2.1 3 && decide ((Int16.ofInt n).toInt32 = Int32.ofInt q.2.2.2.2.2)
  | .ldc i => Nat.beq q.2.1 2 && (bif Nat.beq q.2.2.2.1 0 then mo_gB (.constant own i (Int32.ofInt q.2.2.2.2.2)) else decide (own = RX7) && mo_sr.any (fun x => Nat.beq x.1 i && Nat.beq x.2.2 q.2.2.2.1))
  | .ldc_w i => Nat.beq q.2.1 3 && mo_gB (.constant own i (Int32.ofInt q.2.2.2.2.2))
  | .ldc2_w i => Nat.beq q.2.1 3 && mo_gB (.constantLong own i (Int64.ofInt q.2.2.2.2.2))
  | .lconst n => Nat.beq q.2.1 1 && decide (Int64.ofNat n.val = Int64.ofInt q.2.2.2.2.2)
  | .iload i => Nat.beq q.2.1 2 && Nat.beq i q.2.2.2.1
  | .lload i => Nat.beq q.2.1 2 && Nat.beq i q.2.2.2.1
  | .aload i => Nat.beq q.2.1 2 && Nat.beq i q.2.2.2.1
  | .istore i => Nat.beq q.2.1 2 && Nat.beq i q.2.2.2.1
  | .lstore i => Nat.beq q.2.1 2 && Nat.beq i q.2.2.2.1
  | .astore i => Nat.beq q.2.1 2 && Nat.beq i q.2.2.2.1
  | .iload_n i => Nat.beq q.2.1 1 && Nat.beq i.val q.2.2.2.1
  | .lload_n i => Nat.beq q.2.1 1 && Nat.beq i.val q.2.2.2.1
  | .aload_n i => Nat.beq q.2.1 1 && Nat.beq i.val q.2.2.2.1
  | .istore_n i => Nat.beq q.2.1 1 && Nat.beq i.val q.2.2.2.1
  | .lstore_n i => Nat.beq q.2.1 1 && Nat.beq i.val q.2.2.2.1
  | .astore_n i => Nat.beq q.2.1 1 && Nat.beq i.val q.2.2.2.1
  | .iinc i n => Nat.beq q.2.1 3 && (Nat.beq i q.2.2.2.1 && decide (n = q.2.2.2.2.2))
  | .getfield i => Nat.beq q.2.1 3 && (Nat.blt q.2.2.2.1 13 && (Nat.blt q.2.2.2.2.1 (mo_num q.2.2.2.1) && mo_gB (mo_fl own i q.2.2.2.1 q.2.2.2.2.1)))
  | .putfield i => Nat.beq q.2.1 3 && (Nat.blt q.2.2.2.1 13 && (Nat.blt q.2.2.2.2.1 (mo_num q.2.2.2.1) && mo_gB (mo_fl own i q.2.2.2.1 q.2.2.2.2.1)))
  | .getstatic i => Nat.beq q.2.1 3 && (mo_gB (.fieldLink own i "MadeOf" "VERSION_SCALE" "[I") || (decide (own = RX7) && Nat.beq i 76))
  | .ifCond _ f => Nat.beq q.2.1 3 && decide ((q.1 : Int) + f = (q.2.2.2.1 : Int))
  | .if_icmp _ f => Nat.beq q.2.1 3 && decide ((q.1 : Int) + f = (q.2.2.2.1 : Int))
  | .goto f => Nat.beq q.2.1 3 && decide ((q.1 : Int) + f = (q.2.2.2.1 : Int))
  | .tableswitch d lo hi offs => decide ((hi - lo).toNat < offs.size ∧ 0 ≤ (q.1 : Int) + d ∧ ∀ o ∈ offs.toList, 0 ≤ (q.1 : Int) + o)
  | .invokevirtual _ => Nat.beq q.2.1 3
  | .invokestatic _ => Nat.beq q.2.1 3
  | _ => Nat.beq q.2.1 1
/-- what a call's contract gives its caller -/
def mo_cok (g : mo_E) (mt : mo_T) (C : mo_C) : Prop := ∀ (pc : Nat), decode mt.1 pc = .ok (bif C.2.1 then .invokevirtual C.2.2.1 else .invokestatic C.2.2.1, 3) → ∀ (Q : mo_Q) (ls : mo_L) (as rest : List mo_V) (σ : mo_M), as.length = C.1 → mo_cat rest ≤ 8 →
  ((C.2.1 && Nat.blt C.2.2.2.1 50) = true → ∃ (o w : Nat) (r : List mo_V), as = .inr (.inr (o, w)) :: r ∧ mo_isO o C.2.2.2.1 = true ∧ (o, w) ∈ mo_ps) →
  C.2.2.2.2 as σ (fun x σ' => mo_X g mt Q (pc + 3) ls (mo_psh x rest) σ') → mo_X g mt Q pc ls (as.reverse ++ rest) σ
-- shapes
theorem mo_1i_of {st : List mo_V} {f : Int32 → List mo_V → Prop} (h : mo_1i st f) : ∃ x r, st = .inl x :: r ∧ f x r := by
  unfold mo_1i at h
  split at h
  · exact ⟨_, _, rfl, h⟩
  · exact h.elim
theorem mo_2i_of {st : List mo_V} {f : Int32 → Int32 → List mo_V → Prop} (h : mo_2i st f) : ∃ x y r, st = .inl y :: .inl x :: r ∧ f x y r := by
  unfold mo_2i at h
  split at h
  · exact ⟨_, _, _, rfl, h⟩
  · exact h.elim
theorem mo_1l_of {st : List mo_V} {f : Int64 → List mo_V → Prop} (h : mo_1l st f) : ∃ x r, st = .inr (.inl x) :: r ∧ f x r := by
  unfold mo_1l at h
  split at h
  · exact ⟨_, _, rfl, h⟩
  · exact h.elim
theorem mo_2l_of {st : List mo_V} {f : Int64 → Int64 → List mo_V → Prop} (h : mo_2l st f) : ∃ x y r, st = .inr (.inl y) :: .inr (.inl x) :: r ∧ f x y r := by
  unfold mo_2l at h
  split at h
  · exact ⟨_, _, _, rfl, h⟩
  · exact h.elim
theorem mo_li_of {st : List mo_V} {f : Int64 → Int32 → List mo_V → Prop} (h : mo_li st f) : ∃ x y r, st = .inl y :: .inr (.inl x) :: r ∧ f x y r := by
  unfold mo_li at h
  split at h
  · exact ⟨_, _, _, rfl, h⟩
  · exact h.elim
theorem mo_1r_of {st : List mo_V} {f : Nat → Nat → List mo_V → Prop} (h : mo_1r st f) : ∃ o w r, st = .inr (.inr (o, w)) :: r ∧ f o w r := by
  unfold mo_1r at h
  split at h
  · exact ⟨_, _, _, rfl, h⟩
  · exact h.elim
theorem mo_ri_of {st : List mo_V} {f : Nat → Nat → Int32 → List mo_V → Prop} (h : mo_ri st f) : ∃ o w i r, st = .inl i :: .inr (.inr (o, w)) :: r ∧ f o w i r := by
  unfold mo_ri at h
  split at h
  · exact ⟨_, _, _, _, rfl, h⟩
  · exact h.elim
theorem mo_rii_of {st : List mo_V} {f : Nat → Nat → Int32 → Int32 → List mo_V → Prop} (h : mo_rii st f) : ∃ o w i x r, st = .inl x :: .inl i :: .inr (.inr (o, w)) :: r ∧ f o w i x r := by
  unfold mo_rii at h
  split at h
  · exact ⟨_, _, _, _, _, rfl, h⟩
  · exact h.elim
theorem mo_ril_of {st : List mo_V} {f : Nat → Nat → Int32 → Int64 → List mo_V → Prop} (h : mo_ril st f) : ∃ o w i x r, st = .inr (.inl x) :: .inl i :: .inr (.inr (o, w)) :: r ∧ f o w i x r := by
  unfold mo_ril at h
  split at h
  · exact ⟨_, _, _, _, _, rfl, h⟩
  · exact h.elim
theorem mo_ldi_of {ls : mo_L} {i : Nat} {f : Int32 → Prop} (h : mo_ldi ls i f) : ∃ x, mo_lk ls i = some (.inl x) ∧ f x := by
  unfold mo_ldi at h
  split at h
  next x e => exact ⟨x, e, h⟩
  next => exact h.elim
theorem mo_ldl_of {ls : mo_L} {i : Nat} {f : Int64 → Prop} (h : mo_ldl ls i f) : ∃ x, mo_lk ls i = some (.inr (.inl x)) ∧ f x := by
  unfold mo_ldl at h
  split at h
  next x e => exact ⟨x, e, h⟩
  next => exact h.elim
theorem mo_ldr_of {ls : mo_L} {i : Nat} {f : Nat → Nat → Prop} (h : mo_ldr ls i f) : ∃ o w, mo_lk ls i = some (.inr (.inr (o, w))) ∧ f o w := by
  unfold mo_ldr at h
  split at h
  next o w e => exact ⟨o, w, e, h⟩
  next => exact h.elim
theorem mo_isO_of {o ci : Nat} (h : mo_isO o ci = true) : mo_kd o = (0, ci) := by
  unfold mo_isO at h
  rw [Bool.and_eq_true] at h
  have h1 := Nat.eq_of_beq_eq_true h.1
  have h2 := Nat.eq_of_beq_eq_true h.2
  exact Prod.ext h1 h2
theorem mo_kd_of {o f : Nat} (h : Nat.beq (mo_kd o).1 f = true) : mo_kd o = (f, (mo_kd o).2) := Prod.ext (Nat.eq_of_beq_eq_true h) rfl
/-- of each class: its table is among the words, its ints may be written -/
def mo_clB (r : vw_C) (n ci : Nat) : Bool := decide (r.2.2 = n) && ((u_ws r.1 r.2.1 r.2.2).all mo_gB && (List.range n).all fun k => mo_ref ci k || (decide ((r.2.1 k).2.2.1 = "I") && !(r.2.1 k).2.2.2))
theorem mo_cl_ok : ∀ ci, ci < 13 → (match vwCl[ci]?, mo_at mo_tbs ci with
    | some r, some _ => mo_clB r (mo_num ci) ci
    | _, _ => false) = true := by decide +kernel
theorem mo_nm : ∀ ci, ci < 13 → ∀ r, vwCl[ci]? = some r → mo_at mo_tbs ci = some r.2.1 ∧ (∃ ty : Nat → FieldType, ∀ k, k < r.2.2 → parseFieldDescriptor (r.2.1 k).2.2.1 = some (ty k)) ∧ ∀ a, a < r.2.2 → ∀ b, b < r.2.2 → a ≠ b → (r.2.1 a).2.1 ≠ (r.2.1 b).2.1 := by
  intro ci h r hr
  rcases (show ci = 0 ∨ ci = 1 ∨ ci = 2 ∨ ci = 3 ∨ ci = 4 ∨ ci = 5 ∨ ci = 6 ∨ ci = 7 ∨ ci = 8 ∨ ci = 9 ∨ ci = 10 ∨ ci = 11 ∨ ci = 12 by omega) with rfl | rfl | rfl | rfl | rfl | rfl | rfl | rfl | rfl | rfl | rfl | rfl | rfl
  · cases hr; exact ⟨rfl, ⟨tyX0, tyX0_ok⟩, nmX0⟩
  · cases hr; exact ⟨rfl, ⟨tyX1, tyX1_ok⟩, nmX1⟩
  · cases hr; exact ⟨rfl, ⟨tyX2, tyX2_ok⟩, nmX2⟩
  · cases hr; exact ⟨rfl, ⟨tyX3, tyX3_ok⟩, nmX3⟩
  · cases hr; exact ⟨rfl, ⟨tyX4, tyX4_ok⟩, nmX4⟩
  · cases hr; exact ⟨rfl, ⟨tyX5, tyX5_ok⟩, nmX5⟩
  · cases hr; exact ⟨rfl, ⟨tyX6, tyX6_ok⟩, nmX6⟩
  · cases hr; exact ⟨rfl, ⟨tyX7, tyX7_ok⟩, nmX7⟩
  · cases hr; exact ⟨rfl, ⟨tyX8, tyX8_ok⟩, nmX8⟩
  · cases hr; exact ⟨rfl, ⟨tyX9, tyX9_ok⟩, nmX9⟩
  · cases hr; exact ⟨rfl, ⟨tyX10, tyX10_ok⟩, nmX10⟩
  · cases hr; exact ⟨rfl, ⟨tyX11, tyX11_ok⟩, nmX11⟩
  · cases hr; exact ⟨rfl, ⟨tyX12, tyX12_ok⟩, nmX12⟩
theorem mo_cls {ci : Nat} (h : ci < 13) : ∃ (C : String) (T : u_T) (ty : Nat → FieldType), vwCl[ci]? = some (C, T, mo_num ci) ∧ mo_at mo_tbs ci = some T ∧ (∀ w ∈ u_ws C T (mo_num ci), w ∈ mo_gw) ∧ (∀ k, k < mo_num ci → parseFieldDescriptor (T k).2.2.1 = some (ty k)) ∧ (∀ a, a < mo_num ci → ∀ b, b < mo_num ci → a ≠ b → (T a).2.1 ≠ (T b).2.1) ∧ ∀ k, k < mo_num ci → mo_ref ci k = false → (T k).2.2.1 = "I" ∧ (T k).2.2.2 = false := by
  have h0 := mo_cl_ok ci h
  cases hr : vwCl[ci]? with
  | none => rw [hr] at h0; cases h0
  | some r =>
    obtain ⟨h1, ⟨ty, h2⟩, h3⟩ := mo_nm ci h r hr
    rw [hr, h1] at h0
    obtain ⟨C, T, N⟩ := r
    dsimp only at h0 h1 h2 h3
    unfold mo_clB at h0
    simp only [Bool.and_eq_true] at h0
    obtain ⟨e, h4, h5⟩ := h0
    have e := of_decide_eq_true e
    subst e
    refine ⟨C, T, ty, rfl, h1, fun w hw => mo_gB_of (List.all_eq_true.mp h4 w hw), h2, h3, fun k hk hf => ?_⟩
    have h6 := List.all_eq_true.mp h5 k (List.mem_range.mpr hk)
    rw [hf] at h6
    simp only [Bool.false_or, Bool.and_eq_true, Bool.not_eq_true'] at h6
    exact ⟨of_decide_eq_true h6.1, h6.2⟩
theorem mo_fl_of {own : String} {i a b : Nat} {T : u_T} (h : mo_at mo_tbs a = some T) (hw : mo_gB (mo_fl own i a b) = true) : Cond.fieldLink own i (T b).1 (T b).2.1 (T b).2.2.1 ∈ mo_gw := by
  unfold mo_fl at hw
  rw [h] at hw
  exact mo_gB_of hw
set_option maxHeartbeats 4000000 in
theorem mo_o_iconst {g : mo_E} {mt : mo_T} {Q : mo_Q} {cs : Nat → mo_C} {K : mo_K} {k : mo_k} {pc len a b : Nat} {ci : Int} {ls : mo_L} {st : List mo_V} {σ : mo_M} {n : Int} (hd : decode mt.1 pc = .ok (.iconst n, len)) (hc : mo_ck mt.2.1 (pc, len, .iconst n, a, b, ci) = true) (hK : ∀ pc ls st σ, K pc ls st σ → mo_X g mt Q pc ls st σ) (hk : ∀ ls st σ, k ls st σ → mo_X g mt Q (pc + len) ls st σ) (h : mo_op g.2.2.2.2 mt.2.2.1 mt.2.2.2.1 cs K Q (pc, len, .iconst n, a, b, ci) k ls st σ) : mo_X g mt Q pc ls st σ := by
  simp only [mo_ck, Bool.and_eq_true] at hc
  simp only [mo_op] at h
  have hlen : len = 1 := Nat.eq_of_beq_eq_true hc.1
  subst hlen
  have hv : n = ci := of_decide_eq_true hc.2
  subst hv
  intro p l e s m args below meth c cells slots QQ C H locs A hP hS hl
  obtain ⟨hx, hb, hml, hown, hw, hok, hcs, hret⟩ := id C
  exact lv_iconst hx hb hd rfl (hk _ _ _ h p l e s m args below meth c cells slots QQ C H locs A hP hS hl)
set_option maxHeartbeats 4000000 in
theorem mo_o_bipush {g : mo_E} {mt : mo_T} {Q : mo_Q} {cs : Nat → mo_C} {K : mo_K} {k : mo_k} {pc len a b : Nat} {ci : Int} {ls : mo_L} {st : List mo_V} {σ : mo_M} {n : Int} (hd : decode mt.1 pc = .ok (.bipush n, len)) (hc : mo_ck mt.2.1 (pc, len, .bipush n, a, b, ci) = true) (hK : ∀ pc ls st σ, K pc ls st σ → mo_X g mt Q pc ls st σ) (hk : ∀ ls st σ, k ls st σ → mo_X g mt Q (pc + len) ls st σ) (h : mo_op g.2.2.2.2 mt.2.2.1 mt.2.2.2.1 cs K Q (pc, len, .bipush n, a, b, ci) k ls st σ) : mo_X g mt Q pc ls st σ := by
  simp only [mo_ck, Bool.and_eq_true] at hc
  simp only [mo_op] at h
  have hlen : len = 2 := Nat.eq_of_beq_eq_true hc.1
  subst hlen
  intro p l e s m args below meth c cells slots QQ C H locs A hP hS hl
  obtain ⟨hx, hb, hml, hown, hw, hok, hcs, hret⟩ := id C
  exact lv_bipush hx hb hd (of_decide_eq_true hc.2) (hk _ _ _ h p l e s m args below meth c cells slots QQ C H locs A hP hS hl)
set_option maxHeartbeats 4000000 in
theorem mo_o_sipush {g : mo_E} {mt : mo_T} {Q : mo_Q} {cs : Nat → mo_C} {K : mo_K} {k : mo_k} {pc len a b : Nat} {ci : Int} {ls : mo_L} {st : List mo_V} {σ : mo_M} {n : Int} (hd : decode mt.1 pc = .ok (.sipush n, len)) (hc : mo_ck mt.2.1 (pc, len, .sipush n, a, b, ci) = true) (hK : ∀ pc ls st σ, K pc ls st σ → mo_X g mt Q pc ls st σ) (hk : ∀ ls st σ, k ls st σ → mo_X g mt Q (pc + len) ls st σ) (h : mo_op g.2.2.2.2 mt.2.2.1 mt.2.2.2.1 cs K Q (pc, len, .sipush n, a, b, ci) k ls st σ) : mo_X g mt Q pc ls st σ := by
  simp only [mo_ck, Bool.and_eq_true] at hc
  simp only [mo_op] at h
  have hlen : len = 3 := Nat.eq_of_beq_eq_true hc.1
  subst hlen
  intro p l e s m args below meth c cells slots QQ C H locs A hP hS hl
  obtain ⟨hx, hb, hml, hown, hw, hok, hcs, hret⟩ := id C
  exact lv_sipush hx hb hd (of_decide_eq_true hc.2) (hk _ _ _ h p l e s m args below meth c cells slots QQ C H locs A hP hS hl)
set_option maxHeartbeats 4000000 in
theorem mo_o_lconst {g : mo_E} {mt : mo_T} {Q : mo_Q} {cs : Nat → mo_C} {K : mo_K} {k : mo_k} {pc len a b : Nat} {ci : Int} {ls : mo_L} {st : List mo_V} {σ : mo_M} {n : Fin 2} (hd : decode mt.1 pc = .ok (.lconst n, len)) (hc : mo_ck mt.2.1 (pc, len, .lconst n, a, b, ci) = true) (hK : ∀ pc ls st σ, K pc ls st σ → mo_X g mt Q pc ls st σ) (hk : ∀ ls st σ, k ls st σ → mo_X g mt Q (pc + len) ls st σ) (h : mo_op g.2.2.2.2 mt.2.2.1 mt.2.2.2.1 cs K Q (pc, len, .lconst n, a, b, ci) k ls st σ) : mo_X g mt Q pc ls st σ := by
  simp only [mo_ck, Bool.and_eq_true] at hc
  simp only [mo_op] at h
  have hlen : len = 1 := Nat.eq_of_beq_eq_true hc.1
  subst hlen
  intro p l e s m args below meth c cells slots QQ C H locs A hP hS hl
  obtain ⟨hx, hb, hml, hown, hw, hok, hcs, hret⟩ := id C
  exact lv_lconst hx hb hd (of_decide_eq_true hc.2) (hk _ _ _ h p l e s m args below meth c cells slots QQ C H locs A hP hS hl)
set_option maxHeartbeats 4000000 in
theorem mo_o_ldc {g : mo_E} {mt : mo_T} {Q : mo_Q} {cs : Nat → mo_C} {K : mo_K} {k : mo_k} {pc len a b : Nat} {ci : Int} {ls : mo_L} {st : List mo_V} {σ : mo_M} {i : Nat} (hd : decode mt.1 pc = .ok (.ldc i, len)) (hc : mo_ck mt.2.1 (pc, len, .ldc i, a, b, ci) = true) (hK : ∀ pc ls st σ, K pc ls st σ → mo_X g mt Q pc ls st σ) (hk : ∀ ls st σ, k ls st σ → mo_X g mt Q (pc + len) ls st σ) (h : mo_op g.2.2.2.2 mt.2.2.1 mt.2.2.2.1 cs K Q (pc, len, .ldc i, a, b, ci) k ls st σ) : mo_X g mt Q pc ls st σ := by
  simp only [mo_ck, Bool.and_eq_true] at hc
  simp only [mo_op] at h
  have hlen : len = 2 := Nat.eq_of_beq_eq_true hc.1
  subst hlen
  intro p l e s m args below meth c cells slots QQ C H locs A hP hS hl
  obtain ⟨hx, hb, hml, hown, hw, hok, hcs, hret⟩ := id C
  have hc2 := hc.2
  cases ha : Nat.beq a 0 with
  | true =>
    rw [ha] at h hc2
    simp only [cond_true] at hc2
    exact lv_ldc hx hb hown (hw _ (mo_gB_of hc2)) hd (hk _ _ _ h p l e s m args below meth c cells slots QQ C H locs A hP hS hl)
  | false =>
    rw [ha] at h hc2
    simp only [cond_false, Bool.and_eq_true] at hc2
    obtain ⟨x, hx1, hx2⟩ := List.any_eq_true.mp hc2.2
    rw [Bool.and_eq_true] at hx2
    have e1 := Nat.eq_of_beq_eq_true hx2.1
    have e2 := Nat.eq_of_beq_eq_true hx2.2
    subst e1; subst e2
    have hz := hok.2.2.2.2.2.2.2.1 x hx1
    have ho : s.vm.findClass RX7 = some m.cls := by rw [← of_decide_eq_true hc2.1]; exact hown
    exact va_ldcS hx hb ho hz hd (hk _ _ _ h p l e s m args below meth c cells slots QQ C H locs A hP hS hl)
set_option maxHeartbeats 4000000 in
theorem mo_o_ldc_w {g : mo_E} {mt : mo_T} {Q : mo_Q} {cs : Nat → mo_C} {K : mo_K} {k : mo_k} {pc len a b : Nat} {ci : Int} {ls : mo_L} {st : List mo_V} {σ : mo_M} {i : Nat} (hd : decode mt.1 pc = .ok (.ldc_w i, len)) (hc : mo_ck mt.2.1 (pc, len, .ldc_w i, a, b, ci) = true) (hK : ∀ pc ls st σ, K pc ls st σ → mo_X g mt Q pc ls st σ) (hk : ∀ ls st σ, k ls st σ → mo_X g mt Q (pc + len) ls st σ) (h : mo_op g.2.2.2.2 mt.2.2.1 mt.2.2.2.1 cs K Q (pc, len, .ldc_w i, a, b, ci) k ls st σ) : mo_X g mt Q pc ls st σ := by
  simp only [mo_ck, Bool.and_eq_true] at hc
  simp only [mo_op] at h
  have hlen : len = 3 := Nat.eq_of_beq_eq_true hc.1
  subst hlen
  intro p l e s m args below meth c cells slots QQ C H locs A hP hS hl
  obtain ⟨hx, hb, hml, hown, hw, hok, hcs, hret⟩ := id C
  exact lv_ldcw hx hb hown (hw _ (mo_gB_of hc.2)) hd (hk _ _ _ h p l e s m args below meth c cells slots QQ C H locs A hP hS hl)
set_option maxHeartbeats 4000000 in
theorem mo_o_ldc2_w {g : mo_E} {mt : mo_T} {Q : mo_Q} {cs : Nat → mo_C} {K : mo_K} {k : mo_k} {pc len a b : Nat} {ci : Int} {ls : mo_L} {st : List mo_V} {σ : mo_M} {i : Nat} (hd : decode mt.1 pc = .ok (.ldc2_w i, len)) (hc : mo_ck mt.2.1 (pc, len, .ldc2_w i, a, b, ci) = true) (hK : ∀ pc ls st σ, K pc ls st σ → mo_X g mt Q pc ls st σ) (hk : ∀ ls st σ, k ls st σ → mo_X g mt Q (pc + len) ls st σ) (h : mo_op g.2.2.2.2 mt.2.2.1 mt.2.2.2.1 cs K Q (pc, len, .ldc2_w i, a, b, ci) k ls st σ) : mo_X g mt Q pc ls st σ := by
  simp only [mo_ck, Bool.and_eq_true] at hc
  simp only [mo_op] at h
  have hlen : len = 3 := Nat.eq_of_beq_eq_true hc.1
  subst hlen
  intro p l e s m args below meth c cells slots QQ C H locs A hP hS hl
  obtain ⟨hx, hb, hml, hown, hw, hok, hcs, hret⟩ := id C
  exact lv_ldc2 hx hb hown (hw _ (mo_gB_of hc.2)) hd (hk _ _ _ h p l e s m args below meth c cells slots QQ C H locs A hP hS hl)
set_option maxHeartbeats 4000000 in
theorem mo_o_iload {g : mo_E} {mt : mo_T} {Q : mo_Q} {cs : Nat → mo_C} {K : mo_K} {k : mo_k} {pc len a b : Nat} {ci : Int} {ls : mo_L} {st : List mo_V} {σ : mo_M} {i : Nat} (hd : decode mt.1 pc = .ok (.iload i, len)) (hc : mo_ck mt.2.1 (pc, len, .iload i, a, b, ci) = true) (hK : ∀ pc ls st σ, K pc ls st σ → mo_X g mt Q pc ls st σ) (hk : ∀ ls st σ, k ls st σ → mo_X g mt Q (pc + len) ls st σ) (h : mo_op g.2.2.2.2 mt.2.2.1 mt.2.2.2.1 cs K Q (pc, len, .iload i, a, b, ci) k ls st σ) : mo_X g mt Q pc ls st σ := by
  simp only [mo_ck, Bool.and_eq_true] at hc
  simp only [mo_op] at h
  have hlen : len = 2 := Nat.eq_of_beq_eq_true hc.1
  subst hlen
  have hv := Nat.eq_of_beq_eq_true hc.2
  subst hv
  obtain ⟨x, hy, h⟩ := mo_ldi_of h
  intro p l e s m args below meth c cells slots QQ C H locs A hP hS hl
  obtain ⟨hx, hb, hml, hown, hw, hok, hcs, hret⟩ := id C
  exact lv_iload hx hb hd (mo_lv hl hy) (hk _ _ _ h p l e s m args below meth c cells slots QQ C H locs A hP hS hl)
set_option maxHeartbeats 4000000 in
theorem mo_o_iload_n {g : mo_E} {mt : mo_T} {Q : mo_Q} {cs : Nat → mo_C} {K : mo_K} {k : mo_k} {pc len a b : Nat} {ci : Int} {ls : mo_L} {st : List mo_V} {σ : mo_M} {i : Fin 4} (hd : decode mt.1 pc = .ok (.iload_n i, len)) (hc : mo_ck mt.2.1 (pc, len, .iload_n i, a, b, ci) = true) (hK : ∀ pc ls st σ, K pc ls st σ → mo_X g mt Q pc ls st σ) (hk : ∀ ls st σ, k ls st σ → mo_X g mt Q (pc + len) ls st σ) (h : mo_op g.2.2.2.2 mt.2.2.1 mt.2.2.2.1 cs K Q (pc, len, .iload_n i, a, b, ci) k ls st σ) : mo_X g mt Q pc ls st σ := by
  simp only [mo_ck, Bool.and_eq_true] at hc
  simp only [mo_op] at h
  have hlen : len = 1 := Nat.eq_of_beq_eq_true hc.1
  subst hlen
  have hv := Nat.eq_of_beq_eq_true hc.2
  subst hv
  obtain ⟨x, hy, h⟩ := mo_ldi_of h
  intro p l e s m args below meth c cells slots QQ C H locs A hP hS hl
  obtain ⟨hx, hb, hml, hown, hw, hok, hcs, hret⟩ := id C
  exact lv_iload_n hx hb hd rfl (mo_lv hl hy) (hk _ _ _ h p l e s m args below meth c cells slots QQ C H locs A hP hS hl)
set_option maxHeartbeats 4000000 in
theorem mo_o_lload {g : mo_E} {mt : mo_T} {Q : mo_Q} {cs : Nat → mo_C} {K : mo_K} {k : mo_k} {pc len a b : Nat} {ci : Int} {ls : mo_L} {st : List mo_V} {σ : mo_M} {i : Nat} (hd : decode mt.1 pc = .ok (.lload i, len)) (hc : mo_ck mt.2.1 (pc, len, .lload i, a, b, ci) = true) (hK : ∀ pc ls st σ, K pc ls st σ → mo_X g mt Q pc ls st σ) (hk : ∀ ls st σ, k ls st σ → mo_X g mt Q (pc + len) ls st σ) (h : mo_op g.2.2.2.2 mt.2.2.1 mt.2.2.2.1 cs K Q (pc, len, .lload i, a, b, ci) k ls st σ) : mo_X g mt Q pc ls st σ := by
  simp only [mo_ck, Bool.and_eq_true] at hc
  simp only [mo_op] at h
  have hlen : len = 2 := Nat.eq_of_beq_eq_true hc.1
  subst hlen
  have hv := Nat.eq_of_beq_eq_true hc.2
  subst hv
  obtain ⟨x, hy, h⟩ := mo_ldl_of h
  intro p l e s m args below meth c cells slots QQ C H locs A hP hS hl
  obtain ⟨hx, hb, hml, hown, hw, hok, hcs, hret⟩ := id C
  exact lv_lload hx hb hd (mo_lv hl hy) (hk _ _ _ h p l e s m args below meth c cells slots QQ C H locs A hP hS hl)
set_option maxHeartbeats 4000000 in
theorem mo_o_lload_n {g : mo_E} {mt : mo_T} {Q : mo_Q} {cs : Nat → mo_C} {K : mo_K} {k : mo_k} {pc len a b : Nat} {ci : Int} {ls : mo_L} {st : List mo_V} {σ : mo_M} {i : Fin 4} (hd : decode mt.1 pc = .ok (.lload_n i, len)) (hc : mo_ck mt.2.1 (pc, len, .lload_n i, a, b, ci) = true) (hK : ∀ pc ls st σ, K pc ls st σ → mo_X g mt Q pc ls st σ) (hk : ∀ ls st σ, k ls st σ → mo_X g mt Q (pc + len) ls st σ) (h : mo_op g.2.2.2.2 mt.2.2.1 mt.2.2.2.1 cs K Q (pc, len, .lload_n i, a, b, ci) k ls st σ) : mo_X g mt Q pc ls st σ := by
  simp only [mo_ck, Bool.and_eq_true] at hc
  simp only [mo_op] at h
  have hlen : len = 1 := Nat.eq_of_beq_eq_true hc.1
  subst hlen
  have hv := Nat.eq_of_beq_eq_true hc.2
  subst hv
  obtain ⟨x, hy, h⟩ := mo_ldl_of h
  intro p l e s m args below meth c cells slots QQ C H locs A hP hS hl
  obtain ⟨hx, hb, hml, hown, hw, hok, hcs, hret⟩ := id C
  exact lv_lload_n hx hb hd rfl (mo_lv hl hy) (hk _ _ _ h p l e s m args below meth c cells slots QQ C H locs A hP hS hl)
set_option maxHeartbeats 4000000 in
theorem mo_o_aload {g : mo_E} {mt : mo_T} {Q : mo_Q} {cs : Nat → mo_C} {K : mo_K} {k : mo_k} {pc len a b : Nat} {ci : Int} {ls : mo_L} {st : List mo_V} {σ : mo_M} {i : Nat} (hd : decode mt.1 pc = .ok (.aload i, len)) (hc : mo_ck mt.2.1 (pc, len, .aload i, a, b, ci) = true) (hK : ∀ pc ls st σ, K pc ls st σ → mo_X g mt Q pc ls st σ) (hk : ∀ ls st σ, k ls st σ → mo_X g mt Q (pc + len) ls st σ) (h : mo_op g.2.2.2.2 mt.2.2.1 mt.2.2.2.1 cs K Q (pc, len, .aload i, a, b, ci) k ls st σ) : mo_X g mt Q pc ls st σ := by
  simp only [mo_ck, Bool.and_eq_true] at hc
  simp only [mo_op] at h
  have hlen : len = 2 := Nat.eq_of_beq_eq_true hc.1
  subst hlen
  have hv := Nat.eq_of_beq_eq_true hc.2
  subst hv
  obtain ⟨o, w, hy, h⟩ := mo_ldr_of h
  intro p l e s m args below meth c cells slots QQ C H locs A hP hS hl
  obtain ⟨hx, hb, hml, hown, hw, hok, hcs, hret⟩ := id C
  exact lv_aload hx hb hd (mo_lv hl hy) (hk _ _ _ h p l e s m args below meth c cells slots QQ C H locs A hP hS hl)
set_option maxHeartbeats 4000000 in
theorem mo_o_aload_n {g : mo_E} {mt : mo_T} {Q : mo_Q} {cs : Nat → mo_C} {K : mo_K} {k : mo_k} {pc len a b : Nat} {ci : Int} {ls : mo_L} {st : List mo_V} {σ : mo_M} {i : Fin 4} (hd : decode mt.1 pc = .ok (.aload_n i, len)) (hc : mo_ck mt.2.1 (pc, len, .aload_n i, a, b, ci) = true) (hK : ∀ pc ls st σ, K pc ls st σ → mo_X g mt Q pc ls st σ) (hk : ∀ ls st σ, k ls st σ → mo_X g mt Q (pc + len) ls st σ) (h : mo_op g.2.2.2.2 mt.2.2.1 mt.2.2.2.1 cs K Q (pc, len, .aload_n i, a, b, ci) k ls st σ) : mo_X g mt Q pc ls st σ := by
  simp only [mo_ck, Bool.and_eq_true] at hc
  simp only [mo_op] at h
  have hlen : len = 1 := Nat.eq_of_beq_eq_true hc.1
  subst hlen
  have hv := Nat.eq_of_beq_eq_true hc.2
  subst hv
  obtain ⟨o, w, hy, h⟩ := mo_ldr_of h
  intro p l e s m args below meth c cells slots QQ C H locs A hP hS hl
  obtain ⟨hx, hb, hml, hown, hw, hok, hcs, hret⟩ := id C
  exact lv_aload_n hx hb hd rfl (mo_lv hl hy) (hk _ _ _ h p l e s m args below meth c cells slots QQ C H locs A hP hS hl)
set_option maxHeartbeats 4000000 in
theorem mo_o_istore {g : mo_E} {mt : mo_T} {Q : mo_Q} {cs : Nat → mo_C} {K : mo_K} {k : mo_k} {pc len a b : Nat} {ci : Int} {ls : mo_L} {st : List mo_V} {σ : mo_M} {i : Nat} (hd : decode mt.1 pc = .ok (.istore i, len)) (hc : mo_ck mt.2.1 (pc, len, .istore i, a, b, ci) = true) (hK : ∀ pc ls st σ, K pc ls st σ → mo_X g mt Q pc ls st σ) (hk : ∀ ls st σ, k ls st σ → mo_X g mt Q (pc + len) ls st σ) (h : mo_op g.2.2.2.2 mt.2.2.1 mt.2.2.2.1 cs K Q (pc, len, .istore i, a, b, ci) k ls st σ) : mo_X g mt Q pc ls st σ := by
  simp only [mo_ck, Bool.and_eq_true] at hc
  simp only [mo_op] at h
  have hlen : len = 2 := Nat.eq_of_beq_eq_true hc.1
  subst hlen
  have hv := Nat.eq_of_beq_eq_true hc.2
  subst hv
  obtain ⟨hlt, h⟩ := mo_b_of h
  have hlt := Nat.le_of_ble_eq_true hlt
  obtain ⟨x, r, rfl, h⟩ := mo_1i_of h
  intro p l e s m args below meth c cells slots QQ C H locs A hP hS hl
  obtain ⟨hx, hb, hml, hown, hw, hok, hcs, hret⟩ := id C
  exact lv_istore hx hb hd hl hlt rfl (fun A2 hl2 => hk _ _ _ h p l e s m args below meth c cells slots QQ C H locs A2 hP hS (mo_lst (v := .inl x) hl2))
set_option maxHeartbeats 4000000 in
theorem mo_o_istore_n {g : mo_E} {mt : mo_T} {Q : mo_Q} {cs : Nat → mo_C} {K : mo_K} {k : mo_k} {pc len a b : Nat} {ci : Int} {ls : mo_L} {st : List mo_V} {σ : mo_M} {i : Fin 4} (hd : decode mt.1 pc = .ok (.istore_n i, len)) (hc : mo_ck mt.2.1 (pc, len, .istore_n i, a, b, ci) = true) (hK : ∀ pc ls st σ, K pc ls st σ → mo_X g mt Q pc ls st σ) (hk : ∀ ls st σ, k ls st σ → mo_X g mt Q (pc + len) ls st σ) (h : mo_op g.2.2.2.2 mt.2.2.1 mt.2.2.2.1 cs K Q (pc, len, .istore_n i, a, b, ci) k ls st σ) : mo_X g mt Q pc ls st σ := by
  simp only [mo_ck, Bool.and_eq_true] at hc
  simp only [mo_op] at h
  have hlen : len = 1 := Nat.eq_of_beq_eq_true hc.1
  subst hlen
  have hv := Nat.eq_of_beq_eq_true hc.2
  subst hv
  obtain ⟨hlt, h⟩ := mo_b_of h
  have hlt := Nat.le_of_ble_eq_true hlt
  obtain ⟨x, r, rfl, h⟩ := mo_1i_of h
  intro p l e s m args below meth c cells slots QQ C H locs A hP hS hl
  obtain ⟨hx, hb, hml, hown, hw, hok, hcs, hret⟩ := id C
  exact lv_istore_n hx hb hd rfl hl hlt rfl (fun A2 hl2 => hk _ _ _ h p l e s m args below meth c cells slots QQ C H locs A2 hP hS (mo_lst (v := .inl x) hl2))
set_option maxHeartbeats 4000000 in
theorem mo_o_lstore {g : mo_E} {mt : mo_T} {Q : mo_Q} {cs : Nat → mo_C} {K : mo_K} {k : mo_k} {pc len a b : Nat} {ci : Int} {ls : mo_L} {st : List mo_V} {σ : mo_M} {i : Nat} (hd : decode mt.1 pc = .ok (.lstore i, len)) (hc : mo_ck mt.2.1 (pc, len, .lstore i, a, b, ci) = true) (hK : ∀ pc ls st σ, K pc ls st σ → mo_X g mt Q pc ls st σ) (hk : ∀ ls st σ, k ls st σ → mo_X g mt Q (pc + len) ls st σ) (h : mo_op g.2.2.2.2 mt.2.2.1 mt.2.2.2.1 cs K Q (pc, len, .lstore i, a, b, ci) k ls st σ) : mo_X g mt Q pc ls st σ := by
  simp only [mo_ck, Bool.and_eq_true] at hc
  simp only [mo_op] at h
  have hlen : len = 2 := Nat.eq_of_beq_eq_true hc.1
  subst hlen
  have hv := Nat.eq_of_beq_eq_true hc.2
  subst hv
  obtain ⟨hlt, h⟩ := mo_b_of h
  have hlt := Nat.le_of_ble_eq_true hlt
  obtain ⟨x, r, rfl, h⟩ := mo_1l_of h
  intro p l e s m args below meth c cells slots QQ C H locs A hP hS hl
  obtain ⟨hx, hb, hml, hown, hw, hok, hcs, hret⟩ := id C
  exact lv_lstore hx hb hd hl hlt rfl (fun A2 hl2 => hk _ _ _ h p l e s m args below meth c cells slots QQ C H locs A2 hP hS (mo_lst2 (v := .inr (.inl x)) hl2))
set_option maxHeartbeats 4000000 in
theorem mo_o_lstore_n {g : mo_E} {mt : mo_T} {Q : mo_Q} {cs : Nat → mo_C} {K : mo_K} {k : mo_k} {pc len a b : Nat} {ci : Int} {ls : mo_L} {st : List mo_V} {σ : mo_M} {i : Fin 4} (hd : decode mt.1 pc = .ok (.lstore_n i, len)) (hc : mo_ck mt.2.1 (pc, len, .lstore_n i, a, b, ci) = true) (hK : ∀ pc ls st σ, K pc ls st σ → mo_X g mt Q pc ls st σ) (hk : ∀ ls st σ, k ls st σ → mo_X g mt Q (pc + len) ls st σ) (h : mo_op g.2.2.2.2 mt.2.2.1 mt.2.2.2.1 cs K Q (pc, len, .lstore_n i, a, b, ci) k ls st σ) : mo_X g mt Q pc ls st σ := by
  simp only [mo_ck, Bool.and_eq_true] at hc
  simp only [mo_op] at h
  have hlen : len = 1 := Nat.eq_of_beq_eq_true hc.1
  subst hlen
  have hv := Nat.eq_of_beq_eq_true hc.2
  subst hv
  obtain ⟨hlt, h⟩ := mo_b_of h
  have hlt := Nat.le_of_ble_eq_true hlt
  obtain ⟨x, r, rfl, h⟩ := mo_1l_of h
  intro p l e s m args below meth c cells slots QQ C H locs A hP hS hl
  obtain ⟨hx, hb, hml, hown, hw, hok, hcs, hret⟩ := id C
  exact lv_lstore_n hx hb hd rfl hl hlt rfl (fun A2 hl2 => hk _ _ _ h p l e s m args below meth c cells slots QQ C H locs A2 hP hS (mo_lst2 (v := .inr (.inl x)) hl2))
set_option maxHeartbeats 4000000 in
theorem mo_o_astore {g : mo_E} {mt : mo_T} {Q : mo_Q} {cs : Nat → mo_C} {K : mo_K} {k : mo_k} {pc len a b : Nat} {ci : Int} {ls : mo_L} {st : List mo_V} {σ : mo_M} {i : Nat} (hd : decode mt.1 pc = .ok (.astore i, len)) (hc : mo_ck mt.2.1 (pc, len, .astore i, a, b, ci) = true) (hK : ∀ pc ls st σ, K pc ls st σ → mo_X g mt Q pc ls st σ) (hk : ∀ ls st σ, k ls st σ → mo_X g mt Q (pc + len) ls st σ) (h : mo_op g.2.2.2.2 mt.2.2.1 mt.2.2.2.1 cs K Q (pc, len, .astore i, a, b, ci) k ls st σ) : mo_X g mt Q pc ls st σ := by
  simp only [mo_ck, Bool.and_eq_true] at hc
  simp only [mo_op] at h
  have hlen : len = 2 := Nat.eq_of_beq_eq_true hc.1
  subst hlen
  have hv := Nat.eq_of_beq_eq_true hc.2
  subst hv
  obtain ⟨hlt, h⟩ := mo_b_of h
  have hlt := Nat.le_of_ble_eq_true hlt
  obtain ⟨o, w, r, rfl, h⟩ := mo_1r_of h
  intro p l e s m args below meth c cells slots QQ C H locs A hP hS hl
  obtain ⟨hx, hb, hml, hown, hw, hok, hcs, hret⟩ := id C
  exact lv_astore hx hb hd hl hlt rfl (fun A2 hl2 => hk _ _ _ h p l e s m args below meth c cells slots QQ C H locs A2 hP hS (mo_lst (v := .inr (.inr (o, w))) hl2))
set_option maxHeartbeats 4000000 in
theorem mo_o_astore_n {g : mo_E} {mt : mo_T} {Q : mo_Q} {cs : Nat → mo_C} {K : mo_K} {k : mo_k} {pc len a b : Nat} {ci : Int} {ls : mo_L} {st : List mo_V} {σ : mo_M} {i : Fin 4} (hd : decode mt.1 pc = .ok (.astore_n i, len)) (hc : mo_ck mt.2.1 (pc, len, .astore_n i, a, b, ci) = true) (hK : ∀ pc ls st σ, K pc ls st σ → mo_X g mt Q pc ls st σ) (hk : ∀ ls st σ, k ls st σ → mo_X g mt Q (pc + len) ls st σ) (h : mo_op g.2.2.2.2 mt.2.2.1 mt.2.2.2.1 cs K Q (pc, len, .astore_n i, a, b, ci) k ls st σ) : mo_X g mt Q pc ls st σ := by
  simp only [mo_ck, Bool.and_eq_true] at hc
  simp only [mo_op] at h
  have hlen : len = 1 := Nat.eq_of_beq_eq_true hc.1
  subst hlen
  have hv := Nat.eq_of_beq_eq_true hc.2
  subst hv
  obtain ⟨hlt, h⟩ := mo_b_of h
  have hlt := Nat.le_of_ble_eq_true hlt
  obtain ⟨o, w, r, rfl, h⟩ := mo_1r_of h
  intro p l e s m args below meth c cells slots QQ C H locs A hP hS hl
  obtain ⟨hx, hb, hml, hown, hw, hok, hcs, hret⟩ := id C
  exact lv_astore_n hx hb hd rfl hl hlt rfl (fun A2 hl2 => hk _ _ _ h p l e s m args below meth c cells slots QQ C H locs A2 hP hS (mo_lst (v := .inr (.inr (o, w))) hl2))
set_option maxHeartbeats 4000000 in
theorem mo_o_iinc {g : mo_E} {mt : mo_T} {Q : mo_Q} {cs : Nat → mo_C} {K : mo_K} {k : mo_k} {pc len a b : Nat} {ci : Int} {ls : mo_L} {st : List mo_V} {σ : mo_M} {i : Nat} {n : Int} (hd : decode mt.1 pc = .ok (.iinc i n, len)) (hc : mo_ck mt.2.1 (pc, len, .iinc i n, a, b, ci) = true) (hK : ∀ pc ls st σ, K pc ls st σ → mo_X g mt Q pc ls st σ) (hk : ∀ ls st σ, k ls st σ → mo_X g mt Q (pc + len) ls st σ) (h : mo_op g.2.2.2.2 mt.2.2.1 mt.2.2.2.1 cs K Q (pc, len, .iinc i n, a, b, ci) k ls st σ) : mo_X g mt Q pc ls st σ := by
  simp only [mo_ck, Bool.and_eq_true] at hc
  simp only [mo_op] at h
  have hlen : len = 3 := Nat.eq_of_beq_eq_true hc.1
  subst hlen
  have hv := Nat.eq_of_beq_eq_true hc.2.1
  have hn : n = ci := of_decide_eq_true hc.2.2
  subst hv; subst hn
  obtain ⟨hlt, h⟩ := mo_b_of h
  have hlt := Nat.le_of_ble_eq_true hlt
  obtain ⟨x, hy, h⟩ := mo_ldi_of h
  intro p l e s m args below meth c cells slots QQ C H locs A hP hS hl
  obtain ⟨hx, hb, hml, hown, hw, hok, hcs, hret⟩ := id C
  obtain ⟨q0, hq0⟩ := List.getElem?_of_mem ((mo_lp_mem g.2.2.1 ls 0 (i, .int x)).mpr ⟨i, .inl x, hy, by simp [mo_cv]⟩)
  exact lv_iinc hx hb hd hl hq0 rfl hlt rfl (fun A2 hl2 => hk _ _ _ h p l e s m args below meth c cells slots QQ C H locs A2 hP hS (mo_lst (v := .inl (x + Int32.ofInt n)) hl2))
set_option maxHeartbeats 4000000 in
theorem mo_o_iadd {g : mo_E} {mt : mo_T} {Q : mo_Q} {cs : Nat → mo_C} {K : mo_K} {k : mo_k} {pc len a b : Nat} {ci : Int} {ls : mo_L} {st : List mo_V} {σ : mo_M}  (hd : decode mt.1 pc = .ok (.iadd, len)) (hc : mo_ck mt.2.1 (pc, len, .iadd, a, b, ci) = true) (hK : ∀ pc ls st σ, K pc ls st σ → mo_X g mt Q pc ls st σ) (hk : ∀ ls st σ, k ls st σ → mo_X g mt Q (pc + len) ls st σ) (h : mo_op g.2.2.2.2 mt.2.2.1 mt.2.2.2.1 cs K Q (pc, len, .iadd, a, b, ci) k ls st σ) : mo_X g mt Q pc ls st σ := by
  simp only [mo_ck, Bool.and_eq_true] at hc
  simp only [mo_op] at h
  have hlen : len = 1 := Nat.eq_of_beq_eq_true hc
  subst hlen
  obtain ⟨x, y, r, rfl, h⟩ := mo_2i_of h
  intro p l e s m args below meth c cells slots QQ C H locs A hP hS hl
  obtain ⟨hx, hb, hml, hown, hw, hok, hcs, hret⟩ := id C
  exact lv_iadd hx hb hd (hk _ _ _ h p l e s m args below meth c cells slots QQ C H locs A hP hS hl)
set_option maxHeartbeats 4000000 in
theorem mo_o_isub {g : mo_E} {mt : mo_T} {Q : mo_Q} {cs : Nat → mo_C} {K : mo_K} {k : mo_k} {pc len a b : Nat} {ci : Int} {ls : mo_L} {st : List mo_V} {σ : mo_M}  (hd : decode mt.1 pc = .ok (.isub, len)) (hc : mo_ck mt.2.1 (pc, len, .isub, a, b, ci) = true) (hK : ∀ pc ls st σ, K pc ls st σ → mo_X g mt Q pc ls st σ) (hk : ∀ ls st σ, k ls st σ → mo_X g mt Q (pc + len) ls st σ) (h : mo_op g.2.2.2.2 mt.2.2.1 mt.2.2.2.1 cs K Q (pc, len, .isub, a, b, ci) k ls st σ) : mo_X g mt Q pc ls st σ := by
  simp only [mo_ck, Bool.and_eq_true] at hc
  simp only [mo_op] at h
  have hlen : len = 1 := Nat.eq_of_beq_eq_true hc
  subst hlen
  obtain ⟨x, y, r, rfl, h⟩ := mo_2i_of h
  intro p l e s m args below meth c cells slots QQ C H locs A hP hS hl
  obtain ⟨hx, hb, hml, hown, hw, hok, hcs, hret⟩ := id C
  exact lv_isub hx hb hd (hk _ _ _ h p l e s m args below meth c cells slots QQ C H locs A hP hS hl)
set_option maxHeartbeats 4000000 in
theorem mo_o_imul {g : mo_E} {mt : mo_T} {Q : mo_Q} {cs : Nat → mo_C} {K : mo_K} {k : mo_k} {pc len a b : Nat} {ci : Int} {ls : mo_L} {st : List mo_V} {σ : mo_M}  (hd : decode mt.1 pc = .ok (.imul, len)) (hc : mo_ck mt.2.1 (pc, len, .imul, a, b, ci) = true) (hK : ∀ pc ls st σ, K pc ls st σ → mo_X g mt Q pc ls st σ) (hk : ∀ ls st σ, k ls st σ → mo_X g mt Q (pc + len) ls st σ) (h : mo_op g.2.2.2.2 mt.2.2.1 mt.2.2.2.1 cs K Q (pc, len, .imul, a, b, ci) k ls st σ) : mo_X g mt Q pc ls st σ := by
  simp only [mo_ck, Bool.and_eq_true] at hc
  simp only [mo_op] at h
  have hlen : len = 1 := Nat.eq_of_beq_eq_true hc
  subst hlen
  obtain ⟨x, y, r, rfl, h⟩ := mo_2i_of h
  intro p l e s m args below meth c cells slots QQ C H locs A hP hS hl
  obtain ⟨hx, hb, hml, hown, hw, hok, hcs, hret⟩ := id C
  exact lv_imul hx hb hd (hk _ _ _ h p l e s m args below meth c cells slots QQ C H locs A hP hS hl)
set_option maxHeartbeats 4000000 in
theorem mo_o_iand {g : mo_E} {mt : mo_T} {Q : mo_Q} {cs : Nat → mo_C} {K : mo_K} {k : mo_k} {pc len a b : Nat} {ci : Int} {ls : mo_L} {st : List mo_V} {σ : mo_M}  (hd : decode mt.1 pc = .ok (.iand, len)) (hc : mo_ck mt.2.1 (pc, len, .iand, a, b, ci) = true) (hK : ∀ pc ls st σ, K pc ls st σ → mo_X g mt Q pc ls st σ) (hk : ∀ ls st σ, k ls st σ → mo_X g mt Q (pc + len) ls st σ) (h : mo_op g.2.2.2.2 mt.2.2.1 mt.2.2.2.1 cs K Q (pc, len, .iand, a, b, ci) k ls st σ) : mo_X g mt Q pc ls st σ := by
  simp only [mo_ck, Bool.and_eq_true] at hc
  simp only [mo_op] at h
  have hlen : len = 1 := Nat.eq_of_beq_eq_true hc
  subst hlen
  obtain ⟨x, y, r, rfl, h⟩ := mo_2i_of h
  intro p l e s m args below meth c cells slots QQ C H locs A hP hS hl
  obtain ⟨hx, hb, hml, hown, hw, hok, hcs, hret⟩ := id C
  exact lv_iand hx hb hd (hk _ _ _ h p l e s m args below meth c cells slots QQ C H locs A hP hS hl)
set_option maxHeartbeats 4000000 in
theorem mo_o_ior {g : mo_E} {mt : mo_T} {Q : mo_Q} {cs : Nat → mo_C} {K : mo_K} {k : mo_k} {pc len a b : Nat} {ci : Int} {ls : mo_L} {st : List mo_V} {σ : mo_M}  (hd : decode mt.1 pc = .ok (.ior, len)) (hc : mo_ck mt.2.1 (pc, len, .ior, a, b, ci) = true) (hK : ∀ pc ls st σ, K pc ls st σ → mo_X g mt Q pc ls st σ) (hk : ∀ ls st σ, k ls st σ → mo_X g mt Q (pc + len) ls st σ) (h : mo_op g.2.2.2.2 mt.2.2.1 mt.2.2.2.1 cs K Q (pc, len, .ior, a, b, ci) k ls st σ) : mo_X g mt Q pc ls st σ := by
  simp only [mo_ck, Bool.and_eq_true] at hc
  simp only [mo_op] at h
  have hlen : len = 1 := Nat.eq_of_beq_eq_true hc
  subst hlen
  obtain ⟨x, y, r, rfl, h⟩ := mo_2i_of h
  intro p l e s m args below meth c cells slots QQ C H locs A hP hS hl
  obtain ⟨hx, hb, hml, hown, hw, hok, hcs, hret⟩ := id C
  exact lv_ior hx hb hd (hk _ _ _ h p l e s m args below meth c cells slots QQ C H locs A hP hS hl)
set_option maxHeartbeats 4000000 in
theorem mo_o_ixor {g : mo_E} {mt : mo_T} {Q : mo_Q} {cs : Nat → mo_C} {K : mo_K} {k : mo_k} {pc len a b : Nat} {ci : Int} {ls : mo_L} {st : List mo_V} {σ : mo_M}  (hd : decode mt.1 pc = .ok (.ixor, len)) (hc : mo_ck mt.2.1 (pc, len, .ixor, a, b, ci) = true) (hK : ∀ pc ls st σ, K pc ls st σ → mo_X g mt Q pc ls st σ) (hk : ∀ ls st σ, k ls st σ → mo_X g mt Q (pc + len) ls st σ) (h : mo_op g.2.2.2.2 mt.2.2.1 mt.2.2.2.1 cs K Q (pc, len, .ixor, a, b, ci) k ls st σ) : mo_X g mt Q pc ls st σ := by
  simp only [mo_ck, Bool.and_eq_true] at hc
  simp only [mo_op] at h
  have hlen : len = 1 := Nat.eq_of_beq_eq_true hc
  subst hlen
  obtain ⟨x, y, r, rfl, h⟩ := mo_2i_of h
  intro p l e s m args below meth c cells slots QQ C H locs A hP hS hl
  obtain ⟨hx, hb, hml, hown, hw, hok, hcs, hret⟩ := id C
  exact lv_ixor hx hb hd (hk _ _ _ h p l e s m args below meth c cells slots QQ C H locs A hP hS hl)
set_option maxHeartbeats 4000000 in
theorem mo_o_ishl {g : mo_E} {mt : mo_T} {Q : mo_Q} {cs : Nat → mo_C} {K : mo_K} {k : mo_k} {pc len a b : Nat} {ci : Int} {ls : mo_L} {st : List mo_V} {σ : mo_M}  (hd : decode mt.1 pc = .ok (.ishl, len)) (hc : mo_ck mt.2.1 (pc, len, .ishl, a, b, ci) = true) (hK : ∀ pc ls st σ, K pc ls st σ → mo_X g mt Q pc ls st σ) (hk : ∀ ls st σ, k ls st σ → mo_X g mt Q (pc + len) ls st σ) (h : mo_op g.2.2.2.2 mt.2.2.1 mt.2.2.2.1 cs K Q (pc, len, .ishl, a, b, ci) k ls st σ) : mo_X g mt Q pc ls st σ := by
  simp only [mo_ck, Bool.and_eq_true] at hc
  simp only [mo_op] at h
  have hlen : len = 1 := Nat.eq_of_beq_eq_true hc
  subst hlen
  obtain ⟨x, y, r, rfl, h⟩ := mo_2i_of h
  intro p l e s m args below meth c cells slots QQ C H locs A hP hS hl
  obtain ⟨hx, hb, hml, hown, hw, hok, hcs, hret⟩ := id C
  exact lv_ishl hx hb hd (hk _ _ _ h p l e s m args below meth c cells slots QQ C H locs A hP hS hl)
set_option maxHeartbeats 4000000 in
theorem mo_o_ishr {g : mo_E} {mt : mo_T} {Q : mo_Q} {cs : Nat → mo_C} {K : mo_K} {k : mo_k} {pc len a b : Nat} {ci : Int} {ls : mo_L} {st : List mo_V} {σ : mo_M}  (hd : decode mt.1 pc = .ok (.ishr, len)) (hc : mo_ck mt.2.1 (pc, len, .ishr, a, b, ci) = true) (hK : ∀ pc ls st σ, K pc ls st σ → mo_X g mt Q pc ls st σ) (hk : ∀ ls st σ, k ls st σ → mo_X g mt Q (pc + len) ls st σ) (h : mo_op g.2.2.2.2 mt.2.2.1 mt.2.2.2.1 cs K Q (pc, len, .ishr, a, b, ci) k ls st σ) : mo_X g mt Q pc ls st σ := by
  simp only [mo_ck, Bool.and_eq_true] at hc
  simp only [mo_op] at h
  have hlen : len = 1 := Nat.eq_of_beq_eq_true hc
  subst hlen
  obtain ⟨x, y, r, rfl, h⟩ := mo_2i_of h
  intro p l e s m args below meth c cells slots QQ C H locs A hP hS hl
  obtain ⟨hx, hb, hml, hown, hw, hok, hcs, hret⟩ := id C
  exact lv_ishr hx hb hd (hk _ _ _ h p l e s m args below meth c cells slots QQ C H locs A hP hS hl)
set_option maxHeartbeats 4000000 in
theorem mo_o_idiv {g : mo_E} {mt : mo_T} {Q : mo_Q} {cs : Nat → mo_C} {K : mo_K} {k : mo_k} {pc len a b : Nat} {ci : Int} {ls : mo_L} {st : List mo_V} {σ : mo_M}  (hd : decode mt.1 pc = .ok (.idiv, len)) (hc : mo_ck mt.2.1 (pc, len, .idiv, a, b, ci) = true) (hK : ∀ pc ls st σ, K pc ls st σ → mo_X g mt Q pc ls st σ) (hk : ∀ ls st σ, k ls st σ → mo_X g mt Q (pc + len) ls st σ) (h : mo_op g.2.2.2.2 mt.2.2.1 mt.2.2.2.1 cs K Q (pc, len, .idiv, a, b, ci) k ls st σ) : mo_X g mt Q pc ls st σ := by
  simp only [mo_ck, Bool.and_eq_true] at hc
  simp only [mo_op] at h
  have hlen : len = 1 := Nat.eq_of_beq_eq_true hc
  subst hlen
  obtain ⟨x, y, r, rfl, hne, h⟩ := mo_2i_of h
  intro p l e s m args below meth c cells slots QQ C H locs A hP hS hl
  obtain ⟨hx, hb, hml, hown, hw, hok, hcs, hret⟩ := id C
  exact lv_idiv hx hb hd hne (hk _ _ _ h p l e s m args below meth c cells slots QQ C H locs A hP hS hl)
set_option maxHeartbeats 4000000 in
theorem mo_o_irem {g : mo_E} {mt : mo_T} {Q : mo_Q} {cs : Nat → mo_C} {K : mo_K} {k : mo_k} {pc len a b : Nat} {ci : Int} {ls : mo_L} {st : List mo_V} {σ : mo_M}  (hd : decode mt.1 pc = .ok (.irem, len)) (hc : mo_ck mt.2.1 (pc, len, .irem, a, b, ci) = true) (hK : ∀ pc ls st σ, K pc ls st σ → mo_X g mt Q pc ls st σ) (hk : ∀ ls st σ, k ls st σ → mo_X g mt Q (pc + len) ls st σ) (h : mo_op g.2.2.2.2 mt.2.2.1 mt.2.2.2.1 cs K Q (pc, len, .irem, a, b, ci) k ls st σ) : mo_X g mt Q pc ls st σ := by
  simp only [mo_ck, Bool.and_eq_true] at hc
  simp only [mo_op] at h
  have hlen : len = 1 := Nat.eq_of_beq_eq_true hc
  subst hlen
  obtain ⟨x, y, r, rfl, hne, h⟩ := mo_2i_of h
  intro p l e s m args below meth c cells slots QQ C H locs A hP hS hl
  obtain ⟨hx, hb, hml, hown, hw, hok, hcs, hret⟩ := id C
  exact lv_irem hx hb hd hne (hk _ _ _ h p l e s m args below meth c cells slots QQ C H locs A hP hS hl)
set_option maxHeartbeats 4000000 in
theorem mo_o_iushr {g : mo_E} {mt : mo_T} {Q : mo_Q} {cs : Nat → mo_C} {K : mo_K} {k : mo_k} {pc len a b : Nat} {ci : Int} {ls : mo_L} {st : List mo_V} {σ : mo_M}  (hd : decode mt.1 pc = .ok (.iushr, len)) (hc : mo_ck mt.2.1 (pc, len, .iushr, a, b, ci) = true) (hK : ∀ pc ls st σ, K pc ls st σ → mo_X g mt Q pc ls st σ) (hk : ∀ ls st σ, k ls st σ → mo_X g mt Q (pc + len) ls st σ) (h : mo_op g.2.2.2.2 mt.2.2.1 mt.2.2.2.1 cs K Q (pc, len, .iushr, a, b, ci) k ls st σ) : mo_X g mt Q pc ls st σ := by
  simp only [mo_ck, Bool.and_eq_true] at hc
  simp only [mo_op] at h
  have hlen : len = 1 := Nat.eq_of_beq_eq_true hc
  subst hlen
  obtain ⟨x, y, r, rfl, h⟩ := mo_2i_of h
  intro p l e s m args below meth c cells slots QQ C H locs A hP hS hl
  obtain ⟨hx, hb, hml, hown, hw, hok, hcs, hret⟩ := id C
  exact lv_iushr hx hb hd rfl (hk _ _ _ h p l e s m args below meth c cells slots QQ C H locs A hP hS hl)
set_option maxHeartbeats 4000000 in
theorem mo_o_ineg {g : mo_E} {mt : mo_T} {Q : mo_Q} {cs : Nat → mo_C} {K : mo_K} {k : mo_k} {pc len a b : Nat} {ci : Int} {ls : mo_L} {st : List mo_V} {σ : mo_M}  (hd : decode mt.1 pc = .ok (.ineg, len)) (hc : mo_ck mt.2.1 (pc, len, .ineg, a, b, ci) = true) (hK : ∀ pc ls st σ, K pc ls st σ → mo_X g mt Q pc ls st σ) (hk : ∀ ls st σ, k ls st σ → mo_X g mt Q (pc + len) ls st σ) (h : mo_op g.2.2.2.2 mt.2.2.1 mt.2.2.2.1 cs K Q (pc, len, .ineg, a, b, ci) k ls st σ) : mo_X g mt Q pc ls st σ := by
  simp only [mo_ck, Bool.and_eq_true] at hc
  simp only [mo_op] at h
  have hlen : len = 1 := Nat.eq_of_beq_eq_true hc
  subst hlen
  obtain ⟨x, r, rfl, h⟩ := mo_1i_of h
  intro p l e s m args below meth c cells slots QQ C H locs A hP hS hl
  obtain ⟨hx, hb, hml, hown, hw, hok, hcs, hret⟩ := id C
  exact lv_ineg hx hb hd (hk _ _ _ h p l e s m args below meth c cells slots QQ C H locs A hP hS hl)
set_option maxHeartbeats 4000000 in
theorem mo_o_ladd {g : mo_E} {mt : mo_T} {Q : mo_Q} {cs : Nat → mo_C} {K : mo_K} {k : mo_k} {pc len a b : Nat} {ci : Int} {ls : mo_L} {st : List mo_V} {σ : mo_M}  (hd : decode mt.1 pc = .ok (.ladd, len)) (hc : mo_ck mt.2.1 (pc, len, .ladd, a, b, ci) = true) (hK : ∀ pc ls st σ, K pc ls st σ → mo_X g mt Q pc ls st σ) (hk : ∀ ls st σ, k ls st σ → mo_X g mt Q (pc + len) ls st σ) (h : mo_op g.2.2.2.2 mt.2.2.1 mt.2.2.2.1 cs K Q (pc, len, .ladd, a, b, ci) k ls st σ) : mo_X g mt Q pc ls st σ := by
  simp only [mo_ck, Bool.and_eq_true] at hc
  simp only [mo_op] at h
  have hlen : len = 1 := Nat.eq_of_beq_eq_true hc
  subst hlen
  obtain ⟨x, y, r, rfl, h⟩ := mo_2l_of h
  intro p l e s m args below meth c cells slots QQ C H locs A hP hS hl
  obtain ⟨hx, hb, hml, hown, hw, hok, hcs, hret⟩ := id C
  exact lv_ladd hx hb hd (hk _ _ _ h p l e s m args below meth c cells slots QQ C H locs A hP hS hl)
set_option maxHeartbeats 4000000 in
theorem mo_o_land {g : mo_E} {mt : mo_T} {Q : mo_Q} {cs : Nat → mo_C} {K : mo_K} {k : mo_k} {pc len a b : Nat} {ci : Int} {ls : mo_L} {st : List mo_V} {σ : mo_M}  (hd : decode mt.1 pc = .ok (.land, len)) (hc : mo_ck mt.2.1 (pc, len, .land, a, b, ci) = true) (hK : ∀ pc ls st σ, K pc ls st σ → mo_X g mt Q pc ls st σ) (hk : ∀ ls st σ, k ls st σ → mo_X g mt Q (pc + len) ls st σ) (h : mo_op g.2.2.2.2 mt.2.2.1 mt.2.2.2.1 cs K Q (pc, len, .land, a, b, ci) k ls st σ) : mo_X g mt Q pc ls st σ := by
  simp only [mo_ck, Bool.and_eq_true] at hc
  simp only [mo_op] at h
  have hlen : len = 1 := Nat.eq_of_beq_eq_true hc
  subst hlen
  obtain ⟨x, y, r, rfl, h⟩ := mo_2l_of h
  intro p l e s m args below meth c cells slots QQ C H locs A hP hS hl
  obtain ⟨hx, hb, hml, hown, hw, hok, hcs, hret⟩ := id C
  exact lv_land hx hb hd (hk _ _ _ h p l e s m args below meth c cells slots QQ C H locs A hP hS hl)
set_option maxHeartbeats 4000000 in
theorem mo_o_lor {g : mo_E} {mt : mo_T} {Q : mo_Q} {cs : Nat → mo_C} {K : mo_K} {k : mo_k} {pc len a b : Nat} {ci : Int} {ls : mo_L} {st : List mo_V} {σ : mo_M}  (hd : decode mt.1 pc = .ok (.lor, len)) (hc : mo_ck mt.2.1 (pc, len, .lor, a, b, ci) = true) (hK : ∀ pc ls st σ, K pc ls st σ → mo_X g mt Q pc ls st σ) (hk : ∀ ls st σ, k ls st σ → mo_X g mt Q (pc + len) ls st σ) (h : mo_op g.2.2.2.2 mt.2.2.1 mt.2.2.2.1 cs K Q (pc, len, .lor, a, b, ci) k ls st σ) : mo_X g mt Q pc ls st σ := by
  simp only [mo_ck, Bool.and_eq_true] at hc
  simp only [mo_op] at h
  have hlen : len = 1 := Nat.eq_of_beq_eq_true hc
  subst hlen
  obtain ⟨x, y, r, rfl, h⟩ := mo_2l_of h
  intro p l e s m args below meth c cells slots QQ C H locs A hP hS hl
  obtain ⟨hx, hb, hml, hown, hw, hok, hcs, hret⟩ := id C
  exact lv_lor hx hb hd (hk _ _ _ h p l e s m args below meth c cells slots QQ C H locs A hP hS hl)
set_option maxHeartbeats 4000000 in
theorem mo_o_lxor {g : mo_E} {mt : mo_T} {Q : mo_Q} {cs : Nat → mo_C} {K : mo_K} {k : mo_k} {pc len a b : Nat} {ci : Int} {ls : mo_L} {st : List mo_V} {σ : mo_M}  (hd : decode mt.1 pc = .ok (.lxor, len)) (hc : mo_ck mt.2.1 (pc, len, .lxor, a, b, ci) = true) (hK : ∀ pc ls st σ, K pc ls st σ → mo_X g mt Q pc ls st σ) (hk : ∀ ls st σ, k ls st σ → mo_X g mt Q (pc + len) ls st σ) (h : mo_op g.2.2.2.2 mt.2.2.1 mt.2.2.2.1 cs K Q (pc, len, .lxor, a, b, ci) k ls st σ) : mo_X g mt Q pc ls st σ := by
  simp only [mo_ck, Bool.and_eq_true] at hc
  simp only [mo_op] at h
  have hlen : len = 1 := Nat.eq_of_beq_eq_true hc
  subst hlen
  obtain ⟨x, y, r, rfl, h⟩ := mo_2l_of h
  intro p l e s m args below meth c cells slots QQ C H locs A hP hS hl
  obtain ⟨hx, hb, hml, hown, hw, hok, hcs, hret⟩ := id C
  exact lv_lxor hx hb hd (hk _ _ _ h p l e s m args below meth c cells slots QQ C H locs A hP hS hl)
set_option maxHeartbeats 4000000 in
theorem mo_o_lshl {g : mo_E} {mt : mo_T} {Q : mo_Q} {cs : Nat → mo_C} {K : mo_K} {k : mo_k} {pc len a b : Nat} {ci : Int} {ls : mo_L} {st : List mo_V} {σ : mo_M}  (hd : decode mt.1 pc = .ok (.lshl, len)) (hc : mo_ck mt.2.1 (pc, len, .lshl, a, b, ci) = true) (hK : ∀ pc ls st σ, K pc ls st σ → mo_X g mt Q pc ls st σ) (hk : ∀ ls st σ, k ls st σ → mo_X g mt Q (pc + len) ls st σ) (h : mo_op g.2.2.2.2 mt.2.2.1 mt.2.2.2.1 cs K Q (pc, len, .lshl, a, b, ci) k ls st σ) : mo_X g mt Q pc ls st σ := by
  simp only [mo_ck, Bool.and_eq_true] at hc
  simp only [mo_op] at h
  have hlen : len = 1 := Nat.eq_of_beq_eq_true hc
  subst hlen
  obtain ⟨x, y, r, rfl, h⟩ := mo_li_of h
  intro p l e s m args below meth c cells slots QQ C H locs A hP hS hl
  obtain ⟨hx, hb, hml, hown, hw, hok, hcs, hret⟩ := id C
  exact lv_lshl hx hb hd rfl (hk _ _ _ h p l e s m args below meth c cells slots QQ C H locs A hP hS hl)
set_option maxHeartbeats 4000000 in
theorem mo_o_lshr {g : mo_E} {mt : mo_T} {Q : mo_Q} {cs : Nat → mo_C} {K : mo_K} {k : mo_k} {pc len a b : Nat} {ci : Int} {ls : mo_L} {st : List mo_V} {σ : mo_M}  (hd : decode mt.1 pc = .ok (.lshr, len)) (hc : mo_ck mt.2.1 (pc, len, .lshr, a, b, ci) = true) (hK : ∀ pc ls st σ, K pc ls st σ → mo_X g mt Q pc ls st σ) (hk : ∀ ls st σ, k ls st σ → mo_X g mt Q (pc + len) ls st σ) (h : mo_op g.2.2.2.2 mt.2.2.1 mt.2.2.2.1 cs K Q (pc, len, .lshr, a, b, ci) k ls st σ) : mo_X g mt Q pc ls st σ := by
  simp only [mo_ck, Bool.and_eq_true] at hc
  simp only [mo_op] at h
  have hlen : len = 1 := Nat.eq_of_beq_eq_true hc
  subst hlen
  obtain ⟨x, y, r, rfl, h⟩ := mo_li_of h
  intro p l e s m args below meth c cells slots QQ C H locs A hP hS hl
  obtain ⟨hx, hb, hml, hown, hw, hok, hcs, hret⟩ := id C
  exact lv_lshr hx hb hd rfl (hk _ _ _ h p l e s m args below meth c cells slots QQ C H locs A hP hS hl)
set_option maxHeartbeats 4000000 in
theorem mo_o_lushr {g : mo_E} {mt : mo_T} {Q : mo_Q} {cs : Nat → mo_C} {K : mo_K} {k : mo_k} {pc len a b : Nat} {ci : Int} {ls : mo_L} {st : List mo_V} {σ : mo_M}  (hd : decode mt.1 pc = .ok (.lushr, len)) (hc : mo_ck mt.2.1 (pc, len, .lushr, a, b, ci) = true) (hK : ∀ pc ls st σ, K pc ls st σ → mo_X g mt Q pc ls st σ) (hk : ∀ ls st σ, k ls st σ → mo_X g mt Q (pc + len) ls st σ) (h : mo_op g.2.2.2.2 mt.2.2.1 mt.2.2.2.1 cs K Q (pc, len, .lushr, a, b, ci) k ls st σ) : mo_X g mt Q pc ls st σ := by
  simp only [mo_ck, Bool.and_eq_true] at hc
  simp only [mo_op] at h
  have hlen : len = 1 := Nat.eq_of_beq_eq_true hc
  subst hlen
  obtain ⟨x, y, r, rfl, h⟩ := mo_li_of h
  intro p l e s m args below meth c cells slots QQ C H locs A hP hS hl
  obtain ⟨hx, hb, hml, hown, hw, hok, hcs, hret⟩ := id C
  exact lv_lushr hx hb hd rfl (hk _ _ _ h p l e s m args below meth c cells slots QQ C H locs A hP hS hl)
set_option maxHeartbeats 4000000 in
theorem mo_o_lcmp {g : mo_E} {mt : mo_T} {Q : mo_Q} {cs : Nat → mo_C} {K : mo_K} {k : mo_k} {pc len a b : Nat} {ci : Int} {ls : mo_L} {st : List mo_V} {σ : mo_M}  (hd : decode mt.1 pc = .ok (.lcmp, len)) (hc : mo_ck mt.2.1 (pc, len, .lcmp, a, b, ci) = true) (hK : ∀ pc ls st σ, K pc ls st σ → mo_X g mt Q pc ls st σ) (hk : ∀ ls st σ, k ls st σ → mo_X g mt Q (pc + len) ls st σ) (h : mo_op g.2.2.2.2 mt.2.2.1 mt.2.2.2.1 cs K Q (pc, len, .lcmp, a, b, ci) k ls st σ) : mo_X g mt Q pc ls st σ := by
  simp only [mo_ck, Bool.and_eq_true] at hc
  simp only [mo_op] at h
  have hlen : len = 1 := Nat.eq_of_beq_eq_true hc
  subst hlen
  obtain ⟨x, y, r, rfl, h⟩ := mo_2l_of h
  intro p l e s m args below meth c cells slots QQ C H locs A hP hS hl
  obtain ⟨hx, hb, hml, hown, hw, hok, hcs, hret⟩ := id C
  exact W.lcmp hx hb hd (hk _ _ _ h p l e s m args below meth c cells slots QQ C H locs A hP hS hl)
set_option maxHeartbeats 4000000 in
theorem mo_o_i2l {g : mo_E} {mt : mo_T} {Q : mo_Q} {cs : Nat → mo_C} {K : mo_K} {k : mo_k} {pc len a b : Nat} {ci : Int} {ls : mo_L} {st : List mo_V} {σ : mo_M}  (hd : decode mt.1 pc = .ok (.i2l, len)) (hc : mo_ck mt.2.1 (pc, len, .i2l, a, b, ci) = true) (hK : ∀ pc ls st σ, K pc ls st σ → mo_X g mt Q pc ls st σ) (hk : ∀ ls st σ, k ls st σ → mo_X g mt Q (pc + len) ls st σ) (h : mo_op g.2.2.2.2 mt.2.2.1 mt.2.2.2.1 cs K Q (pc, len, .i2l, a, b, ci) k ls st σ) : mo_X g mt Q pc ls st σ := by
  simp only [mo_ck, Bool.and_eq_true] at hc
  simp only [mo_op] at h
  have hlen : len = 1 := Nat.eq_of_beq_eq_true hc
  subst hlen
  obtain ⟨x, r, rfl, h⟩ := mo_1i_of h
  intro p l e s m args below meth c cells slots QQ C H locs A hP hS hl
  obtain ⟨hx, hb, hml, hown, hw, hok, hcs, hret⟩ := id C
  exact lv_i2l hx hb hd rfl (hk _ _ _ h p l e s m args below meth c cells slots QQ C H locs A hP hS hl)
set_option maxHeartbeats 4000000 in
theorem mo_o_i2b {g : mo_E} {mt : mo_T} {Q : mo_Q} {cs : Nat → mo_C} {K : mo_K} {k : mo_k} {pc len a b : Nat} {ci : Int} {ls : mo_L} {st : List mo_V} {σ : mo_M}  (hd : decode mt.1 pc = .ok (.i2b, len)) (hc : mo_ck mt.2.1 (pc, len, .i2b, a, b, ci) = true) (hK : ∀ pc ls st σ, K pc ls st σ → mo_X g mt Q pc ls st σ) (hk : ∀ ls st σ, k ls st σ → mo_X g mt Q (pc + len) ls st σ) (h : mo_op g.2.2.2.2 mt.2.2.1 mt.2.2.2.1 cs K Q (pc, len, .i2b, a, b, ci) k ls st σ) : mo_X g mt Q pc ls st σ := by
  simp only [mo_ck, Bool.and_eq_true] at hc
  simp only [mo_op] at h
  have hlen : len = 1 := Nat.eq_of_beq_eq_true hc
  subst hlen
  obtain ⟨x, r, rfl, h⟩ := mo_1i_of h
  intro p l e s m args below meth c cells slots QQ C H locs A hP hS hl
  obtain ⟨hx, hb, hml, hown, hw, hok, hcs, hret⟩ := id C
  exact lv_i2b hx hb hd rfl (hk _ _ _ h p l e s m args below meth c cells slots QQ C H locs A hP hS hl)
set_option maxHeartbeats 4000000 in
theorem mo_o_l2i {g : mo_E} {mt : mo_T} {Q : mo_Q} {cs : Nat → mo_C} {K : mo_K} {k : mo_k} {pc len a b : Nat} {ci : Int} {ls : mo_L} {st : List mo_V} {σ : mo_M}  (hd : decode mt.1 pc = .ok (.l2i, len)) (hc : mo_ck mt.2.1 (pc, len, .l2i, a, b, ci) = true) (hK : ∀ pc ls st σ, K pc ls st σ → mo_X g mt Q pc ls st σ) (hk : ∀ ls st σ, k ls st σ → mo_X g mt Q (pc + len) ls st σ) (h : mo_op g.2.2.2.2 mt.2.2.1 mt.2.2.2.1 cs K Q (pc, len, .l2i, a, b, ci) k ls st σ) : mo_X g mt Q pc ls st σ := by
  simp only [mo_ck, Bool.and_eq_true] at hc
  simp only [mo_op] at h
  have hlen : len = 1 := Nat.eq_of_beq_eq_true hc
  subst hlen
  obtain ⟨x, r, rfl, h⟩ := mo_1l_of h
  intro p l e s m args below meth c cells slots QQ C H locs A hP hS hl
  obtain ⟨hx, hb, hml, hown, hw, hok, hcs, hret⟩ := id C
  exact lv_l2i hx hb hd rfl (hk _ _ _ h p l e s m args below meth c cells slots QQ C H locs A hP hS hl)
set_option maxHeartbeats 4000000 in
theorem mo_o_dup {g : mo_E} {mt : mo_T} {Q : mo_Q} {cs : Nat → mo_C} {K : mo_K} {k : mo_k} {pc len a b : Nat} {ci : Int} {ls : mo_L} {st : List mo_V} {σ : mo_M}  (hd : decode mt.1 pc = .ok (.dup, len)) (hc : mo_ck mt.2.1 (pc, len, .dup, a, b, ci) = true) (hK : ∀ pc ls st σ, K pc ls st σ → mo_X g mt Q pc ls st σ) (hk : ∀ ls st σ, k ls st σ → mo_X g mt Q (pc + len) ls st σ) (h : mo_op g.2.2.2.2 mt.2.2.1 mt.2.2.2.1 cs K Q (pc, len, .dup, a, b, ci) k ls st σ) : mo_X g mt Q pc ls st σ := by
  simp only [mo_ck, Bool.and_eq_true] at hc
  simp only [mo_op] at h
  have hlen : len = 1 := Nat.eq_of_beq_eq_true hc
  subst hlen
  split at h
  next v r =>
    obtain ⟨hv, h⟩ := mo_b_of h
    have hv : mo_wide v = false := by simpa using hv
    intro p l e s m args below meth c cells slots QQ C H locs A hP hS hl
    obtain ⟨hx, hb, hml, hown, hw, hok, hcs, hret⟩ := id C
    exact lv_dup hx hb hd (by rw [mo_cv_cat, hv]; rfl) (hk _ _ _ h p l e s m args below meth c cells slots QQ C H locs A hP hS hl)
  next => exact h.elim
set_option maxHeartbeats 4000000 in
theorem mo_o_pop {g : mo_E} {mt : mo_T} {Q : mo_Q} {cs : Nat → mo_C} {K : mo_K} {k : mo_k} {pc len a b : Nat} {ci : Int} {ls : mo_L} {st : List mo_V} {σ : mo_M}  (hd : decode mt.1 pc = .ok (.pop, len)) (hc : mo_ck mt.2.1 (pc, len, .pop, a, b, ci) = true) (hK : ∀ pc ls st σ, K pc ls st σ → mo_X g mt Q pc ls st σ) (hk : ∀ ls st σ, k ls st σ → mo_X g mt Q (pc + len) ls st σ) (h : mo_op g.2.2.2.2 mt.2.2.1 mt.2.2.2.1 cs K Q (pc, len, .pop, a, b, ci) k ls st σ) : mo_X g mt Q pc ls st σ := by
  simp only [mo_ck, Bool.and_eq_true] at hc
  simp only [mo_op] at h
  have hlen : len = 1 := Nat.eq_of_beq_eq_true hc
  subst hlen
  split at h
  next v r =>
    obtain ⟨hv, h⟩ := mo_b_of h
    have hv : mo_wide v = false := by simpa using hv
    intro p l e s m args below meth c cells slots QQ C H locs A hP hS hl
    obtain ⟨hx, hb, hml, hown, hw, hok, hcs, hret⟩ := id C
    exact lv_pop hx hb hd (by rw [mo_cv_cat, hv]; rfl) (hk _ _ _ h p l e s m args below meth c cells slots QQ C H locs A hP hS hl)
  next => exact h.elim
set_option maxHeartbeats 4000000 in
theorem mo_o_dup2 {g : mo_E} {mt : mo_T} {Q : mo_Q} {cs : Nat → mo_C} {K : mo_K} {k : mo_k} {pc len a b : Nat} {ci : Int} {ls : mo_L} {st : List mo_V} {σ : mo_M}  (hd : decode mt.1 pc = .ok (.dup2, len)) (hc : mo_ck mt.2.1 (pc, len, .dup2, a, b, ci) = true) (hK : ∀ pc ls st σ, K pc ls st σ → mo_X g mt Q pc ls st σ) (hk : ∀ ls st σ, k ls st σ → mo_X g mt Q (pc + len) ls st σ) (h : mo_op g.2.2.2.2 mt.2.2.1 mt.2.2.2.1 cs K Q (pc, len, .dup2, a, b, ci) k ls st σ) : mo_X g mt Q pc ls st σ := by
  simp only [mo_ck, Bool.and_eq_true] at hc
  simp only [mo_op] at h
  have hlen : len = 1 := Nat.eq_of_beq_eq_true hc
  subst hlen
  split at h
  next v u r =>
    obtain ⟨hv, h⟩ := mo_b_of h
    rw [Bool.and_eq_true] at hv
    have hv1 : mo_wide v = false := by simpa using hv.1
    have hv2 : mo_wide u = false := by simpa using hv.2
    intro p l e s m args below meth c cells slots QQ C H locs A hP hS hl
    obtain ⟨hx, hb, hml, hown, hw, hok, hcs, hret⟩ := id C
    exact lv_dup2_11 hx hb hd (by rw [mo_cv_cat, hv1]; rfl) (by rw [mo_cv_cat, hv2]; rfl) (hk _ _ _ h p l e s m args below meth c cells slots QQ C H locs A hP hS hl)
  next => exact h.elim
set_option maxHeartbeats 4000000 in
theorem mo_o_getfield {g : mo_E} {mt : mo_T} {Q : mo_Q} {cs : Nat → mo_C} {K : mo_K} {k : mo_k} {pc len a b : Nat} {ci : Int} {ls : mo_L} {st : List mo_V} {σ : mo_M} {i : Nat} (hd : decode mt.1 pc = .ok (.getfield i, len)) (hc : mo_ck mt.2.1 (pc, len, .getfield i, a, b, ci) = true) (hK : ∀ pc ls st σ, K pc ls st σ → mo_X g mt Q pc ls st σ) (hk : ∀ ls st σ, k ls st σ → mo_X g mt Q (pc + len) ls st σ) (h : mo_op g.2.2.2.2 mt.2.2.1 mt.2.2.2.1 cs K Q (pc, len, .getfield i, a, b, ci) k ls st σ) : mo_X g mt Q pc ls st σ := by
  simp only [mo_ck, Bool.and_eq_true] at hc
  simp only [mo_op] at h
  have hlen : len = 3 := Nat.eq_of_beq_eq_true hc.1
  subst hlen
  obtain ⟨-, ha, hbn, hlk⟩ := hc
  have ha := Nat.le_of_ble_eq_true ha
  have hbn := Nat.le_of_ble_eq_true hbn
  obtain ⟨o, w, r, rfl, h⟩ := mo_1r_of h
  obtain ⟨ho, h⟩ := mo_b_of h
  have ho := mo_isO_of ho
  obtain ⟨hps, h⟩ := mo_in_of h
  obtain ⟨q0, hq0⟩ := mo_ps_ix hps
  obtain ⟨CC, T, ty, h1, h2, h3, h4, h5, h6⟩ := mo_cls ha
  intro p l e s m args below meth c cells slots QQ C H locs A hP hS hl
  obtain ⟨hx, hb, hml, hown, hw, hok, hcs, hret⟩ := id C
  have he := mo_wd_at g σ hq0
  rw [mo_cell_o σ ho] at he
  have hv : ((List.range (mo_num a)).map (mo_fv g.2.2.1 σ o w a))[b]? = some (mo_fv g.2.2.1 σ o w a b) := by
    rw [List.getElem?_map, List.getElem?_range hbn]; rfl
  have hlk := hw _ (mo_fl_of h2 hlk)
  cases hr : mo_ref a b with
  | true =>
    rw [hr] at h
    refine va_get hx hb hw h3 hown hok.1 hP q0 he h1 b hbn hlk (fun _ h9 => h9) hv hd ?_
    unfold mo_fv
    rw [hr]
    exact (hk _ _ _ h p l e s m args below meth c cells slots QQ C H locs A hP hS hl)
  | false =>
    rw [hr] at h
    refine va_get hx hb hw h3 hown hok.1 hP q0 he h1 b hbn hlk (fun _ h9 => h9) hv hd ?_
    unfold mo_fv
    rw [hr]
    exact (hk _ _ _ h p l e s m args below meth c cells slots QQ C H locs A hP hS hl)
set_option maxHeartbeats 4000000 in
theorem mo_o_putfield {g : mo_E} {mt : mo_T} {Q : mo_Q} {cs : Nat → mo_C} {K : mo_K} {k : mo_k} {pc len a b : Nat} {ci : Int} {ls : mo_L} {st : List mo_V} {σ : mo_M} {i : Nat} (hd : decode mt.1 pc = .ok (.putfield i, len)) (hc : mo_ck mt.2.1 (pc, len, .putfield i, a, b, ci) = true) (hK : ∀ pc ls st σ, K pc ls st σ → mo_X g mt Q pc ls st σ) (hk : ∀ ls st σ, k ls st σ → mo_X g mt Q (pc + len) ls st σ) (h : mo_op g.2.2.2.2 mt.2.2.1 mt.2.2.2.1 cs K Q (pc, len, .putfield i, a, b, ci) k ls st σ) : mo_X g mt Q pc ls st σ := by
  simp only [mo_ck, Bool.and_eq_true] at hc
  simp only [mo_op] at h
  have hlen : len = 3 := Nat.eq_of_beq_eq_true hc.1
  subst hlen
  obtain ⟨-, ha, hbn, hlk⟩ := hc
  have ha := Nat.le_of_ble_eq_true ha
  have hbn := Nat.le_of_ble_eq_true hbn
  split at h
  next v o w r =>
    obtain ⟨ho, h⟩ := mo_b_of h
    rw [Bool.and_eq_true] at ho
    obtain ⟨ho, hr⟩ := ho
    have ho := mo_isO_of ho
    have hr : mo_ref a b = false := by simpa using hr
    obtain ⟨hps, h⟩ := mo_in_of h
    obtain ⟨q0, hq0⟩ := mo_ps_ix hps
    obtain ⟨CC, T, ty, h1, h2, h3, h4, h5, h6⟩ := mo_cls ha
    obtain ⟨h7, h8⟩ := h6 b hbn hr
    intro p l e s m args below meth c cells slots QQ C H locs A hP hS hl
    obtain ⟨hx, hb, hml, hown, hw, hok, hcs, hret⟩ := id C
    have he := mo_wd_at g σ hq0
    rw [mo_cell_o σ ho] at he
    have hlk := hw _ (mo_fl_of h2 hlk)
    refine va_put (v := .int v) (ty := .int) hx hb hw h3 ty h4 h5 hown hok.1 hP (mo_D g σ hok) hS q0 he h1 b hbn hlk (fun _ h9 => h9) h8 (by rw [h7]; decide +kernel) rfl rfl (by simp only [List.length_map, List.length_range]; exact hbn) hd (fun H1 locs1 hP1 _ hS1 => ?_)
    rw [← mo_cell_put σ ho hr v, mo_wd_set g hq0 (mo_wI_o σ o w b v) (fun _ _ _ => rfl)] at hP1
    exact hk _ _ _ h p l e s m args below meth c cells slots QQ C H1 locs1 A hP1 hS1 hl
  next => exact h.elim
set_option maxHeartbeats 4000000 in
theorem mo_o_getstatic {g : mo_E} {mt : mo_T} {Q : mo_Q} {cs : Nat → mo_C} {K : mo_K} {k : mo_k} {pc len a b : Nat} {ci : Int} {ls : mo_L} {st : List mo_V} {σ : mo_M} {i : Nat} (hd : decode mt.1 pc = .ok (.getstatic i, len)) (hc : mo_ck mt.2.1 (pc, len, .getstatic i, a, b, ci) = true) (hK : ∀ pc ls st σ, K pc ls st σ → mo_X g mt Q pc ls st σ) (hk : ∀ ls st σ, k ls st σ → mo_X g mt Q (pc + len) ls st σ) (h : mo_op g.2.2.2.2 mt.2.2.1 mt.2.2.2.1 cs K Q (pc, len, .getstatic i, a, b, ci) k ls st σ) : mo_X g mt Q pc ls st σ := by
  simp only [mo_ck, Bool.and_eq_true] at hc
  simp only [mo_op] at h
  have hlen : len = 3 := Nat.eq_of_beq_eq_true hc.1
  subst hlen
  intro p l e s m args below meth c cells slots QQ C H locs A hP hS hl
  obtain ⟨hx, hb, hml, hown, hw, hok, hcs, hret⟩ := id C
  have hc2 := hc.2
  rw [Bool.or_eq_true] at hc2
  rcases hc2 with q | q
  · exact va_gets hx hb hok.2.2.2.2.1 hS hown (hw _ (mo_gB_of q)) (fun _ h9 => h9) hd (hk _ _ _ h p l e s m args below meth c cells slots QQ C H locs A hP hS hl)
  · rw [Bool.and_eq_true] at q
    have e1 := of_decide_eq_true q.1
    have e2 := Nat.eq_of_beq_eq_true q.2
    subst e2
    have hz := hok.2.2.2.1 (.fieldLinkNest RX7 76 "MadeOf" "VERSION_SCALE" "[I" RX11) (by simp [mo_nw])
    have ho : s.vm.findClass RX7 = some m.cls := by rw [← e1]; exact hown
    exact va_getsN hx hb hok.2.2.2.2.1 hS ho (va_Nw.use rfl hz) (fun _ h9 => h9) hd (hk _ _ _ h p l e s m args below meth c cells slots QQ C H locs A hP hS hl)
end
section
set_option maxHeartbeats 4000000 in
theorem mo_ald_of {ex : Nat × (Nat → Int32)} {fm o w : Nat} {i : Int32} {σ : mo_M} {f : Int32 → Prop} (h : mo_ald ex fm o w i σ f) : (mo_kd o = (fm, (mo_kd o).2) ∧ (o, w) ∈ mo_ps ∧ vp_in i (mo_kd o).2 ∧ f (σ.1 o w i.toNatClampNeg)) ∨ (fm = 1 ∧ w = 0 ∧ (o = 90 ∨ o = 95) ∧ vp_in i (mo_en ex o) ∧ f (mo_ev ex o i.toNatClampNeg)) := by
  unfold mo_ald at h
  cases hk : Nat.beq (mo_kd o).1 fm with
  | true =>
    rw [hk] at h
    obtain ⟨h1, h2, h3⟩ := mo_in_of h
    exact Or.inl ⟨mo_kd_of hk, h1, h2, h3⟩
  | false =>
    rw [hk] at h
    obtain ⟨h1, h2, h3⟩ := mo_b_of h
    simp only [Bool.and_eq_true, Bool.or_eq_true] at h1
    exact Or.inr ⟨Nat.eq_of_beq_eq_true h1.1.1, Nat.eq_of_beq_eq_true h1.1.2, h1.2.imp Nat.eq_of_beq_eq_true Nat.eq_of_beq_eq_true, h2, h3⟩
set_option maxHeartbeats 4000000 in
theorem mo_o_iaload {g : mo_E} {mt : mo_T} {Q : mo_Q} {cs : Nat → mo_C} {K : mo_K} {k : mo_k} {pc len a b : Nat} {ci : Int} {ls : mo_L} {st : List mo_V} {σ : mo_M}  (hd : decode mt.1 pc = .ok (.iaload, len)) (hc : mo_ck mt.2.1 (pc, len, .iaload, a, b, ci) = true) (hK : ∀ pc ls st σ, K pc ls st σ → mo_X g mt Q pc ls st σ) (hk : ∀ ls st σ, k ls st σ → mo_X g mt Q (pc + len) ls st σ) (h : mo_op g.2.2.2.2 mt.2.2.1 mt.2.2.2.1 cs K Q (pc, len, .iaload, a, b, ci) k ls st σ) : mo_X g mt Q pc ls st σ := by
  simp only [mo_ck, Bool.and_eq_true] at hc
  simp only [mo_op] at h
  have hlen : len = 1 := Nat.eq_of_beq_eq_true hc
  subst hlen
  have h9 := mo_ri_of h
  clear h
  obtain ⟨o, w, i, r, rfl, h⟩ := h9
  intro p l e s m args below meth c cells slots QQ C H locs A hP hS hl
  obtain ⟨hx, hb, hml, hown, hw, hok, hcs, hret⟩ := id C
  rcases mo_ald_of h with ⟨hkd, hps, hin, h⟩ | ⟨-, rfl, ho, hin, h⟩
  · obtain ⟨q0, hq0⟩ := mo_ps_ix hps
    have he := mo_wd_at g σ hq0
    rw [mo_cell_1 σ hkd] at he
    exact va_iald hx hb hok.1 hP q0 0 he rfl hin hd (hk _ _ _ h p l e s m args below meth c cells slots QQ C H locs A hP hS hl)
  · rcases ho with rfl | rfl
    · exact va_ti hx hb hok.2.2.2.2.2.1 hS hin rfl hd (hk _ _ _ h p l e s m args below meth c cells slots QQ C H locs A hP hS hl)
    · exact va_ti hx hb hok.2.2.2.2.2.2.1 hS hin rfl hd (hk _ _ _ h p l e s m args below meth c cells slots QQ C H locs A hP hS hl)
set_option maxHeartbeats 4000000 in
theorem mo_o_baload {g : mo_E} {mt : mo_T} {Q : mo_Q} {cs : Nat → mo_C} {K : mo_K} {k : mo_k} {pc len a b : Nat} {ci : Int} {ls : mo_L} {st : List mo_V} {σ : mo_M}  (hd : decode mt.1 pc = .ok (.baload, len)) (hc : mo_ck mt.2.1 (pc, len, .baload, a, b, ci) = true) (hK : ∀ pc ls st σ, K pc ls st σ → mo_X g mt Q pc ls st σ) (hk : ∀ ls st σ, k ls st σ → mo_X g mt Q (pc + len) ls st σ) (h : mo_op g.2.2.2.2 mt.2.2.1 mt.2.2.2.1 cs K Q (pc, len, .baload, a, b, ci) k ls st σ) : mo_X g mt Q pc ls st σ := by
  simp only [mo_ck, Bool.and_eq_true] at hc
  simp only [mo_op] at h
  have hlen : len = 1 := Nat.eq_of_beq_eq_true hc
  subst hlen
  have h9 := mo_ri_of h
  clear h
  obtain ⟨o, w, i, r, rfl, h⟩ := h9
  intro p l e s m args below meth c cells slots QQ C H locs A hP hS hl
  obtain ⟨hx, hb, hml, hown, hw, hok, hcs, hret⟩ := id C
  cases hb3 : Nat.beq (mo_kd o).1 3 with
  | true =>
    rw [hb3] at h
    simp only [cond_true] at h
    rcases mo_ald_of h with ⟨hkd, hps, hin, h⟩ | ⟨q, -⟩
    · obtain ⟨q0, hq0⟩ := mo_ps_ix hps
      have he := mo_wd_at g σ hq0
      rw [mo_cell_3 σ hkd] at he
      exact va_zald hx hb hok.1 hP q0 2 he rfl hin hd (hk _ _ _ h p l e s m args below meth c cells slots QQ C H locs A hP hS hl)
    · exact absurd q (by decide)
  | false =>
    rw [hb3] at h
    simp only [cond_false] at h
    rcases mo_ald_of h with ⟨hkd, hps, hin, h⟩ | ⟨q, -⟩
    · obtain ⟨q0, hq0⟩ := mo_ps_ix hps
      have he := mo_wd_at g σ hq0
      rw [mo_cell_4 σ hkd] at he
      exact va_bald hx hb hok.1 hP q0 3 he rfl hin hd (hk _ _ _ h p l e s m args below meth c cells slots QQ C H locs A hP hS hl)
    · exact absurd q (by decide)
set_option maxHeartbeats 4000000 in
theorem mo_o_laload {g : mo_E} {mt : mo_T} {Q : mo_Q} {cs : Nat → mo_C} {K : mo_K} {k : mo_k} {pc len a b : Nat} {ci : Int} {ls : mo_L} {st : List mo_V} {σ : mo_M}  (hd : decode mt.1 pc = .ok (.laload, len)) (hc : mo_ck mt.2.1 (pc, len, .laload, a, b, ci) = true) (hK : ∀ pc ls st σ, K pc ls st σ → mo_X g mt Q pc ls st σ) (hk : ∀ ls st σ, k ls st σ → mo_X g mt Q (pc + len) ls st σ) (h : mo_op g.2.2.2.2 mt.2.2.1 mt.2.2.2.1 cs K Q (pc, len, .laload, a, b, ci) k ls st σ) : mo_X g mt Q pc ls st σ := by
  simp only [mo_ck, Bool.and_eq_true] at hc
  simp only [mo_op] at h
  have hlen : len = 1 := Nat.eq_of_beq_eq_true hc
  subst hlen
  have h9 := mo_ri_of h
  clear h
  obtain ⟨o, w, i, r, rfl, h⟩ := h9
  obtain ⟨hkd, h⟩ := mo_b_of h
  have hkd := mo_kd_of hkd
  obtain ⟨hps, hin, h⟩ := mo_in_of h
  obtain ⟨q0, hq0⟩ := mo_ps_ix hps
  intro p l e s m args below meth c cells slots QQ C H locs A hP hS hl
  obtain ⟨hx, hb, hml, hown, hw, hok, hcs, hret⟩ := id C
  have he := mo_wd_at g σ hq0
  rw [mo_cell_2 σ hkd] at he
  exact va_lald hx hb hok.1 hP q0 1 he rfl hin hd (hk _ _ _ h p l e s m args below meth c cells slots QQ C H locs A hP hS hl)
set_option maxHeartbeats 4000000 in
theorem mo_o_aaload {g : mo_E} {mt : mo_T} {Q : mo_Q} {cs : Nat → mo_C} {K : mo_K} {k : mo_k} {pc len a b : Nat} {ci : Int} {ls : mo_L} {st : List mo_V} {σ : mo_M}  (hd : decode mt.1 pc = .ok (.aaload, len)) (hc : mo_ck mt.2.1 (pc, len, .aaload, a, b, ci) = true) (hK : ∀ pc ls st σ, K pc ls st σ → mo_X g mt Q pc ls st σ) (hk : ∀ ls st σ, k ls st σ → mo_X g mt Q (pc + len) ls st σ) (h : mo_op g.2.2.2.2 mt.2.2.1 mt.2.2.2.1 cs K Q (pc, len, .aaload, a, b, ci) k ls st σ) : mo_X g mt Q pc ls st σ := by
  simp only [mo_ck, Bool.and_eq_true] at hc
  simp only [mo_op] at h
  have hlen : len = 1 := Nat.eq_of_beq_eq_true hc
  subst hlen
  have h9 := mo_ri_of h
  clear h
  obtain ⟨o, w, i, r, rfl, h⟩ := h9
  obtain ⟨hkd, h⟩ := mo_b_of h
  have hkd := mo_kd_of hkd
  obtain ⟨hps, hin, h⟩ := mo_in_of h
  obtain ⟨q0, hq0⟩ := mo_ps_ix hps
  intro p l e s m args below meth c cells slots QQ C H locs A hP hS hl
  obtain ⟨hx, hb, hml, hown, hw, hok, hcs, hret⟩ := id C
  have he := mo_wd_at g σ hq0
  rw [mo_cell_5 σ hkd] at he
  exact va_aldq hx hb hok.1 hP q0 4 he rfl hin hd (hk _ _ _ h p l e s m args below meth c cells slots QQ C H locs A hP hS hl)
set_option maxHeartbeats 4000000 in
theorem mo_o_iastore {g : mo_E} {mt : mo_T} {Q : mo_Q} {cs : Nat → mo_C} {K : mo_K} {k : mo_k} {pc len a b : Nat} {ci : Int} {ls : mo_L} {st : List mo_V} {σ : mo_M}  (hd : decode mt.1 pc = .ok (.iastore, len)) (hc : mo_ck mt.2.1 (pc, len, .iastore, a, b, ci) = true) (hK : ∀ pc ls st σ, K pc ls st σ → mo_X g mt Q pc ls st σ) (hk : ∀ ls st σ, k ls st σ → mo_X g mt Q (pc + len) ls st σ) (h : mo_op g.2.2.2.2 mt.2.2.1 mt.2.2.2.1 cs K Q (pc, len, .iastore, a, b, ci) k ls st σ) : mo_X g mt Q pc ls st σ := by
  simp only [mo_ck, Bool.and_eq_true] at hc
  simp only [mo_op] at h
  have hlen : len = 1 := Nat.eq_of_beq_eq_true hc
  subst hlen
  have h9 := mo_rii_of h
  clear h
  obtain ⟨o, w, i, x, r, rfl, h⟩ := h9
  obtain ⟨hkd, h⟩ := mo_b_of h
  have hkd := mo_kd_of hkd
  obtain ⟨hps, hin, h⟩ := mo_in_of h
  obtain ⟨q0, hq0⟩ := mo_ps_ix hps
  intro p l e s m args below meth c cells slots QQ C H locs A hP hS hl
  obtain ⟨hx, hb, hml, hown, hw, hok, hcs, hret⟩ := id C
  have he := mo_wd_at g σ hq0
  rw [mo_cell_1 σ hkd] at he
  refine va_iast hx hb hok.1 hP (mo_D g σ hok) hS q0 0 he rfl hin hd (fun H1 locs1 hP1 _ hS1 => ?_)
  rw [← mo_wI_s σ o w i.toNatClampNeg x, ← mo_cell_1 (cA := g.2.1) (ad := g.2.2.1) (mo_wI σ o w i.toNatClampNeg x) hkd, mo_wd_set (σ := σ) g hq0 (mo_wI_o σ o w i.toNatClampNeg x) (fun _ _ _ => rfl)] at hP1
  exact hk _ _ _ h p l e s m args below meth c cells slots QQ C H1 locs1 A hP1 hS1 hl
set_option maxHeartbeats 4000000 in
theorem mo_o_lastore {g : mo_E} {mt : mo_T} {Q : mo_Q} {cs : Nat → mo_C} {K : mo_K} {k : mo_k} {pc len a b : Nat} {ci : Int} {ls : mo_L} {st : List mo_V} {σ : mo_M}  (hd : decode mt.1 pc = .ok (.lastore, len)) (hc : mo_ck mt.2.1 (pc, len, .lastore, a, b, ci) = true) (hK : ∀ pc ls st σ, K pc ls st σ → mo_X g mt Q pc ls st σ) (hk : ∀ ls st σ, k ls st σ → mo_X g mt Q (pc + len) ls st σ) (h : mo_op g.2.2.2.2 mt.2.2.1 mt.2.2.2.1 cs K Q (pc, len, .lastore, a, b, ci) k ls st σ) : mo_X g mt Q pc ls st σ := by
  simp only [mo_ck, Bool.and_eq_true] at hc
  simp only [mo_op] at h
  have hlen : len = 1 := Nat.eq_of_beq_eq_true hc
  subst hlen
  have h9 := mo_ril_of h
  clear h
  obtain ⟨o, w, i, x, r, rfl, h⟩ := h9
  obtain ⟨hkd, h⟩ := mo_b_of h
  have hkd := mo_kd_of hkd
  obtain ⟨hps, hin, h⟩ := mo_in_of h
  obtain ⟨q0, hq0⟩ := mo_ps_ix hps
  intro p l e s m args below meth c cells slots QQ C H locs A hP hS hl
  obtain ⟨hx, hb, hml, hown, hw, hok, hcs, hret⟩ := id C
  have he := mo_wd_at g σ hq0
  rw [mo_cell_2 σ hkd] at he
  refine va_last hx hb hok.1 hP (mo_D g σ hok) hS q0 1 he rfl hin hd (fun H1 locs1 hP1 _ hS1 => ?_)
  rw [← mo_wL_s σ o w i.toNatClampNeg x, ← mo_cell_2 (cA := g.2.1) (ad := g.2.2.1) (mo_wL σ o w i.toNatClampNeg x) hkd, mo_wd_set (σ := σ) g hq0 (σ' := mo_wL σ o w i.toNatClampNeg x) (fun _ _ _ => rfl) (mo_wL_o σ o w i.toNatClampNeg x)] at hP1
  exact hk _ _ _ h p l e s m args below meth c cells slots QQ C H1 locs1 A hP1 hS1 hl
set_option maxHeartbeats 4000000 in
theorem mo_o_bastore {g : mo_E} {mt : mo_T} {Q : mo_Q} {cs : Nat → mo_C} {K : mo_K} {k : mo_k} {pc len a b : Nat} {ci : Int} {ls : mo_L} {st : List mo_V} {σ : mo_M}  (hd : decode mt.1 pc = .ok (.bastore, len)) (hc : mo_ck mt.2.1 (pc, len, .bastore, a, b, ci) = true) (hK : ∀ pc ls st σ, K pc ls st σ → mo_X g mt Q pc ls st σ) (hk : ∀ ls st σ, k ls st σ → mo_X g mt Q (pc + len) ls st σ) (h : mo_op g.2.2.2.2 mt.2.2.1 mt.2.2.2.1 cs K Q (pc, len, .bastore, a, b, ci) k ls st σ) : mo_X g mt Q pc ls st σ := by
  simp only [mo_ck, Bool.and_eq_true] at hc
  simp only [mo_op] at h
  have hlen : len = 1 := Nat.eq_of_beq_eq_true hc
  subst hlen
  have h9 := mo_rii_of h
  clear h
  obtain ⟨o, w, i, x, r, rfl, h⟩ := h9
  intro p l e s m args below meth c cells slots QQ C H locs A hP hS hl
  obtain ⟨hx, hb, hml, hown, hw, hok, hcs, hret⟩ := id C
  cases hb3 : Nat.beq (mo_kd o).1 3 with
  | true =>
    rw [hb3] at h
    have hkd := mo_kd_of hb3
    obtain ⟨hps, hin, h⟩ := mo_in_of h
    obtain ⟨q0, hq0⟩ := mo_ps_ix hps
    have he := mo_wd_at g σ hq0
    rw [mo_cell_3 σ hkd] at he
    refine va_zast hx hb hok.1 hP (mo_D g σ hok) hS q0 2 he rfl hin hd (fun H1 locs1 hP1 _ hS1 => ?_)
    rw [← mo_wI_s σ o w i.toNatClampNeg (vp_nar .boolean x), ← mo_cell_3 (cA := g.2.1) (ad := g.2.2.1) (mo_wI σ o w i.toNatClampNeg (vp_nar .boolean x)) hkd, mo_wd_set (σ := σ) g hq0 (mo_wI_o σ o w i.toNatClampNeg (vp_nar .boolean x)) (fun _ _ _ => rfl)] at hP1
    exact hk _ _ _ h p l e s m args below meth c cells slots QQ C H1 locs1 A hP1 hS1 hl
  | false =>
    rw [hb3] at h
    obtain ⟨hkd, h⟩ := mo_b_of h
    have hkd := mo_kd_of hkd
    obtain ⟨hps, hin, h⟩ := mo_in_of h
    obtain ⟨q0, hq0⟩ := mo_ps_ix hps
    have he := mo_wd_at g σ hq0
    rw [mo_cell_4 σ hkd] at he
    refine va_bast hx hb hok.1 hP (mo_D g σ hok) hS q0 3 he rfl hin hd (fun H1 locs1 hP1 _ hS1 => ?_)
    rw [← mo_wI_s σ o w i.toNatClampNeg (vp_nar .byte x), ← mo_cell_4 (cA := g.2.1) (ad := g.2.2.1) (mo_wI σ o w i.toNatClampNeg (vp_nar .byte x)) hkd, mo_wd_set (σ := σ) g hq0 (mo_wI_o σ o w i.toNatClampNeg (vp_nar .byte x)) (fun _ _ _ => rfl)] at hP1
    exact hk _ _ _ h p l e s m args below meth c cells slots QQ C H1 locs1 A hP1 hS1 hl
set_option maxHeartbeats 4000000 in
theorem mo_o_arraylength {g : mo_E} {mt : mo_T} {Q : mo_Q} {cs : Nat → mo_C} {K : mo_K} {k : mo_k} {pc len a b : Nat} {ci : Int} {ls : mo_L} {st : List mo_V} {σ : mo_M}  (hd : decode mt.1 pc = .ok (.arraylength, len)) (hc : mo_ck mt.2.1 (pc, len, .arraylength, a, b, ci) = true) (hK : ∀ pc ls st σ, K pc ls st σ → mo_X g mt Q pc ls st σ) (hk : ∀ ls st σ, k ls st σ → mo_X g mt Q (pc + len) ls st σ) (h : mo_op g.2.2.2.2 mt.2.2.1 mt.2.2.2.1 cs K Q (pc, len, .arraylength, a, b, ci) k ls st σ) : mo_X g mt Q pc ls st σ := by
  simp only [mo_ck, Bool.and_eq_true] at hc
  simp only [mo_op] at h
  have hlen : len = 1 := Nat.eq_of_beq_eq_true hc
  subst hlen
  have h9 := mo_1r_of h
  clear h
  obtain ⟨o, w, r, rfl, h⟩ := h9
  intro p l e s m args below meth c cells slots QQ C H locs A hP hS hl
  obtain ⟨hx, hb, hml, hown, hw, hok, hcs, hret⟩ := id C
  cases hk0 : Nat.blt 0 (mo_kd o).1 && Nat.blt (mo_kd o).1 6 with
  | true =>
    rw [hk0] at h
    rw [Bool.and_eq_true] at hk0
    have e1 := Nat.le_of_ble_eq_true hk0.1
    have e2 := Nat.le_of_ble_eq_true hk0.2
    obtain ⟨hps, h⟩ := mo_in_of h
    obtain ⟨q0, hq0⟩ := mo_ps_ix hps
    have he := mo_wd_at g σ hq0
    have hkd : mo_kd o = ((mo_kd o).1, (mo_kd o).2) := rfl
    rcases (show (mo_kd o).1 = 1 ∨ (mo_kd o).1 = 2 ∨ (mo_kd o).1 = 3 ∨ (mo_kd o).1 = 4 ∨ (mo_kd o).1 = 5 by omega) with q | q | q | q | q
    · rw [q] at hkd
      rw [mo_cell_1 σ hkd] at he
      exact va_alen hx hb hok.1 hP q0 0 he rfl rfl hd (hk _ _ _ h p l e s m args below meth c cells slots QQ C H locs A hP hS hl)
    · rw [q] at hkd
      rw [mo_cell_2 σ hkd] at he
      exact va_alen hx hb hok.1 hP q0 1 he rfl rfl hd (hk _ _ _ h p l e s m args below meth c cells slots QQ C H locs A hP hS hl)
    · rw [q] at hkd
      rw [mo_cell_3 σ hkd] at he
      exact va_alen hx hb hok.1 hP q0 2 he rfl rfl hd (hk _ _ _ h p l e s m args below meth c cells slots QQ C H locs A hP hS hl)
    · rw [q] at hkd
      rw [mo_cell_4 σ hkd] at he
      exact va_alen hx hb hok.1 hP q0 3 he rfl rfl hd (hk _ _ _ h p l e s m args below meth c cells slots QQ C H locs A hP hS hl)
    · rw [q] at hkd
      rw [mo_cell_5 σ hkd] at he
      exact va_alen hx hb hok.1 hP q0 4 he rfl rfl hd (hk _ _ _ h p l e s m args below meth c cells slots QQ C H locs A hP hS hl)
  | false =>
    rw [hk0] at h
    obtain ⟨h1, h⟩ := mo_b_of h
    simp only [Bool.and_eq_true, Bool.or_eq_true] at h1
    have e0 := Nat.eq_of_beq_eq_true h1.1
    subst e0
    rcases h1.2.imp Nat.eq_of_beq_eq_true Nat.eq_of_beq_eq_true with q | q
    · subst q
      exact va_tlen hx hb hok.2.2.2.2.2.1 hS rfl hd (hk _ _ _ h p l e s m args below meth c cells slots QQ C H locs A hP hS hl)
    · subst q
      exact va_tlen hx hb hok.2.2.2.2.2.2.1 hS rfl hd (hk _ _ _ h p l e s m args below meth c cells slots QQ C H locs A hP hS hl)
set_option maxHeartbeats 4000000 in
theorem mo_o_ifCond {g : mo_E} {mt : mo_T} {Q : mo_Q} {cs : Nat → mo_C} {K : mo_K} {k : mo_k} {pc len a b : Nat} {ci : Int} {ls : mo_L} {st : List mo_V} {σ : mo_M} {cc : Jvm.ClassFile.Cond} {f : Int} (hd : decode mt.1 pc = .ok (.ifCond cc f, len)) (hc : mo_ck mt.2.1 (pc, len, .ifCond cc f, a, b, ci) = true) (hK : ∀ pc ls st σ, K pc ls st σ → mo_X g mt Q pc ls st σ) (hk : ∀ ls st σ, k ls st σ → mo_X g mt Q (pc + len) ls st σ) (h : mo_op g.2.2.2.2 mt.2.2.1 mt.2.2.2.1 cs K Q (pc, len, .ifCond cc f, a, b, ci) k ls st σ) : mo_X g mt Q pc ls st σ := by
  simp only [mo_ck, Bool.and_eq_true] at hc
  simp only [mo_op] at h
  have hlen : len = 3 := Nat.eq_of_beq_eq_true hc.1
  subst hlen
  have hf : (pc : Int) + f = (a : Int) := of_decide_eq_true hc.2
  have h9 := mo_1i_of h
  clear h
  obtain ⟨x, r, rfl, h⟩ := h9
  intro p l e s m args below meth c cells slots QQ C H locs A hP hS hl
  obtain ⟨hx, hb, hml, hown, hw, hok, hcs, hret⟩ := id C
  cases cc with
  | eq => exact lv_if_eq (tgt := a) hx hb hd hf (fun q => hK _ _ _ _ (h.1 q) p l e s m args below meth c cells slots QQ C H locs A hP hS hl) (fun q => hk _ _ _ (h.2 q) p l e s m args below meth c cells slots QQ C H locs A hP hS hl)
  | ne => exact lv_if_ne (tgt := a) hx hb hd hf (fun q => hK _ _ _ _ (h.1 q) p l e s m args below meth c cells slots QQ C H locs A hP hS hl) (fun q => hk _ _ _ (h.2 q) p l e s m args below meth c cells slots QQ C H locs A hP hS hl)
  | lt => exact lv_if_lt (tgt := a) hx hb hd hf (fun q => hK _ _ _ _ (h.1 q) p l e s m args below meth c cells slots QQ C H locs A hP hS hl) (fun q => hk _ _ _ (h.2 q) p l e s m args below meth c cells slots QQ C H locs A hP hS hl)
  | ge => exact lv_if_ge (tgt := a) hx hb hd hf (fun q => hK _ _ _ _ (h.1 q) p l e s m args below meth c cells slots QQ C H locs A hP hS hl) (fun q => hk _ _ _ (h.2 q) p l e s m args below meth c cells slots QQ C H locs A hP hS hl)
  | gt => exact lv_if_gt (tgt := a) hx hb hd hf (fun q => hK _ _ _ _ (h.1 q) p l e s m args below meth c cells slots QQ C H locs A hP hS hl) (fun q => hk _ _ _ (h.2 q) p l e s m args below meth c cells slots QQ C H locs A hP hS hl)
  | le => exact lv_if_le (tgt := a) hx hb hd hf (fun q => hK _ _ _ _ (h.1 q) p l e s m args below meth c cells slots QQ C H locs A hP hS hl) (fun q => hk _ _ _ (h.2 q) p l e s m args below meth c cells slots QQ C H locs A hP hS hl)
set_option maxHeartbeats 4000000 in
theorem mo_o_if_icmp {g : mo_E} {mt : mo_T} {Q : mo_Q} {cs : Nat → mo_C} {K : mo_K} {k : mo_k} {pc len a b : Nat} {ci : Int} {ls : mo_L} {st : List mo_V} {σ : mo_M} {cc : Jvm.ClassFile.Cond} {f : Int} (hd : decode mt.1 pc = .ok (.if_icmp cc f, len)) (hc : mo_ck mt.2.1 (pc, len, .if_icmp cc f, a, b, ci) = true) (hK : ∀ pc ls st σ, K pc ls st σ → mo_X g mt Q pc ls st σ) (hk : ∀ ls st σ, k ls st σ → mo_X g mt Q (pc + len) ls st σ) (h : mo_op g.2.2.2.2 mt.2.2.1 mt.2.2.2.1 cs K Q (pc, len, .if_icmp cc f, a, b, ci) k ls st σ) : mo_X g mt Q pc ls st σ := by
  simp only [mo_ck, Bool.and_eq_true] at hc
  simp only [mo_op] at h
  have hlen : len = 3 := Nat.eq_of_beq_eq_true hc.1
  subst hlen
  have hf : (pc : Int) + f = (a : Int) := of_decide_eq_true hc.2
  have h9 := mo_2i_of h
  clear h
  obtain ⟨x, y, r, rfl, h⟩ := h9
  intro p l e s m args below meth c cells slots QQ C H locs A hP hS hl
  obtain ⟨hx, hb, hml, hown, hw, hok, hcs, hret⟩ := id C
  cases cc with
  | eq => exact lv_icmp_eq (tgt := a) hx hb hd hf (fun q => hK _ _ _ _ (h.1 q) p l e s m args below meth c cells slots QQ C H locs A hP hS hl) (fun q => hk _ _ _ (h.2 q) p l e s m args below meth c cells slots QQ C H locs A hP hS hl)
  | ne => exact lv_icmp_ne (tgt := a) hx hb hd hf (fun q => hK _ _ _ _ (h.1 q) p l e s m args below meth c cells slots QQ C H locs A hP hS hl) (fun q => hk _ _ _ (h.2 q) p l e s m args below meth c cells slots QQ C H locs A hP hS hl)
  | lt => exact lv_icmp_lt (tgt := a) hx hb hd hf (fun q => hK _ _ _ _ (h.1 q) p l e s m args below meth c cells slots QQ C H locs A hP hS hl) (fun q => hk _ _ _ (h.2 q) p l e s m args below meth c cells slots QQ C H locs A hP hS hl)
  | ge => exact lv_icmp_ge (tgt := a) hx hb hd hf (fun q => hK _ _ _ _ (h.1 q) p l e s m args below meth c cells slots QQ C H locs A hP hS hl) (fun q => hk _ _ _ (h.2 q) p l e s m args below meth c cells slots QQ C H locs A hP hS hl)
  | gt => exact lv_icmp_gt (tgt := a) hx hb hd hf (fun q => hK _ _ _ _ (h.1 q) p l e s m args below meth c cells slots QQ C H locs A hP hS hl) (fun q => hk _ _ _ (h.2 q) p l e s m args below meth c cells slots QQ C H locs A hP hS hl)
  | le => exact lv_icmp_le (tgt := a) hx hb hd hf (fun q => hK _ _ _ _ (h.1 q) p l e s m args below meth c cells slots QQ C H locs A hP hS hl) (fun q => hk _ _ _ (h.2 q) p l e s m args below meth c cells slots QQ C H locs A hP hS hl)
set_option maxHeartbeats 4000000 in
theorem mo_o_goto {g : mo_E} {mt : mo_T} {Q : mo_Q} {cs : Nat → mo_C} {K : mo_K} {k : mo_k} {pc len a b : Nat} {ci : Int} {ls : mo_L} {st : List mo_V} {σ : mo_M} {f : Int} (hd : decode mt.1 pc = .ok (.goto f, len)) (hc : mo_ck mt.2.1 (pc, len, .goto f, a, b, ci) = true) (hK : ∀ pc ls st σ, K pc ls st σ → mo_X g mt Q pc ls st σ) (hk : ∀ ls st σ, k ls st σ → mo_X g mt Q (pc + len) ls st σ) (h : mo_op g.2.2.2.2 mt.2.2.1 mt.2.2.2.1 cs K Q (pc, len, .goto f, a, b, ci) k ls st σ) : mo_X g mt Q pc ls st σ := by
  simp only [mo_ck, Bool.and_eq_true] at hc
  simp only [mo_op] at h
  have hlen : len = 3 := Nat.eq_of_beq_eq_true hc.1
  subst hlen
  have hf : (pc : Int) + f = (a : Int) := of_decide_eq_true hc.2
  intro p l e s m args below meth c cells slots QQ C H locs A hP hS hl
  obtain ⟨hx, hb, hml, hown, hw, hok, hcs, hret⟩ := id C
  exact lv_goto (tgt := a) hx hb hd hf (hK _ _ _ _ h p l e s m args below meth c cells slots QQ C H locs A hP hS hl)
set_option maxHeartbeats 4000000 in
theorem mo_o_ireturn {g : mo_E} {mt : mo_T} {Q : mo_Q} {cs : Nat → mo_C} {K : mo_K} {k : mo_k} {pc len a b : Nat} {ci : Int} {ls : mo_L} {st : List mo_V} {σ : mo_M}  (hd : decode mt.1 pc = .ok (.ireturn, len)) (hc : mo_ck mt.2.1 (pc, len, .ireturn, a, b, ci) = true) (hK : ∀ pc ls st σ, K pc ls st σ → mo_X g mt Q pc ls st σ) (hk : ∀ ls st σ, k ls st σ → mo_X g mt Q (pc + len) ls st σ) (h : mo_op g.2.2.2.2 mt.2.2.1 mt.2.2.2.1 cs K Q (pc, len, .ireturn, a, b, ci) k ls st σ) : mo_X g mt Q pc ls st σ := by
  simp only [mo_ck, Bool.and_eq_true] at hc
  simp only [mo_op] at h
  have hlen : len = 1 := Nat.eq_of_beq_eq_true hc
  subst hlen
  split at h
  next v =>
    split at h
    next ert =>
      intro p l e s m args below meth c cells slots QQ C H locs A hP hS hl
      obtain ⟨hx, hb, hml, hown, hw, hok, hcs, hret⟩ := id C
      exact hret (some (.inl v)) σ H locs A pc h (Or.inl ert) hd hP hS
    next ert =>
      intro p l e s m args below meth c cells slots QQ C H locs A hP hS hl
      obtain ⟨hx, hb, hml, hown, hw, hok, hcs, hret⟩ := id C
      exact hret (some (.inl v)) σ H locs A pc h.2 (Or.inr ⟨ert, h.1⟩) hd hP hS
    next => exact h.elim
  next => exact h.elim
set_option maxHeartbeats 4000000 in
theorem mo_o_lreturn {g : mo_E} {mt : mo_T} {Q : mo_Q} {cs : Nat → mo_C} {K : mo_K} {k : mo_k} {pc len a b : Nat} {ci : Int} {ls : mo_L} {st : List mo_V} {σ : mo_M}  (hd : decode mt.1 pc = .ok (.lreturn, len)) (hc : mo_ck mt.2.1 (pc, len, .lreturn, a, b, ci) = true) (hK : ∀ pc ls st σ, K pc ls st σ → mo_X g mt Q pc ls st σ) (hk : ∀ ls st σ, k ls st σ → mo_X g mt Q (pc + len) ls st σ) (h : mo_op g.2.2.2.2 mt.2.2.1 mt.2.2.2.1 cs K Q (pc, len, .lreturn, a, b, ci) k ls st σ) : mo_X g mt Q pc ls st σ := by
  simp only [mo_ck, Bool.and_eq_true] at hc
  simp only [mo_op] at h
  have hlen : len = 1 := Nat.eq_of_beq_eq_true hc
  subst hlen
  split at h
  next v =>
    obtain ⟨ert, h⟩ := mo_b_of h
    have ert := Nat.eq_of_beq_eq_true ert
    intro p l e s m args below meth c cells slots QQ C H locs A hP hS hl
    obtain ⟨hx, hb, hml, hown, hw, hok, hcs, hret⟩ := id C
    exact hret (some (.inr (.inl v))) σ H locs A pc h ert hd hP hS
  next => exact h.elim
set_option maxHeartbeats 4000000 in
theorem mo_o_return_ {g : mo_E} {mt : mo_T} {Q : mo_Q} {cs : Nat → mo_C} {K : mo_K} {k : mo_k} {pc len a b : Nat} {ci : Int} {ls : mo_L} {st : List mo_V} {σ : mo_M}  (hd : decode mt.1 pc = .ok (.return_, len)) (hc : mo_ck mt.2.1 (pc, len, .return_, a, b, ci) = true) (hK : ∀ pc ls st σ, K pc ls st σ → mo_X g mt Q pc ls st σ) (hk : ∀ ls st σ, k ls st σ → mo_X g mt Q (pc + len) ls st σ) (h : mo_op g.2.2.2.2 mt.2.2.1 mt.2.2.2.1 cs K Q (pc, len, .return_, a, b, ci) k ls st σ) : mo_X g mt Q pc ls st σ := by
  simp only [mo_ck, Bool.and_eq_true] at hc
  simp only [mo_op] at h
  have hlen : len = 1 := Nat.eq_of_beq_eq_true hc
  subst hlen
  split at h
  next =>
    obtain ⟨ert, h⟩ := mo_b_of h
    have ert := Nat.eq_of_beq_eq_true ert
    intro p l e s m args below meth c cells slots QQ C H locs A hP hS hl
    obtain ⟨hx, hb, hml, hown, hw, hok, hcs, hret⟩ := id C
    exact hret none σ H locs A pc h ert hd hP hS
  next => exact h.elim
theorem mo_pop_of : ∀ (n : Nat) (st acc as r : List mo_V), mo_pop n st acc = some (as, r) → as.reverse ++ r = acc.reverse ++ st ∧ as.length = n + acc.length
  | 0, st, acc, as, r, h => by cases h; exact ⟨rfl, by omega⟩
  | n + 1, [], acc, as, r, h => by cases h
  | n + 1, v :: st, acc, as, r, h => by
    obtain ⟨h1, h2⟩ := mo_pop_of n st (v :: acc) as r h
    refine ⟨by rw [h1]; simp, by simp at h2; omega⟩
theorem mo_call_of {g : mo_E} {mt : mo_T} {Q : mo_Q} {C : mo_C} {pc : Nat} {k : mo_k} {ls : mo_L} {st : List mo_V} {σ : mo_M} (hk : ∀ ls st σ, k ls st σ → mo_X g mt Q (pc + 3) ls st σ) (hmon : ∀ (as : List mo_V) (σ : mo_M) (P P' : mo_Q), (∀ x τ, P x τ → P' x τ) → C.2.2.2.2 as σ P → C.2.2.2.2 as σ P') (h : mo_call C k ls st σ) : ∃ as r, st = as.reverse ++ r ∧ as.length = C.1 ∧ mo_cat r ≤ 8 ∧ ((C.2.1 && Nat.blt C.2.2.2.1 50) = true → ∃ (o w : Nat) (t : List mo_V), as = .inr (.inr (o, w)) :: t ∧ mo_isO o C.2.2.2.1 = true ∧ (o, w) ∈ mo_ps) ∧ C.2.2.2.2 as σ (fun x σ' => mo_X g mt Q (pc + 3) ls (mo_psh x r) σ') := by
  unfold mo_call at h
  split at h
  next as r e =>
    obtain ⟨h1, h2⟩ := mo_pop_of _ _ _ _ _ e
    obtain ⟨h3, h⟩ := mo_b_of h
    refine ⟨as, r, by rw [h1]; rfl, by simpa using h2, Nat.le_of_ble_eq_true h3, ?_⟩
    cases hv : (C.2.1 && Nat.blt C.2.2.2.1 50) with
    | false =>
      rw [hv] at h
      exact ⟨fun q => (by cases q), hmon _ _ _ _ (fun x τ q => hk _ _ _ q) h⟩
    | true =>
      rw [hv] at h
      have h9 := mo_1r_of h
      clear h
      obtain ⟨o, w, t, rfl, h⟩ := h9
      obtain ⟨h4, h⟩ := mo_b_of h
      obtain ⟨h5, h⟩ := mo_in_of h
      exact ⟨fun _ => ⟨o, w, t, rfl, h4, h5⟩, hmon _ _ _ _ (fun x τ q => hk _ _ _ q) h⟩
  next => exact h.elim
def mo_mon (C : mo_C) : Prop := ∀ (as : List mo_V) (σ : mo_M) (P P' : mo_Q), (∀ x τ, P x τ → P' x τ) → C.2.2.2.2 as σ P → C.2.2.2.2 as σ P' 
set_option maxHeartbeats 4000000 in
theorem mo_op_ok {g : mo_E} {mt : mo_T} {Q : mo_Q} {cs : Nat → mo_C} {K : mo_K} {k : mo_k} {ls : mo_L} {st : List mo_V} {σ : mo_M} (q : mo_I) (hd : decode mt.1 q.1 = .ok (q.2.2.1, q.2.1)) (hc : mo_ck mt.2.1 q = true) (hcs : ∀ j, mo_cok g mt (cs j) ∧ mo_mon (cs j)) (hK : ∀ pc ls st σ, K pc ls st σ → mo_X g mt Q pc ls st σ) (hk : ∀ ls st σ, k ls st σ → mo_X g mt Q (q.1 + q.2.1) ls st σ) (h : mo_op g.2.2.2.2 mt.2.2.1 mt.2.2.2.1 cs K Q q k ls st σ) : mo_X g mt Q q.1 ls st σ := by
  obtain ⟨pc, len, ins, a, b, ci⟩ := q
  dsimp only at hd hcs hk ⊢
  cases ins with
  | iconst n => exact mo_o_iconst hd hc hK hk h
  | bipush n => exact mo_o_bipush hd hc hK hk h
  | sipush n => exact mo_o_sipush hd hc hK hk h
  | lconst n => exact mo_o_lconst hd hc hK hk h
  | ldc i => exact mo_o_ldc hd hc hK hk h
  | ldc_w i => exact mo_o_ldc_w hd hc hK hk h
  | ldc2_w i => exact mo_o_ldc2_w hd hc hK hk h
  | iload i => exact mo_o_iload hd hc hK hk h
  | iload_n i => exact mo_o_iload_n hd hc hK hk h
  | lload i => exact mo_o_lload hd hc hK hk h
  | lload_n i => exact mo_o_lload_n hd hc hK hk h
  | aload i => exact mo_o_aload hd hc hK hk h
  | aload_n i => exact mo_o_aload_n hd hc hK hk h
  | istore i => exact mo_o_istore hd hc hK hk h
  | istore_n i => exact mo_o_istore_n hd hc hK hk h
  | lstore i => exact mo_o_lstore hd hc hK hk h
  | lstore_n i => exact mo_o_lstore_n hd hc hK hk h
  | astore i => exact mo_o_astore hd hc hK hk h
  | astore_n i => exact mo_o_astore_n hd hc hK hk h
  | iinc i n => exact mo_o_iinc hd hc hK hk h
  | iadd => exact mo_o_iadd hd hc hK hk h
  | isub => exact mo_o_isub hd hc hK hk h
  | imul => exact mo_o_imul hd hc hK hk h
  | iand => exact mo_o_iand hd hc hK hk h
  | ior => exact mo_o_ior hd hc hK hk h
  | ixor => exact mo_o_ixor hd hc hK hk h
  | ishl => exact mo_o_ishl hd hc hK hk h
  | ishr => exact mo_o_ishr hd hc hK hk h
  | idiv => exact mo_o_idiv hd hc hK hk h
  | irem => exact mo_o_irem hd hc hK hk h
  | iushr => exact mo_o_iushr hd hc hK hk h
  | ineg => exact mo_o_ineg hd hc hK hk h
  | ladd => exact mo_o_ladd hd hc hK hk h
  | land => exact mo_o_land hd hc hK hk h
  | lor => exact mo_o_lor hd hc hK hk h
  | lxor => exact mo_o_lxor hd hc hK hk h
  | lshl => exact mo_o_lshl hd hc hK hk h
  | lshr => exact mo_o_lshr hd hc hK hk h
  | lushr => exact mo_o_lushr hd hc hK hk h
  | lcmp => exact mo_o_lcmp hd hc hK hk h
  | i2l => exact mo_o_i2l hd hc hK hk h
  | i2b => exact mo_o_i2b hd hc hK hk h
  | l2i => exact mo_o_l2i hd hc hK hk h
  | dup => exact mo_o_dup hd hc hK hk h
  | pop => exact mo_o_pop hd hc hK hk h
  | dup2 => exact mo_o_dup2 hd hc hK hk h
  | getfield i => exact mo_o_getfield hd hc hK hk h
  | putfield i => exact mo_o_putfield hd hc hK hk h
  | getstatic i => exact mo_o_getstatic hd hc hK hk h
  | iaload => exact mo_o_iaload hd hc hK hk h
  | baload => exact mo_o_baload hd hc hK hk h
  | laload => exact mo_o_laload hd hc hK hk h
  | aaload => exact mo_o_aaload hd hc hK hk h
  | iastore => exact mo_o_iastore hd hc hK hk h
  | lastore => exact mo_o_lastore hd hc hK hk h
  | bastore => exact mo_o_bastore hd hc hK hk h
  | arraylength => exact mo_o_arraylength hd hc hK hk h
  | ifCond cc f => exact mo_o_ifCond hd hc hK hk h
  | if_icmp cc f => exact mo_o_if_icmp hd hc hK hk h
  | goto f => exact mo_o_goto hd hc hK hk h
  | ireturn => exact mo_o_ireturn hd hc hK hk h
  | lreturn => exact mo_o_lreturn hd hc hK hk h
  | return_ => exact mo_o_return_ hd hc hK hk h
  | tableswitch d lo hi offs =>
    simp only [mo_op] at h
    have h9 := mo_1i_of h
    clear h
    obtain ⟨x, r, rfl, h⟩ := h9
    simp only [mo_ck, decide_eq_true_eq] at hc
    obtain ⟨hc1, hc2, hc3⟩ := hc
    intro p l e s m args below meth c cells slots QQ C H locs A hP hS hl
    obtain ⟨hx, hb, hml, hown, hw, hok, hcs, hret⟩ := id C
    by_cases hout : x.toInt < lo ∨ hi < x.toInt
    · refine lv_tableOut (tgt := ((pc : Int) + d).toNat) hx hb hd hout (by omega) (hK _ _ _ _ (h _ ?_) p l e s m args below meth c cells slots QQ C H locs A hP hS hl)
      unfold mo_sw
      rw [if_pos hout]
      omega
    · have hi2 : (x.toInt - lo).toNat < offs.size := by omega
      have ho : offs[(x.toInt - lo).toNat]? = some offs[(x.toInt - lo).toNat] := Array.getElem?_eq_getElem hi2
      have hn : 0 ≤ (pc : Int) + offs[(x.toInt - lo).toNat] := hc3 _ (by rw [Array.mem_toList_iff]; exact Array.getElem_mem hi2)
      refine lv_tableIn (tgt := ((pc : Int) + offs[(x.toInt - lo).toNat]).toNat) hx hb hd (fun q => hout (Or.inl q)) (fun q => hout (Or.inr q)) ho (by omega) (hK _ _ _ _ (h _ ?_) p l e s m args below meth c cells slots QQ C H locs A hP hS hl)
      unfold mo_sw
      rw [if_neg hout, ho]
      show (pc : Int) + offs[(x.toInt - lo).toNat] = _
      omega
  | invokevirtual i =>
    simp only [mo_op] at h
    simp only [mo_ck] at hc
    have hlen : len = 3 := Nat.eq_of_beq_eq_true hc
    subst hlen
    obtain ⟨hv, h⟩ := mo_b_of h
    rw [Bool.and_eq_true] at hv
    have e := Nat.eq_of_beq_eq_true hv.2
    obtain ⟨h1, h2⟩ := hcs a
    obtain ⟨as, r, rfl, h3, h4, h5, h6⟩ := mo_call_of hk h2 h
    exact h1 pc (by rw [hv.1, e]; exact hd) Q ls as r σ h3 h4 h5 h6
  | invokestatic i =>
    simp only [mo_op] at h
    simp only [mo_ck] at hc
    have hlen : len = 3 := Nat.eq_of_beq_eq_true hc
    subst hlen
    obtain ⟨hv, h⟩ := mo_b_of h
    rw [Bool.and_eq_true] at hv
    have e := Nat.eq_of_beq_eq_true hv.2
    have e2 : (cs a).2.1 = false := by simpa using hv.1
    obtain ⟨h1, h2⟩ := hcs a
    obtain ⟨as, r, rfl, h3, h4, h5, h6⟩ := mo_call_of hk h2 h
    exact h1 pc (by rw [e2, e]; exact hd) Q ls as r σ h3 h4 h5 h6
  | _ => exact h.elim
/-- a row of instructions that follow each other -/
def mo_chain : Nat → List mo_I → Bool
  | _, [] => true
  | pc, q :: r => Nat.beq pc q.1 && mo_chain (q.1 + q.2.1) r
def mo_good (mt : mo_T) (is : List mo_I) : Bool := is.all fun q => decide (decode mt.1 q.1 = .ok (q.2.2.1, q.2.1)) && mo_ck mt.2.1 q
theorem mo_run {g : mo_E} {mt : mo_T} {Q : mo_Q} {cs : Nat → mo_C} {K : mo_K} (hK : ∀ pc ls st σ, K pc ls st σ → mo_X g mt Q pc ls st σ) : ∀ (is : List mo_I) (pc : Nat), mo_chain pc is = true → mo_good mt is = true → (∀ j, mo_cok g mt (cs j) ∧ mo_mon (cs j)) → ∀ ls st σ, mo_am g.2.2.2.2 mt.2.2.1 mt.2.2.2.1 cs K Q is pc ls st σ → mo_X g mt Q pc ls st σ
  | [], pc, _, _, _, ls, st, σ, h => hK pc ls st σ h
  | q :: r, pc, h1, h2, h3, ls, st, σ, h => by
    unfold mo_chain at h1
    rw [Bool.and_eq_true] at h1
    have e := Nat.eq_of_beq_eq_true h1.1
    subst e
    unfold mo_good at h2
    rw [List.all_cons, Bool.and_eq_true, Bool.and_eq_true] at h2
    exact mo_op_ok q (of_decide_eq_true h2.1.1) h2.1.2 h3 hK (mo_run hK r _ h1.2 h2.2 h3) h
end
section
/-! contracts in the words of the picture -/
def mo_rty : Nat → Option FieldType
  | 0 => none
  | 1 => some .int
  | 2 => some .long
  | _ => some .boolean
def mo_wsm (y : MethodName) (mt : mo_T) : List Cond := .code y mt.1 mt.2.2.1 (mo_rty mt.2.2.2.1) :: mo_gw
def mo_Pc (g : mo_E) (as : List mo_V) (σ : mo_M) : Array Value → State → Prop := va_Pc (as.map (mo_cv g.2.2.1)) (fun U => mo_ok g U ∧ va_P g.1 vwCl (mo_wd g σ) U.heap)
def mo_Qc (g : mo_E) (Q : mo_Q) : Array Value → State → Outcome → State → Prop := fun _ st oc t => (∃ (r : Option mo_V) (σ : mo_M), oc = .returned (r.map (mo_cv g.2.2.1)) ∧ Q r σ ∧ va_P g.1 vwCl (mo_wd g σ) t.heap) ∧ va_F g.2.2.2.1 st t
def mo_ct (y : MethodName) (mt : mo_T) (S : mo_S) : Prop := ∀ (g : mo_E) (l : Launch) (as : List mo_V) (σ : mo_M) (Q : mo_Q), S as σ Q → Met l y (mo_wsm y mt) mt.2.2.2.2 (mo_Pc g as σ) (mo_Qc g Q) 0 0 g.2.2.2.1
def mo_es : List mo_V → mo_L
  | [] => []
  | .inr (.inl x) :: r => some (.inr (.inl x)) :: none :: mo_es r
  | v :: r => some v :: mo_es r
def mo_pad : Nat → mo_L → mo_L
  | 0, l => l
  | n + 1, [] => none :: mo_pad n []
  | n + 1, a :: l => a :: mo_pad n l
theorem mo_lk_pad : ∀ (n : Nat) (l : mo_L) (j : Nat), mo_lk (mo_pad n l) j = mo_lk l j
  | 0, l, j => rfl
  | n + 1, [], 0 => rfl
  | n + 1, [], j + 1 => by rw [mo_pad]; exact (mo_lk_pad n [] j).trans rfl
  | n + 1, a :: l, 0 => rfl
  | n + 1, a :: l, j + 1 => mo_lk_pad n l j
theorem mo_es_in (ad : Nat → Nat → Nat) : ∀ (as : List mo_V) (i j : Nat) (v : mo_V), mo_lk (mo_es as) j = some v → (i + j, mo_cv ad v) ∈ lv_args i (as.map (mo_cv ad))
  | [], i, j, v, h => by cases h
  | .inr (.inl x) :: r, i, j, v, h => by
    rw [List.map_cons, lv_args]
    match j with
    | 0 => cases h; exact List.mem_cons_self
    | 1 => cases h
    | j + 2 =>
      refine List.mem_cons_of_mem _ ?_
      rw [if_pos (by rw [mo_cv_cat]; rfl), show i + (j + 2) = i + 2 + j by omega]
      exact mo_es_in ad r (i + 2) j v h
  | .inl x :: r, i, j, v, h => by
    rw [List.map_cons, lv_args]
    match j with
    | 0 => cases h; exact List.mem_cons_self
    | j + 1 =>
      refine List.mem_cons_of_mem _ ?_
      rw [if_neg (by rw [mo_cv_cat]; simp [mo_wide]), show i + (j + 1) = i + 1 + j by omega]
      exact mo_es_in ad r (i + 1) j v h
  | .inr (.inr q) :: r, i, j, v, h => by
    rw [List.map_cons, lv_args]
    match j with
    | 0 => cases h; exact List.mem_cons_self
    | j + 1 =>
      refine List.mem_cons_of_mem _ ?_
      rw [if_neg (by rw [mo_cv_cat]; simp [mo_wide]), show i + (j + 1) = i + 1 + j by omega]
      exact mo_es_in ad r (i + 1) j v h
theorem mo_es_len (ad : Nat → Nat → Nat) : ∀ as : List mo_V, (lg_sl (as.map (mo_cv ad))).length = (mo_es as).length
  | [] => rfl
  | .inr (.inl x) :: r => by
    have h := mo_es_len ad r
    simp only [lg_sl, List.map_cons, List.flatMap_cons, List.length_append, mo_es, List.length_cons] at h ⊢
    rw [h, if_pos (by rw [mo_cv_cat]; rfl)]
    simp; omega
  | .inl x :: r => by
    have h := mo_es_len ad r
    simp only [lg_sl, List.map_cons, List.flatMap_cons, List.length_append, mo_es, List.length_cons] at h ⊢
    rw [h, if_neg (by rw [mo_cv_cat]; simp [mo_wide])]
    simp; omega
  | .inr (.inr q) :: r => by
    have h := mo_es_len ad r
    simp only [lg_sl, List.map_cons, List.flatMap_cons, List.length_append, mo_es, List.length_cons] at h ⊢
    rw [h, if_neg (by rw [mo_cv_cat]; simp [mo_wide])]
    simp; omega
set_option maxHeartbeats 4000000 in
/-- a contract out of a walk of the small machine -/
theorem mo_ct_of {y : MethodName} {mt : mo_T} {S : mo_S} (hy : plainName y.cls = true) (hc : y.cls = mt.2.1) (h : ∀ (g : mo_E) (as : List mo_V) (σ : mo_M) (Q : mo_Q), S as σ Q → (mo_es as).length ≤ mt.2.2.1 ∧ mo_X g mt Q 0 (mo_pad mt.2.2.1 (mo_es as)) [] σ) : mo_ct y mt S := by
  intro g l as σ Q hS
  obtain ⟨hlen, hX⟩ := h g as σ Q hS
  refine Met.ofW (cc := mt.1) (maxL := mt.2.2.1) (ret := mo_rty mt.2.2.2.1) hy rfl ?_
  intro p e s m args below meth c s₁ B hml hv
  obtain ⟨rfl, hok, hP⟩ := hv
  have hx := B.exec
  have hb := B.bytes
  have hr := B.returns
  have hts := atoms_spec (ws := mo_wsm y mt) B.pre
  have hown : s.vm.findClass mt.2.1 = some m.cls := by rw [← hc]; exact findClass_of_methodNamed B.named
  have hlocks := B.notSynchronized
  rw [lg_entry_eq]
  have hl := lv_entry (as.map (mo_cv g.2.2.1)) (n := mt.2.2.1) (by rw [mo_es_len]; exact hlen)
  have hl2 : lv_has ((lg_sl (as.map (mo_cv g.2.2.1)) ++ List.replicate (mt.2.2.1 - (lg_sl (as.map (mo_cv g.2.2.1))).length) Slot.unset).toArray) mt.2.2.1 (mo_lp g.2.2.1 0 (mo_pad mt.2.2.1 (mo_es as))) := by
    refine ⟨hl.1, hl.2.1, fun q hq => hl.2.2 q ?_⟩
    obtain ⟨j, v, hj, rfl⟩ := (mo_lp_mem g.2.2.1 _ 0 q).mp hq
    rw [mo_lk_pad] at hj
    exact mo_es_in g.2.2.1 as 0 j v hj
  refine hX p l e s m _ below meth c 0 0 _ ⟨hx, hb, hml, hown, fun w hw => hts w (List.mem_cons_of_mem _ hw), hok, ⟨Nat.zero_le _, Nat.zero_le _⟩, ?_⟩ s.heap [] _ hP va_S.rf hl2
  intro r σ' H locs ls pc hq hro hd hP' hS'
  have hQ : ∀ t : State, t.heap = H → s.WarmedH t.vm → mo_Qc g Q (as.map (mo_cv g.2.2.1)).toArray s (.returned (r.map (mo_cv g.2.2.1))) t := fun t ht _ => ⟨⟨r, σ', rfl, hq, by rw [ht]; exact hP'⟩, hS'.F ht⟩
  match r, hro with
  | none, hro =>
    exact W.vret hx hb (by rw [hr]; show mo_rty mt.2.2.2.1 = _; rw [show mt.2.2.2.1 = 0 from hro]; rfl) hQ hS'.2.2 hd
  | some (.inl v), Or.inl hro =>
    exact W.iret hx hb (by rw [hr]; show mo_rty mt.2.2.2.1 = _; rw [hro]; rfl) hQ hS'.2.2 hd
  | some (.inl v), Or.inr hro =>
    exact W.zret (ty := .boolean) hx hb (by rw [hr]; show mo_rty mt.2.2.2.1 = _; rw [hro.1]; rfl) (by rcases hro.2 with rfl | rfl <;> rfl) hQ hS'.2.2 hd
  | some (.inr (.inl v)), hro =>
    exact W.lret hx hb (by rw [hr]; show mo_rty mt.2.2.2.1 = _; rw [show mt.2.2.2.1 = 2 from hro]; rfl) hQ hS'.2.2 hd
/-! calls -/
theorem mo_blind (g : mo_E) (as : List mo_V) (σ : mo_M) : FrameBlind (mo_Pc g as σ) := by
  intro a U fr mk h
  obtain ⟨h0, ⟨h1, h2, h3, h4, h5⟩, hP⟩ := h
  refine ⟨h0, ⟨va_K.moved (u := U) (U := U.calling fr mk a) (Vm.Alike.refl U.vm) h1, h2, h3, fun w hw => ?_, ?_⟩, hP⟩
  · have hz := h4 w hw
    have ht : w.onTables = true := by
      simp only [mo_nw, List.mem_cons, List.not_mem_nil, or_false] at hw
      rcases hw with rfl | rfl | rfl | rfl | rfl | rfl | rfl <;> rfl
    exact va_Nw.same ht (u := U) (U := U.calling fr mk a) rfl hz
  · obtain ⟨q1, q2, q3, q4, ⟨v, q5⟩, q6, q7⟩ := h5
    exact ⟨va_Z.moved (U := U.calling fr mk a) (Vm.Alike.refl U.vm) q1, va_T.moved (U := U.calling fr mk a) (Vm.Alike.refl U.vm) q2, va_T.moved (U := U.calling fr mk a) (Vm.Alike.refl U.vm) q3, fun x hx => vk_R.same rfl (q4 x hx), ⟨v, vk_S.moved (U := U.calling fr mk a) (Vm.Alike.refl U.vm) q5⟩, va_Z.moved (U := U.calling fr mk a) (Vm.Alike.refl U.vm) q6, va_Zq.moved (U := U.calling fr mk a) (Vm.Alike.refl U.vm) q7⟩
set_option maxHeartbeats 4000000 in
/-- behind a call -/
theorem mo_back {g : mo_E} {mt : mo_T} {Q Q' : mo_Q} {p : Program} {l : Launch} {e : Env} {s : State} {m : MethodId} {args : Array Value} {below : List Frame} {meth : Method} {c : Code} {cells slots : Nat} {QQ : State → Prop} {H : Heap} {locs : List Loc} {pc : Nat} {A : Array Slot} {ls : mo_L} {rest : List mo_V} {st0 : List Value} {a : Array Value} (C : mo_cx g mt Q p l e s m args below meth c cells slots QQ)
    (hr : va_Run p l e mt.2.2.2.2 s m args below meth c H locs cells slots 0 0 (F0 m pc A st0) (rest.map (mo_cv g.2.2.1)) (mo_Qc g Q' a) g.2.2.2.1) (hS : va_S g.2.2.2.1 s.heap H locs) (hl : lv_has A mt.2.2.1 (mo_lp g.2.2.1 0 ls))
    (kk : ∀ (x : Option mo_V) (σ' : mo_M), Q' x σ' → mo_X g mt Q (pc + 3) ls (mo_psh x rest) σ') : W p l e mt.2.2.2.2 s m args below meth c H locs cells slots QQ (F0 m pc A st0) := by
  intro T hT X
  obtain ⟨v, st₀, t, T', L, h0, X', hL, e1, e2, ⟨⟨r, σ', hv, hq, hP⟩, hz, hk⟩, st⟩ := hr T hT X
  cases hv
  rw [h0] at hz hk
  have hS2 : va_S g.2.2.2.1 s.heap T'.heap (locs ++ L) := ⟨Nat.le_trans hS.1 (by rw [e1]; exact hz), fun q h1 h2 => by rw [e1, hk q (Nat.lt_of_lt_of_le h1 hS.1) h2]; exact hS.2.1 q h1 h2, fun q hq => by
      rcases List.mem_append.mp hq with h | h
      · exact hS.2.2 q h
      · exact hL q h⟩
  obtain ⟨t2, a1, b1⟩ := kk r σ' hq p l e s m args below meth c cells slots QQ C T'.heap (locs ++ L) A (by rw [e1]; exact hP) hS2 hl T' rfl X'
  refine ⟨t2, st t2 ?_, b1⟩
  have hst : (mo_psh r rest).map (mo_cv g.2.2.1) = (r.map (mo_cv g.2.2.1)).toList ++ rest.map (mo_cv g.2.2.1) := by cases r <;> rfl
  rw [hst] at a1
  exact a1
theorem mo_catv (ad : Nat → Nat → Nat) : ∀ r : List mo_V, ((r.map (mo_cv ad)).map fun v => v.category).sum = mo_cat r
  | [] => rfl
  | .inl x :: r => by rw [List.map_cons, List.map_cons, List.sum_cons, mo_catv ad r, mo_cv_cat]; simp [mo_wide, mo_cat]; omega
  | .inr (.inl x) :: r => by rw [List.map_cons, List.map_cons, List.sum_cons, mo_catv ad r, mo_cv_cat]; simp [mo_wide, mo_cat]; omega
  | .inr (.inr q) :: r => by rw [List.map_cons, List.map_cons, List.sum_cons, mo_catv ad r, mo_cv_cat]; simp [mo_wide, mo_cat]; omega
theorem mo_gi {c : List Cond} (h : ∀ w ∈ c, w ∈ mo_gw) : GoodIn mo_gw c := fun w hw => ⟨h w hw, good_of_word (mo_gw_good (h w hw))⟩
/-- what a caller must know of a callee, all of it decided: words, name, room -/
def mo_lkB (own : String) (R : Room) (y : MethodName) (mz : mo_T) (n : Nat) (ws : List Cond) : Bool :=
  ((Cond.code y mz.1 mz.2.2.1 (mo_rty mz.2.2.2.1) :: Cond.initialized y.cls :: ws).all mo_gB && decide (y.cls ≠ "java/lang/invoke/MethodHandle" ∧ y.cls ≠ "java/lang/invoke/VarHandle" ∧ (parseMethodDescriptor y.desc).map (fun d => d.parameters.length) = some n)) && decide (mz.2.2.2.2.cells = 0 ∧ mz.2.2.2.2.slots = 0 ∧ mz.2.2.2.2.frames + 1 ≤ R.frames ∧ 8 + (mz.2.2.1 + 11) + mz.2.2.2.2.locals ≤ R.locals)
theorem mo_lkB_of {own : String} {R : Room} {y : MethodName} {mz : mo_T} {n : Nat} {ws : List Cond} (h : mo_lkB own R y mz n ws = true) : (∀ w ∈ mo_wsm y mz, w ∈ mo_gw) ∧ Cond.initialized y.cls ∈ mo_gw ∧ (∀ w ∈ ws, w ∈ mo_gw) ∧ (y.cls ≠ "java/lang/invoke/MethodHandle" ∧ y.cls ≠ "java/lang/invoke/VarHandle" ∧ (parseMethodDescriptor y.desc).map (fun d => d.parameters.length) = some n) ∧ mz.2.2.2.2.cells = 0 ∧ mz.2.2.2.2.slots = 0 ∧ mz.2.2.2.2.frames + 1 ≤ R.frames ∧ 8 + (mz.2.2.1 + 11) + mz.2.2.2.2.locals ≤ R.locals := by
  unfold mo_lkB at h
  simp only [Bool.and_eq_true, decide_eq_true_eq] at h
  obtain ⟨⟨h1, h2⟩, h3⟩ := h
  have h1 := List.all_eq_true.mp h1
  refine ⟨fun w hw => ?_, mo_gB_of (h1 _ (by simp)), fun w hw => mo_gB_of (h1 w (by simp [hw])), h2, h3⟩
  rcases List.mem_cons.mp hw with rfl | hw
  · exact mo_gB_of (h1 _ (by simp))
  · exact hw
set_option maxHeartbeats 4000000 in
/-- a call of a method of the picture's own classes, by its receiver -/
theorem mo_cokV {g : mo_E} {mt mz : mo_T} {y : MethodName} {S : mo_S} {n i ci : Nat} (hct : mo_ct y mz S) (hci : ci < 13) (hcl : ∃ T N, vwCl[ci]? = some (y.cls, T, N)) (h : mo_lkB mt.2.1 mt.2.2.2.2 y mz n [.methodLink mt.2.1 i y, .instanceMethod y, .selects y.cls y y] = true) : mo_cok g mt (n + 1, true, i, ci, S) := by
  intro pc hd Q ls as rest σ hn hcat hrc hsp
  obtain ⟨h1, h2, h3, h4, h5, h6, h7, h8⟩ := mo_lkB_of h
  obtain ⟨o, w, r, rfl, ho, hps⟩ := hrc (by simp only [Bool.true_and]; exact Nat.ble_eq.mpr (by omega))
  intro p l e s m args below meth c cells slots QQ C H locs A hP hS hl
  obtain ⟨hx, hb, hml, hown, hw, hok, hcs, hret⟩ := id C
  obtain ⟨T, N, hT⟩ := hcl
  obtain ⟨q0, hq0⟩ := mo_ps_ix hps
  have he := mo_wd_at g σ hq0
  rw [mo_cell_o σ (mo_isO_of ho)] at he
  have hrv := va_recv hok.1 hP hT he
  have hcb : CallB mt.2.2.2.2 s args mt.2.1 i y mz.1 mz.2.2.1 (mo_rty mz.2.2.2.1) (mo_wsm y mz) mz.2.2.2.2 0 0 n :=
    callB_of n hw (mo_gi h1) rfl h5 h6 (hw _ h2) (hw _ (h3 _ (by simp))) h4 ⟨h7, h8⟩
  rw [List.map_append]
  refine mo_back (rest := rest) (a := (Value.ref (g.2.2.1 o w) :: r.map (mo_cv g.2.2.1)).toArray) C ?_ hS hl (fun x σ' q => q)
  refine va_runV (C := y.cls) (b := g.2.2.1 o w) (As := r.map (mo_cv g.2.2.1)) (Ts := mo_gw) ⟨hx, hb, hml, hown, hw⟩ (hct g l _ σ _ hsp) ⟨hcb, hw _ (h3 _ (by simp)), hw _ (h3 _ (by simp))⟩ ⟨mo_blind g _ σ, hrv, fun U hU hW => ⟨rfl, mo_ok_moved hW (fun a h1 h2 => by rw [hU]; exact hS.2.1 a h1 h2) hok, by rw [hU]; exact hP⟩⟩ rfl ?_ hl.1 ?_ (lv_room (by rw [mo_catv]; exact hcat)) hd ⟨by simpa using hcs.1, by simpa using hcs.2⟩
  · simp at hn ⊢; omega
  · simp [mo_cv]
set_option maxHeartbeats 4000000 in
/-- a call of a static method -/
theorem mo_cokS {g : mo_E} {mt mz : mo_T} {y : MethodName} {S : mo_S} {n i : Nat} (hct : mo_ct y mz S) (h : mo_lkB mt.2.1 mt.2.2.2.2 y mz n [.methodLink mt.2.1 i y, .static y] = true) : mo_cok g mt (n, false, i, 50, S) := by
  intro pc hd Q ls as rest σ hn hcat hrc hsp
  obtain ⟨h1, h2, h3, h4, h5, h6, h7, h8⟩ := mo_lkB_of h
  intro p l e s m args below meth c cells slots QQ C H locs A hP hS hl
  obtain ⟨hx, hb, hml, hown, hw, hok, hcs, hret⟩ := id C
  have hcb : CallB mt.2.2.2.2 s args mt.2.1 i y mz.1 mz.2.2.1 (mo_rty mz.2.2.2.1) (mo_wsm y mz) mz.2.2.2.2 0 0 n :=
    callB_of n hw (mo_gi h1) rfl h5 h6 (hw _ h2) (hw _ (h3 _ (by simp))) h4 ⟨h7, h8⟩
  rw [List.map_append]
  refine mo_back (rest := rest) (a := (as.map (mo_cv g.2.2.1)).toArray) C ?_ hS hl (fun x σ' q => q)
  refine va_runS (As := as.map (mo_cv g.2.2.1)) (Ts := mo_gw) ⟨hx, hb, hml, hown, hw⟩ (hct g l _ σ _ hsp) ⟨hcb, hw _ (h3 _ (by simp))⟩ ⟨mo_blind g _ σ, fun U hU hW => ⟨rfl, mo_ok_moved hW (fun a h1 h2 => by rw [hU]; exact hS.2.1 a h1 h2) hok, by rw [hU]; exact hP⟩⟩ rfl ?_ hl.1 ?_ (lv_room (by rw [mo_catv]; exact hcat)) hd ⟨by simpa using hcs.1, by simpa using hcs.2⟩
  · simp at hn ⊢; omega
  · simp
set_option maxHeartbeats 4000000 in
/-- a call of a private static method of the host -/
theorem mo_cokN {g : mo_E} {mt mz : mo_T} {y : MethodName} {S : mo_S} {n i : Nat} (hct : mo_ct y mz S) (hnw : Cond.methodLinkNest mt.2.1 i y RX11 ∈ mo_nw) (h : mo_lkB mt.2.1 mt.2.2.2.2 y mz n [.static y] = true) : mo_cok g mt (n, false, i, 50, S) := by
  intro pc hd Q ls as rest σ hn hcat hrc hsp
  obtain ⟨h1, h2, h3, h4, h5, h6, h7, h8⟩ := mo_lkB_of h
  intro p l e s m args below meth c cells slots QQ C H locs A hP hS hl
  obtain ⟨hx, hb, hml, hown, hw, hok, hcs, hret⟩ := id C
  have hcb : va_CN mt.2.2.2.2 s args mt.2.1 i y RX11 mz.1 mz.2.2.1 (mo_rty mz.2.2.2.1) (mo_wsm y mz) mz.2.2.2.2 0 0 n :=
    va_cnB n hw (mo_gi h1) rfl h5 h6 (hok.2.2.2.1 _ hnw) (hw _ h2) h4 ⟨h7, h8⟩
  rw [List.map_append]
  refine mo_back (rest := rest) (a := (as.map (mo_cv g.2.2.1)).toArray) C ?_ hS hl (fun x σ' q => q)
  refine va_runSN (As := as.map (mo_cv g.2.2.1)) (Ts := mo_gw) ⟨hx, hb, hml, hown, hw⟩ (hct g l _ σ _ hsp) ⟨hcb, hw _ (h3 _ (by simp)), trivial⟩ ⟨mo_blind g _ σ, fun U hU hW => ⟨rfl, mo_ok_moved hW (fun a h1 h2 => by rw [hU]; exact hS.2.1 a h1 h2) hok, by rw [hU]; exact hP⟩⟩ rfl ?_ hl.1 ?_ (lv_room (by rw [mo_catv]; exact hcat)) hd ⟨by simpa using hcs.1, by simpa using hcs.2⟩
  · simp at hn ⊢; omega
  · simp
/-- the callee that nobody calls -/
theorem mo_cok0 (g : mo_E) (mt : mo_T) : mo_cok g mt (0, false, 0, 50, fun _ _ _ => False) := fun _ _ _ _ _ _ _ _ _ _ h => h.elim
theorem mo_mon0 : mo_mon (0, false, 0, 50, fun _ _ _ => False) := fun _ _ _ _ _ h => h
end
section
def p_X0_settle : List mo_I := [(0, 1, .iconst (0), 0, 0, 0), (1, 2, .istore 4, 4, 0, 0), (3, 2, .iload 4, 4, 0, 0), (5, 2, .bipush (30), 0, 0, 30), (7, 3, .if_icmp .ge (20), 27, 0, 0), (10, 1, .aload_n 0, 0, 0, 0), (11, 3, .getfield 9, 0, 0, 0), (14, 2, .iload 4, 4, 0, 0), (16, 1, .iconst (1), 0, 0, 1), (17, 2, .iload 4, 4, 0, 0), (19, 1, .ishl, 0, 0, 0), (20, 1, .iastore, 0, 0, 0), (21, 3, .iinc 4 (1), 4, 0, 1), (24, 3, .goto (-21), 3, 0, 0), (27, 1, .iconst (0), 0, 0, 0), (28, 2, .istore 4, 4, 0, 0), (30, 1, .iconst (0), 0, 0, 0), (31, 2, .istore 5, 5, 0, 0), (33, 2, .iload 5, 5, 0, 0), (35, 1, .aload_n 1, 1, 0, 0), (36, 3, .getfield 15, 4, 4, 0), (39, 3, .if_icmp .ge (68), 107, 0, 0), (42, 1, .aload_n 1, 1, 0, 0), (43, 2, .iload 5, 5, 0, 0), (45, 1, .iload_n 3, 3, 0, 0), (46, 3, .invokevirtual 21, 0, 0, 0), (49, 3, .ifCond .eq (52), 101, 0, 0), (52, 1, .aload_n 0, 0, 0, 0), (53, 3, .getfield 9, 0, 0, 0), (56, 1, .aload_n 1, 1, 0, 0), (57, 3, .getfield 25, 4, 0, 0), (60, 2, .iload 5, 5, 0, 0), (62, 1, .iaload, 0, 0, 0), (63, 1, .iaload, 0, 0, 0), (64, 1, .aload_n 0, 0, 0, 0), (65, 3, .getfield 9, 0, 0, 0), (68, 1, .aload_n 1, 1, 0, 0), (69, 3, .getfield 28, 4, 1, 0), (72, 2, .iload 5, 5, 0, 0), (74, 1, .iaload, 0, 0, 0), (75, 1, .iaload, 0, 0, 0), (76, 1, .ior, 0, 0, 0), (77, 2, .istore 6, 6, 0, 0), (79, 1, .aload_n 2, 2, 0, 0), (80, 2, .iload 6, 6, 0, 0), (82, 1, .iload_n 3, 3, 0, 0), (83, 3, .invokevirtual 31, 1, 0, 0), (86, 3, .ifCond .eq (9), 95, 0, 0), (89, 3, .iinc 4 (1), 4, 0, 1), (92, 3, .goto (9), 101, 0, 0), (95, 1, .aload_n 0, 0, 0, 0), (96, 2, .iload 6, 6, 0, 0), (98, 3, .invokevirtual 34, 2, 0, 0), (101, 3, .iinc 5 (1), 5, 0, 1), (104, 3, .goto (-71), 33, 0, 0), (107, 2, .iload 4, 4, 0, 0), (109, 1, .ireturn, 0, 0, 0)]
def t_X0_settle : mo_T := (cX0_settle, RX0, 7, 1, { frames := 2, cells := 0, slots := 0, locals := 45 })
theorem ok_X0_settle : mo_good t_X0_settle p_X0_settle = true ∧ mo_chain 0 p_X0_settle = true := by decide +kernel
def p_X0_merge : List mo_I := [(0, 1, .iconst (0), 0, 0, 0), (1, 1, .istore_n 2, 2, 0, 0), (2, 1, .iload_n 2, 2, 0, 0), (3, 2, .bipush (30), 0, 0, 30), (5, 3, .if_icmp .ge (25), 30, 0, 0), (8, 1, .iload_n 1, 1, 0, 0), (9, 1, .i2l, 0, 0, 0), (10, 1, .iload_n 2, 2, 0, 0), (11, 3, .invokestatic 38, 0, 0, 0), (14, 3, .ifCond .eq (10), 24, 0, 0), (17, 1, .aload_n 0, 0, 0, 0), (18, 3, .getfield 9, 0, 0, 0), (21, 1, .iload_n 2, 2, 0, 0), (22, 1, .iload_n 1, 1, 0, 0), (23, 1, .iastore, 0, 0, 0), (24, 3, .iinc 2 (1), 2, 0, 1), (27, 3, .goto (-25), 2, 0, 0), (30, 1, .return_, 0, 0, 0)]
def t_X0_merge : mo_T := (cX0_merge, RX0, 3, 0, { frames := 1, cells := 0, slots := 0, locals := 22 })
theorem ok_X0_merge : mo_good t_X0_merge p_X0_merge = true ∧ mo_chain 0 p_X0_merge = true := by decide +kernel
def p_X1_add : List mo_I := [(0, 1, .aload_n 0, 0, 0, 0), (1, 3, .getfield 9, 1, 0, 0), (4, 1, .aload_n 0, 0, 0, 0), (5, 3, .getfield 27, 1, 5, 0), (8, 1, .iload_n 1, 1, 0, 0), (9, 1, .iastore, 0, 0, 0), (10, 1, .aload_n 0, 0, 0, 0), (11, 3, .getfield 15, 1, 1, 0), (14, 1, .aload_n 0, 0, 0, 0), (15, 3, .getfield 27, 1, 5, 0), (18, 1, .iload_n 2, 2, 0, 0), (19, 1, .iastore, 0, 0, 0), (20, 1, .aload_n 0, 0, 0, 0), (21, 3, .getfield 18, 1, 2, 0), (24, 1, .aload_n 0, 0, 0, 0), (25, 3, .getfield 27, 1, 5, 0), (28, 1, .iload_n 3, 3, 0, 0), (29, 1, .iastore, 0, 0, 0), (30, 1, .aload_n 0, 0, 0, 0), (31, 3, .getfield 21, 1, 3, 0), (34, 1, .aload_n 0, 0, 0, 0), (35, 3, .getfield 27, 1, 5, 0), (38, 2, .iload 4, 4, 0, 0), (40, 1, .iastore, 0, 0, 0), (41, 1, .aload_n 0, 0, 0, 0), (42, 3, .getfield 24, 1, 4, 0), (45, 1, .aload_n 0, 0, 0, 0), (46, 3, .getfield 27, 1, 5, 0), (49, 2, .iload 5, 5, 0, 0), (51, 1, .iastore, 0, 0, 0), (52, 1, .aload_n 0, 0, 0, 0), (53, 1, .dup, 0, 0, 0), (54, 3, .getfield 27, 1, 5, 0), (57, 1, .iconst (1), 0, 0, 1), (58, 1, .iadd, 0, 0, 0), (59, 3, .putfield 27, 1, 5, 0), (62, 1, .aload_n 0, 0, 0, 0), (63, 3, .getfield 27, 1, 5, 0), (66, 1, .ireturn, 0, 0, 0)]
def t_X1_add : mo_T := (cX1_add, RX1, 6, 1, { frames := 0, cells := 0, slots := 0, locals := 0 })
theorem ok_X1_add : mo_good t_X1_add p_X1_add = true ∧ mo_chain 0 p_X1_add = true := by decide +kernel
def p_X1_sitesWith : List mo_I := [(0, 1, .iconst (0), 0, 0, 0), (1, 2, .istore 5, 5, 0, 0), (3, 1, .iconst (0), 0, 0, 0), (4, 2, .istore 6, 6, 0, 0), (6, 2, .iload 6, 6, 0, 0), (8, 1, .aload_n 0, 0, 0, 0), (9, 3, .getfield 27, 1, 5, 0), (12, 3, .if_icmp .ge (57), 69, 0, 0), (15, 1, .aload_n 0, 0, 0, 0), (16, 2, .iload 6, 6, 0, 0), (18, 1, .lload_n 1, 1, 0, 0), (19, 2, .iload 4, 4, 0, 0), (21, 3, .invokevirtual 31, 0, 0, 0), (24, 3, .ifCond .eq (39), 63, 0, 0), (27, 1, .aload_n 0, 0, 0, 0), (28, 3, .getfield 18, 1, 2, 0), (31, 2, .iload 6, 6, 0, 0), (33, 1, .iaload, 0, 0, 0), (34, 1, .iload_n 3, 3, 0, 0), (35, 3, .if_icmp .gt (28), 63, 0, 0), (38, 1, .iload_n 3, 3, 0, 0), (39, 1, .aload_n 0, 0, 0, 0), (40, 3, .getfield 21, 1, 3, 0), (43, 2, .iload 6, 6, 0, 0), (45, 1, .iaload, 0, 0, 0), (46, 3, .if_icmp .gt (17), 63, 0, 0), (49, 2, .iload 5, 5, 0, 0), (51, 1, .iconst (1), 0, 0, 1), (52, 1, .aload_n 0, 0, 0, 0), (53, 3, .getfield 9, 1, 0, 0), (56, 2, .iload 6, 6, 0, 0), (58, 1, .iaload, 0, 0, 0), (59, 1, .ishl, 0, 0, 0), (60, 1, .ior, 0, 0, 0), (61, 2, .istore 5, 5, 0, 0), (63, 3, .iinc 6 (1), 6, 0, 1), (66, 3, .goto (-60), 6, 0, 0), (69, 2, .iload 5, 5, 0, 0), (71, 1, .ireturn, 0, 0, 0)]
def t_X1_sitesWith : mo_T := (cX1_sitesWith, RX1, 7, 1, { frames := 2, cells := 0, slots := 0, locals := 46 })
theorem ok_X1_sitesWith : mo_good t_X1_sitesWith p_X1_sitesWith = true ∧ mo_chain 0 p_X1_sitesWith = true := by decide +kernel
def p_X1_firstDay : List mo_I := [(0, 1, .iconst (-1), 0, 0, -1), (1, 2, .istore 5, 5, 0, 0), (3, 1, .iconst (0), 0, 0, 0), (4, 2, .istore 6, 6, 0, 0), (6, 2, .iload 6, 6, 0, 0), (8, 1, .aload_n 0, 0, 0, 0), (9, 3, .getfield 27, 1, 5, 0), (12, 3, .if_icmp .ge (59), 71, 0, 0), (15, 1, .aload_n 0, 0, 0, 0), (16, 3, .getfield 9, 1, 0, 0), (19, 2, .iload 6, 6, 0, 0), (21, 1, .iaload, 0, 0, 0), (22, 1, .iload_n 1, 1, 0, 0), (23, 3, .if_icmp .ne (42), 65, 0, 0), (26, 1, .aload_n 0, 0, 0, 0), (27, 2, .iload 6, 6, 0, 0), (29, 1, .lload_n 2, 2, 0, 0), (30, 2, .iload 4, 4, 0, 0), (32, 3, .invokevirtual 31, 0, 0, 0), (35, 3, .ifCond .eq (30), 65, 0, 0), (38, 2, .iload 5, 5, 0, 0), (40, 1, .iconst (-1), 0, 0, -1), (41, 3, .if_icmp .eq (15), 56, 0, 0), (44, 1, .aload_n 0, 0, 0, 0), (45, 3, .getfield 18, 1, 2, 0), (48, 2, .iload 6, 6, 0, 0), (50, 1, .iaload, 0, 0, 0), (51, 2, .iload 5, 5, 0, 0), (53, 3, .if_icmp .ge (12), 65, 0, 0), (56, 1, .aload_n 0, 0, 0, 0), (57, 3, .getfield 18, 1, 2, 0), (60, 2, .iload 6, 6, 0, 0), (62, 1, .iaload, 0, 0, 0), (63, 2, .istore 5, 5, 0, 0), (65, 3, .iinc 6 (1), 6, 0, 1), (68, 3, .goto (-62), 6, 0, 0), (71, 2, .iload 5, 5, 0, 0), (73, 1, .ireturn, 0, 0, 0)]
def t_X1_firstDay : mo_T := (cX1_firstDay, RX1, 7, 1, { frames := 2, cells := 0, slots := 0, locals := 46 })
theorem ok_X1_firstDay : mo_good t_X1_firstDay p_X1_firstDay = true ∧ mo_chain 0 p_X1_firstDay = true := by decide +kernel
def p_X1_isOf : List mo_I := [(0, 1, .aload_n 0, 0, 0, 0), (1, 3, .getfield 24, 1, 4, 0), (4, 1, .iload_n 1, 1, 0, 0), (5, 1, .iaload, 0, 0, 0), (6, 2, .iload 4, 4, 0, 0), (8, 3, .if_icmp .gt (20), 28, 0, 0), (11, 1, .lload_n 2, 2, 0, 0), (12, 1, .aload_n 0, 0, 0, 0), (13, 3, .getfield 15, 1, 1, 0), (16, 1, .iload_n 1, 1, 0, 0), (17, 1, .iaload, 0, 0, 0), (18, 3, .invokestatic 35, 0, 0, 0), (21, 3, .ifCond .eq (7), 28, 0, 0), (24, 1, .iconst (1), 0, 0, 1), (25, 3, .goto (4), 29, 0, 0), (28, 1, .iconst (0), 0, 0, 0), (29, 1, .ireturn, 0, 0, 0)]
def t_X1_isOf : mo_T := (cX1_isOf, RX1, 5, 3, { frames := 1, cells := 0, slots := 0, locals := 22 })
theorem ok_X1_isOf : mo_good t_X1_isOf p_X1_isOf = true ∧ mo_chain 0 p_X1_isOf = true := by decide +kernel
def p_X2_add : List mo_I := [(0, 1, .aload_n 0, 0, 0, 0), (1, 3, .getfield 9, 2, 0, 0), (4, 1, .aload_n 0, 0, 0, 0), (5, 3, .getfield 27, 2, 5, 0), (8, 1, .iload_n 1, 1, 0, 0), (9, 1, .iastore, 0, 0, 0), (10, 1, .aload_n 0, 0, 0, 0), (11, 3, .getfield 15, 2, 1, 0), (14, 1, .aload_n 0, 0, 0, 0), (15, 3, .getfield 27, 2, 5, 0), (18, 1, .iload_n 2, 2, 0, 0), (19, 1, .iastore, 0, 0, 0), (20, 1, .aload_n 0, 0, 0, 0), (21, 3, .getfield 18, 2, 2, 0), (24, 1, .aload_n 0, 0, 0, 0), (25, 3, .getfield 27, 2, 5, 0), (28, 1, .iload_n 3, 3, 0, 0), (29, 1, .iastore, 0, 0, 0), (30, 1, .aload_n 0, 0, 0, 0), (31, 3, .getfield 21, 2, 3, 0), (34, 1, .aload_n 0, 0, 0, 0), (35, 3, .getfield 27, 2, 5, 0), (38, 2, .iload 4, 4, 0, 0), (40, 1, .iastore, 0, 0, 0), (41, 1, .aload_n 0, 0, 0, 0), (42, 3, .getfield 24, 2, 4, 0), (45, 1, .aload_n 0, 0, 0, 0), (46, 3, .getfield 27, 2, 5, 0), (49, 3, .sipush (10001), 0, 0, 10001), (52, 1, .iastore, 0, 0, 0), (53, 1, .aload_n 0, 0, 0, 0), (54, 1, .dup, 0, 0, 0), (55, 3, .getfield 27, 2, 5, 0), (58, 1, .iconst (1), 0, 0, 1), (59, 1, .iadd, 0, 0, 0), (60, 3, .putfield 27, 2, 5, 0), (63, 1, .aload_n 0, 0, 0, 0), (64, 3, .getfield 27, 2, 5, 0), (67, 1, .iconst (1), 0, 0, 1), (68, 1, .isub, 0, 0, 0), (69, 1, .ireturn, 0, 0, 0)]
def t_X2_add : mo_T := (cX2_add, RX2, 5, 1, { frames := 0, cells := 0, slots := 0, locals := 0 })
theorem ok_X2_add : mo_good t_X2_add p_X2_add = true ∧ mo_chain 0 p_X2_add = true := by decide +kernel
def p_X2_isCut : List mo_I := [(0, 1, .aload_n 0, 0, 0, 0), (1, 3, .getfield 24, 2, 4, 0), (4, 1, .iload_n 1, 1, 0, 0), (5, 1, .iaload, 0, 0, 0), (6, 3, .sipush (10001), 0, 0, 10001), (9, 3, .if_icmp .eq (7), 16, 0, 0), (12, 1, .iconst (1), 0, 0, 1), (13, 3, .goto (4), 17, 0, 0), (16, 1, .iconst (0), 0, 0, 0), (17, 1, .ireturn, 0, 0, 0)]
def t_X2_isCut : mo_T := (cX2_isCut, RX2, 2, 3, { frames := 0, cells := 0, slots := 0, locals := 0 })
theorem ok_X2_isCut : mo_good t_X2_isCut p_X2_isCut = true ∧ mo_chain 0 p_X2_isCut = true := by decide +kernel
def p_X2_isLive : List mo_I := [(0, 1, .aload_n 0, 0, 0, 0), (1, 3, .getfield 21, 2, 3, 0), (4, 1, .iload_n 1, 1, 0, 0), (5, 1, .iaload, 0, 0, 0), (6, 1, .iload_n 2, 2, 0, 0), (7, 3, .if_icmp .gt (17), 24, 0, 0), (10, 1, .iload_n 2, 2, 0, 0), (11, 1, .aload_n 0, 0, 0, 0), (12, 3, .getfield 24, 2, 4, 0), (15, 1, .iload_n 1, 1, 0, 0), (16, 1, .iaload, 0, 0, 0), (17, 3, .if_icmp .ge (7), 24, 0, 0), (20, 1, .iconst (1), 0, 0, 1), (21, 3, .goto (4), 25, 0, 0), (24, 1, .iconst (0), 0, 0, 0), (25, 1, .ireturn, 0, 0, 0)]
def t_X2_isLive : mo_T := (cX2_isLive, RX2, 3, 3, { frames := 0, cells := 0, slots := 0, locals := 0 })
theorem ok_X2_isLive : mo_good t_X2_isLive p_X2_isLive = true ∧ mo_chain 0 p_X2_isLive = true := by decide +kernel
def p_X3_add : List mo_I := [(0, 1, .aload_n 0, 0, 0, 0), (1, 3, .getfield 9, 3, 0, 0), (4, 1, .aload_n 0, 0, 0, 0), (5, 3, .getfield 18, 3, 2, 0), (8, 1, .iload_n 1, 1, 0, 0), (9, 1, .iastore, 0, 0, 0), (10, 1, .aload_n 0, 0, 0, 0), (11, 3, .getfield 15, 3, 1, 0), (14, 1, .aload_n 0, 0, 0, 0), (15, 3, .getfield 18, 3, 2, 0), (18, 1, .iload_n 2, 2, 0, 0), (19, 1, .iastore, 0, 0, 0), (20, 1, .aload_n 0, 0, 0, 0), (21, 1, .dup, 0, 0, 0), (22, 3, .getfield 18, 3, 2, 0), (25, 1, .iconst (1), 0, 0, 1), (26, 1, .iadd, 0, 0, 0), (27, 3, .putfield 18, 3, 2, 0), (30, 1, .aload_n 0, 0, 0, 0), (31, 3, .getfield 18, 3, 2, 0), (34, 1, .iconst (1), 0, 0, 1), (35, 1, .isub, 0, 0, 0), (36, 1, .ireturn, 0, 0, 0)]
def t_X3_add : mo_T := (cX3_add, RX3, 3, 1, { frames := 0, cells := 0, slots := 0, locals := 0 })
theorem ok_X3_add : mo_good t_X3_add p_X3_add = true ∧ mo_chain 0 p_X3_add = true := by decide +kernel
def p_X3_search : List mo_I := [(0, 1, .iconst (0), 0, 0, 0), (1, 1, .istore_n 3, 3, 0, 0), (2, 1, .iload_n 3, 3, 0, 0), (3, 1, .aload_n 0, 0, 0, 0), (4, 3, .getfield 18, 3, 2, 0), (7, 3, .if_icmp .ge (31), 38, 0, 0), (10, 1, .aload_n 0, 0, 0, 0), (11, 3, .getfield 9, 3, 0, 0), (14, 1, .iload_n 3, 3, 0, 0), (15, 1, .iaload, 0, 0, 0), (16, 1, .iload_n 1, 1, 0, 0), (17, 3, .if_icmp .ne (15), 32, 0, 0), (20, 1, .aload_n 0, 0, 0, 0), (21, 3, .getfield 15, 3, 1, 0), (24, 1, .iload_n 3, 3, 0, 0), (25, 1, .iaload, 0, 0, 0), (26, 1, .iload_n 2, 2, 0, 0), (27, 3, .if_icmp .ne (5), 32, 0, 0), (30, 1, .iload_n 3, 3, 0, 0), (31, 1, .ireturn, 0, 0, 0), (32, 3, .iinc 3 (1), 3, 0, 1), (35, 3, .goto (-33), 2, 0, 0), (38, 1, .iconst (-1), 0, 0, -1), (39, 1, .ireturn, 0, 0, 0)]
def t_X3_search : mo_T := (cX3_search, RX3, 4, 1, { frames := 0, cells := 0, slots := 0, locals := 0 })
theorem ok_X3_search : mo_good t_X3_search p_X3_search = true ∧ mo_chain 0 p_X3_search = true := by decide +kernel
def p_X4_add : List mo_I := [(0, 1, .aload_n 0, 0, 0, 0), (1, 3, .getfield 9, 4, 0, 0), (4, 1, .aload_n 0, 0, 0, 0), (5, 3, .getfield 25, 4, 4, 0), (8, 1, .iload_n 1, 1, 0, 0), (9, 1, .iastore, 0, 0, 0), (10, 1, .aload_n 0, 0, 0, 0), (11, 3, .getfield 15, 4, 1, 0), (14, 1, .aload_n 0, 0, 0, 0), (15, 3, .getfield 25, 4, 4, 0), (18, 1, .iload_n 2, 2, 0, 0), (19, 1, .iastore, 0, 0, 0), (20, 1, .aload_n 0, 0, 0, 0), (21, 3, .getfield 22, 4, 3, 0), (24, 1, .aload_n 0, 0, 0, 0), (25, 3, .getfield 25, 4, 4, 0), (28, 1, .iload_n 3, 3, 0, 0), (29, 1, .iastore, 0, 0, 0), (30, 1, .aload_n 0, 0, 0, 0), (31, 1, .dup, 0, 0, 0), (32, 3, .getfield 25, 4, 4, 0), (35, 1, .iconst (1), 0, 0, 1), (36, 1, .iadd, 0, 0, 0), (37, 3, .putfield 25, 4, 4, 0), (40, 1, .aload_n 0, 0, 0, 0), (41, 3, .getfield 25, 4, 4, 0), (44, 1, .iconst (1), 0, 0, 1), (45, 1, .isub, 0, 0, 0), (46, 1, .ireturn, 0, 0, 0)]
def t_X4_add : mo_T := (cX4_add, RX4, 4, 1, { frames := 0, cells := 0, slots := 0, locals := 0 })
theorem ok_X4_add : mo_good t_X4_add p_X4_add = true ∧ mo_chain 0 p_X4_add = true := by decide +kernel
def p_X4_isLive : List mo_I := [(0, 1, .aload_n 0, 0, 0, 0), (1, 3, .getfield 22, 4, 3, 0), (4, 1, .iload_n 1, 1, 0, 0), (5, 1, .iaload, 0, 0, 0), (6, 1, .iload_n 2, 2, 0, 0), (7, 3, .if_icmp .gt (16), 23, 0, 0), (10, 1, .aload_n 0, 0, 0, 0), (11, 3, .getfield 18, 4, 2, 0), (14, 1, .iload_n 1, 1, 0, 0), (15, 1, .baload, 0, 0, 0), (16, 3, .ifCond .ne (7), 23, 0, 0), (19, 1, .iconst (1), 0, 0, 1), (20, 3, .goto (4), 24, 0, 0), (23, 1, .iconst (0), 0, 0, 0), (24, 1, .ireturn, 0, 0, 0)]
def t_X4_isLive : mo_T := (cX4_isLive, RX4, 3, 3, { frames := 0, cells := 0, slots := 0, locals := 0 })
theorem ok_X4_isLive : mo_good t_X4_isLive p_X4_isLive = true ∧ mo_chain 0 p_X4_isLive = true := by decide +kernel
def p_X4_hasOneWithin : List mo_I := [(0, 1, .iconst (0), 0, 0, 0), (1, 1, .istore_n 3, 3, 0, 0), (2, 1, .iload_n 3, 3, 0, 0), (3, 1, .aload_n 0, 0, 0, 0), (4, 3, .getfield 25, 4, 4, 0), (7, 3, .if_icmp .ge (48), 55, 0, 0), (10, 1, .aload_n 0, 0, 0, 0), (11, 1, .iload_n 3, 3, 0, 0), (12, 1, .iload_n 2, 2, 0, 0), (13, 3, .invokevirtual 29, 0, 0, 0), (16, 3, .ifCond .eq (33), 49, 0, 0), (19, 1, .iload_n 1, 1, 0, 0), (20, 1, .i2l, 0, 0, 0), (21, 1, .aload_n 0, 0, 0, 0), (22, 3, .getfield 9, 4, 0, 0), (25, 1, .iload_n 3, 3, 0, 0), (26, 1, .iaload, 0, 0, 0), (27, 3, .invokestatic 33, 1, 0, 0), (30, 3, .ifCond .eq (19), 49, 0, 0), (33, 1, .iload_n 1, 1, 0, 0), (34, 1, .i2l, 0, 0, 0), (35, 1, .aload_n 0, 0, 0, 0), (36, 3, .getfield 15, 4, 1, 0), (39, 1, .iload_n 3, 3, 0, 0), (40, 1, .iaload, 0, 0, 0), (41, 3, .invokestatic 33, 1, 0, 0), (44, 3, .ifCond .eq (5), 49, 0, 0), (47, 1, .iconst (1), 0, 0, 1), (48, 1, .ireturn, 0, 0, 0), (49, 3, .iinc 3 (1), 3, 0, 1), (52, 3, .goto (-50), 2, 0, 0), (55, 1, .iconst (0), 0, 0, 0), (56, 1, .ireturn, 0, 0, 0)]
def t_X4_hasOneWithin : mo_T := (cX4_hasOneWithin, RX4, 4, 3, { frames := 1, cells := 0, slots := 0, locals := 22 })
theorem ok_X4_hasOneWithin : mo_good t_X4_hasOneWithin p_X4_hasOneWithin = true ∧ mo_chain 0 p_X4_hasOneWithin = true := by decide +kernel
def p_X5_add : List mo_I := [(0, 1, .aload_n 0, 0, 0, 0), (1, 3, .getfield 9, 5, 0, 0), (4, 1, .aload_n 0, 0, 0, 0), (5, 3, .getfield 15, 5, 1, 0), (8, 1, .iload_n 1, 1, 0, 0), (9, 1, .iastore, 0, 0, 0), (10, 1, .aload_n 0, 0, 0, 0), (11, 1, .dup, 0, 0, 0), (12, 3, .getfield 15, 5, 1, 0), (15, 1, .iconst (1), 0, 0, 1), (16, 1, .iadd, 0, 0, 0), (17, 3, .putfield 15, 5, 1, 0), (20, 1, .aload_n 0, 0, 0, 0), (21, 3, .getfield 15, 5, 1, 0), (24, 1, .iconst (1), 0, 0, 1), (25, 1, .isub, 0, 0, 0), (26, 1, .ireturn, 0, 0, 0)]
def t_X5_add : mo_T := (cX5_add, RX5, 2, 1, { frames := 0, cells := 0, slots := 0, locals := 0 })
theorem ok_X5_add : mo_good t_X5_add p_X5_add = true ∧ mo_chain 0 p_X5_add = true := by decide +kernel
def p_X6_clear : List mo_I := [(0, 1, .aload_n 0, 0, 0, 0), (1, 3, .getfield 9, 6, 0, 0), (4, 1, .iconst (0), 0, 0, 0), (5, 3, .invokestatic 15, 0, 0, 0), (8, 1, .return_, 0, 0, 0)]
def t_X6_clear : mo_T := (cX6_clear, RX6, 1, 0, { frames := 1, cells := 0, slots := 0, locals := 23 })
theorem ok_X6_clear : mo_good t_X6_clear p_X6_clear = true ∧ mo_chain 0 p_X6_clear = true := by decide +kernel
def p_X6_add : List mo_I := [(0, 1, .aload_n 0, 0, 0, 0), (1, 3, .getfield 9, 6, 0, 0), (4, 1, .iload_n 1, 1, 0, 0), (5, 1, .dup2, 0, 0, 0), (6, 1, .iaload, 0, 0, 0), (7, 1, .iconst (1), 0, 0, 1), (8, 1, .iload_n 2, 2, 0, 0), (9, 1, .ishl, 0, 0, 0), (10, 1, .ior, 0, 0, 0), (11, 1, .iastore, 0, 0, 0), (12, 1, .return_, 0, 0, 0)]
def t_X6_add : mo_T := (cX6_add, RX6, 3, 0, { frames := 0, cells := 0, slots := 0, locals := 0 })
theorem ok_X6_add : mo_good t_X6_add p_X6_add = true ∧ mo_chain 0 p_X6_add = true := by decide +kernel
def p_X6_areSettledBy : List mo_I := [(0, 1, .iconst (0), 0, 0, 0), (1, 1, .istore_n 2, 2, 0, 0), (2, 1, .iload_n 2, 2, 0, 0), (3, 2, .bipush (10), 0, 0, 10), (5, 3, .if_icmp .ge (33), 38, 0, 0), (8, 1, .iload_n 1, 1, 0, 0), (9, 1, .i2l, 0, 0, 0), (10, 1, .iload_n 2, 2, 0, 0), (11, 3, .invokestatic 21, 0, 0, 0), (14, 3, .ifCond .ne (18), 32, 0, 0), (17, 1, .aload_n 0, 0, 0, 0), (18, 3, .getfield 9, 6, 0, 0), (21, 1, .iload_n 2, 2, 0, 0), (22, 1, .iaload, 0, 0, 0), (23, 1, .iload_n 1, 1, 0, 0), (24, 1, .iconst (-1), 0, 0, -1), (25, 1, .ixor, 0, 0, 0), (26, 1, .iand, 0, 0, 0), (27, 3, .ifCond .eq (5), 32, 0, 0), (30, 1, .iconst (0), 0, 0, 0), (31, 1, .ireturn, 0, 0, 0), (32, 3, .iinc 2 (1), 2, 0, 1), (35, 3, .goto (-33), 2, 0, 0), (38, 1, .iconst (1), 0, 0, 1), (39, 1, .ireturn, 0, 0, 0)]
def t_X6_areSettledBy : mo_T := (cX6_areSettledBy, RX6, 3, 3, { frames := 1, cells := 0, slots := 0, locals := 22 })
theorem ok_X6_areSettledBy : mo_good t_X6_areSettledBy p_X6_areSettledBy = true ∧ mo_chain 0 p_X6_areSettledBy = true := by decide +kernel
def p_X7_read : List mo_I := [(0, 1, .aload_n 0, 0, 0, 0), (1, 1, .iconst (0), 0, 0, 0), (2, 3, .putfield 18, 7, 3, 0), (5, 1, .aload_n 0, 0, 0, 0), (6, 3, .invokevirtual 31, 0, 0, 0), (9, 1, .aload_n 0, 0, 0, 0), (10, 2, .ldc 34, 91, 0, 0), (12, 3, .invokevirtual 36, 1, 0, 0), (15, 3, .ifCond .eq (13), 28, 0, 0), (18, 1, .aload_n 0, 0, 0, 0), (19, 1, .iload_n 1, 1, 0, 0), (20, 1, .iconst (1), 0, 0, 1), (21, 1, .isub, 0, 0, 0), (22, 3, .invokevirtual 40, 2, 0, 0), (25, 3, .ifCond .ne (8), 33, 0, 0), (28, 1, .aload_n 0, 0, 0, 0), (29, 3, .getfield 15, 7, 2, 0), (32, 1, .ireturn, 0, 0, 0), (33, 1, .aload_n 2, 2, 0, 0), (34, 1, .aload_n 0, 0, 0, 0), (35, 3, .getfield 21, 7, 4, 0), (38, 3, .invokevirtual 44, 3, 0, 0), (41, 1, .iconst (0), 0, 0, 0), (42, 1, .istore_n 3, 3, 0, 0), (43, 1, .iload_n 3, 3, 0, 0), (44, 2, .bipush (30), 0, 0, 30), (46, 3, .if_icmp .ge (63), 109, 0, 0), (49, 1, .aload_n 0, 0, 0, 0), (50, 1, .aload_n 2, 2, 0, 0), (51, 3, .invokevirtual 50, 4, 0, 0), (54, 3, .ifCond .ne (8), 62, 0, 0), (57, 1, .aload_n 0, 0, 0, 0), (58, 3, .getfield 15, 7, 2, 0), (61, 1, .ireturn, 0, 0, 0), (62, 1, .aload_n 0, 0, 0, 0), (63, 2, .ldc 54, 92, 0, 0), (65, 3, .invokevirtual 36, 1, 0, 0), (68, 3, .ifCond .eq (10), 78, 0, 0), (71, 1, .aload_n 2, 2, 0, 0), (72, 3, .invokevirtual 56, 5, 0, 0), (75, 3, .goto (28), 103, 0, 0), (78, 1, .aload_n 0, 0, 0, 0), (79, 2, .ldc 59, 93, 0, 0), (81, 3, .invokevirtual 36, 1, 0, 0), (84, 3, .ifCond .ne (19), 103, 0, 0), (87, 1, .aload_n 0, 0, 0, 0), (88, 3, .getfield 11, 7, 1, 0), (91, 3, .ifCond .ne (7), 98, 0, 0), (94, 1, .iconst (-1), 0, 0, -1), (95, 3, .goto (7), 102, 0, 0), (98, 1, .aload_n 0, 0, 0, 0), (99, 3, .getfield 15, 7, 2, 0), (102, 1, .ireturn, 0, 0, 0), (103, 3, .iinc 3 (1), 3, 0, 1), (106, 3, .goto (-63), 43, 0, 0), (109, 1, .aload_n 0, 0, 0, 0), (110, 3, .getfield 15, 7, 2, 0), (113, 1, .ireturn, 0, 0, 0)]
def t_X7_read : mo_T := (cX7_read, RX7, 4, 1, { frames := 6, cells := 0, slots := 0, locals := 133 })
theorem ok_X7_read : mo_good t_X7_read p_X7_read = true ∧ mo_chain 0 p_X7_read = true := by decide +kernel
def p_X7_readTest : List mo_I := [(0, 1, .aload_n 0, 0, 0, 0), (1, 2, .ldc 61, 94, 0, 0), (3, 3, .invokevirtual 36, 0, 0, 0), (6, 3, .ifCond .eq (5), 11, 0, 0), (9, 1, .iconst (1), 0, 0, 1), (10, 1, .ireturn, 0, 0, 0), (11, 1, .aload_n 0, 0, 0, 0), (12, 2, .bipush (60), 0, 0, 60), (14, 3, .invokevirtual 63, 1, 0, 0), (17, 1, .istore_n 2, 2, 0, 0), (18, 1, .iload_n 2, 2, 0, 0), (19, 3, .ifCond .ne (16), 35, 0, 0), (22, 1, .aload_n 0, 0, 0, 0), (23, 2, .bipush (62), 0, 0, 62), (25, 3, .invokevirtual 63, 1, 0, 0), (28, 3, .ifCond .eq (7), 35, 0, 0), (31, 1, .iconst (1), 0, 0, 1), (32, 3, .goto (4), 36, 0, 0), (35, 1, .iconst (0), 0, 0, 0), (36, 1, .istore_n 3, 3, 0, 0), (37, 1, .aload_n 0, 0, 0, 0), (38, 2, .bipush (61), 0, 0, 61), (40, 3, .invokevirtual 63, 1, 0, 0), (43, 2, .istore 4, 4, 0, 0), (45, 1, .iload_n 2, 2, 0, 0), (46, 3, .ifCond .ne (12), 58, 0, 0), (49, 1, .iload_n 3, 3, 0, 0), (50, 3, .ifCond .ne (8), 58, 0, 0), (53, 2, .iload 4, 4, 0, 0), (55, 3, .ifCond .eq (10), 65, 0, 0), (58, 1, .aload_n 0, 0, 0, 0), (59, 3, .invokevirtual 67, 2, 0, 0), (62, 3, .ifCond .ne (5), 67, 0, 0), (65, 1, .iconst (0), 0, 0, 0), (66, 1, .ireturn, 0, 0, 0), (67, 2, .iload 4, 4, 0, 0), (69, 3, .ifCond .eq (10), 79, 0, 0), (72, 1, .aload_n 0, 0, 0, 0), (73, 3, .getfield 24, 7, 5, 0), (76, 3, .goto (9), 85, 0, 0), (79, 1, .aload_n 0, 0, 0, 0), (80, 3, .getfield 24, 7, 5, 0), (83, 1, .iconst (1), 0, 0, 1), (84, 1, .iadd, 0, 0, 0), (85, 2, .istore 5, 5, 0, 0), (87, 2, .iload 4, 4, 0, 0), (89, 3, .ifCond .eq (10), 99, 0, 0), (92, 1, .aload_n 0, 0, 0, 0), (93, 3, .getfield 24, 7, 5, 0), (96, 3, .goto (9), 105, 0, 0), (99, 1, .aload_n 0, 0, 0, 0), (100, 3, .getfield 24, 7, 5, 0), (103, 1, .iconst (1), 0, 0, 1), (104, 1, .isub, 0, 0, 0), (105, 2, .istore 6, 6, 0, 0), (107, 1, .aload_n 1, 1, 0, 0), (108, 1, .iload_n 2, 2, 0, 0), (109, 3, .ifCond .eq (7), 116, 0, 0), (112, 1, .iconst (0), 0, 0, 0), (113, 3, .goto (5), 118, 0, 0), (116, 2, .iload 5, 5, 0, 0), (118, 1, .iload_n 3, 3, 0, 0), (119, 3, .ifCond .eq (8), 127, 0, 0), (122, 2, .ldc 71, 0, 0, 999999999), (124, 3, .goto (5), 129, 0, 0), (127, 2, .iload 6, 6, 0, 0), (129, 3, .invokevirtual 72, 3, 0, 0), (132, 1, .iconst (1), 0, 0, 1), (133, 1, .ireturn, 0, 0, 0)]
def t_X7_readTest : mo_T := (cX7_readTest, RX7, 7, 3, { frames := 5, cells := 0, slots := 0, locals := 107 })
theorem ok_X7_readTest : mo_good t_X7_readTest p_X7_readTest = true ∧ mo_chain 0 p_X7_readTest = true := by decide +kernel
def p_X7_readVersion : List mo_I := [(0, 1, .aload_n 0, 0, 0, 0), (1, 1, .iconst (0), 0, 0, 0), (2, 3, .putfield 24, 7, 5, 0), (5, 1, .iconst (0), 0, 0, 0), (6, 1, .istore_n 1, 1, 0, 0), (7, 1, .iload_n 1, 1, 0, 0), (8, 3, .getstatic 76, 0, 0, 0), (11, 1, .arraylength, 0, 0, 0), (12, 3, .if_icmp .ge (55), 67, 0, 0), (15, 1, .iload_n 1, 1, 0, 0), (16, 3, .ifCond .le (14), 30, 0, 0), (19, 1, .aload_n 0, 0, 0, 0), (20, 2, .bipush (46), 0, 0, 46), (22, 3, .invokevirtual 63, 0, 0, 0), (25, 3, .ifCond .ne (5), 30, 0, 0), (28, 1, .iconst (1), 0, 0, 1), (29, 1, .ireturn, 0, 0, 0), (30, 1, .aload_n 0, 0, 0, 0), (31, 3, .sipush (999), 0, 0, 999), (34, 3, .invokevirtual 40, 1, 0, 0), (37, 3, .ifCond .ne (5), 42, 0, 0), (40, 1, .iconst (0), 0, 0, 0), (41, 1, .ireturn, 0, 0, 0), (42, 1, .aload_n 0, 0, 0, 0), (43, 1, .dup, 0, 0, 0), (44, 3, .getfield 24, 7, 5, 0), (47, 1, .aload_n 0, 0, 0, 0), (48, 3, .getfield 21, 7, 4, 0), (51, 3, .getstatic 76, 0, 0, 0), (54, 1, .iload_n 1, 1, 0, 0), (55, 1, .iaload, 0, 0, 0), (56, 1, .imul, 0, 0, 0), (57, 1, .iadd, 0, 0, 0), (58, 3, .putfield 24, 7, 5, 0), (61, 3, .iinc 1 (1), 1, 0, 1), (64, 3, .goto (-57), 7, 0, 0), (67, 1, .iconst (1), 0, 0, 1), (68, 1, .ireturn, 0, 0, 0)]
def t_X7_readVersion : mo_T := (cX7_readVersion, RX7, 2, 3, { frames := 3, cells := 0, slots := 0, locals := 64 })
theorem ok_X7_readVersion : mo_good t_X7_readVersion p_X7_readVersion = true ∧ mo_chain 0 p_X7_readVersion = true := by decide +kernel
def p_X7_takeWord : List mo_I := [(0, 1, .aload_n 0, 0, 0, 0), (1, 3, .getfield 11, 7, 1, 0), (4, 1, .iconst (1), 0, 0, 1), (5, 3, .if_icmp .ne (19), 24, 0, 0), (8, 1, .aload_n 0, 0, 0, 0), (9, 3, .getfield 18, 7, 3, 0), (12, 1, .aload_n 0, 0, 0, 0), (13, 3, .getfield 15, 7, 2, 0), (16, 1, .isub, 0, 0, 0), (17, 1, .aload_n 1, 1, 0, 0), (18, 3, .invokevirtual 80, 0, 0, 0), (21, 3, .if_icmp .eq (5), 26, 0, 0), (24, 1, .iconst (0), 0, 0, 0), (25, 1, .ireturn, 0, 0, 0), (26, 1, .iconst (0), 0, 0, 0), (27, 1, .istore_n 2, 2, 0, 0), (28, 1, .iload_n 2, 2, 0, 0), (29, 1, .aload_n 1, 1, 0, 0), (30, 3, .invokevirtual 80, 0, 0, 0), (33, 3, .if_icmp .ge (33), 66, 0, 0), (36, 1, .aload_n 0, 0, 0, 0), (37, 3, .getfield 27, 7, 0, 0), (40, 3, .getfield 86, 8, 0, 0), (43, 1, .aload_n 0, 0, 0, 0), (44, 3, .getfield 15, 7, 2, 0), (47, 1, .iload_n 2, 2, 0, 0), (48, 1, .iadd, 0, 0, 0), (49, 1, .iaload, 0, 0, 0), (50, 1, .aload_n 1, 1, 0, 0), (51, 1, .iload_n 2, 2, 0, 0), (52, 3, .invokevirtual 91, 1, 0, 0), (55, 3, .if_icmp .eq (5), 60, 0, 0), (58, 1, .iconst (0), 0, 0, 0), (59, 1, .ireturn, 0, 0, 0), (60, 3, .iinc 2 (1), 2, 0, 1), (63, 3, .goto (-35), 28, 0, 0), (66, 1, .aload_n 0, 0, 0, 0), (67, 3, .invokevirtual 31, 2, 0, 0), (70, 1, .iconst (1), 0, 0, 1), (71, 1, .ireturn, 0, 0, 0)]
def t_X7_takeWord : mo_T := (cX7_takeWord, RX7, 3, 3, { frames := 4, cells := 0, slots := 0, locals := 85 })
theorem ok_X7_takeWord : mo_good t_X7_takeWord p_X7_takeWord = true ∧ mo_chain 0 p_X7_takeWord = true := by decide +kernel
def p_X7_takeSign : List mo_I := [(0, 1, .aload_n 0, 0, 0, 0), (1, 3, .getfield 11, 7, 1, 0), (4, 1, .iconst (3), 0, 0, 3), (5, 3, .if_icmp .ne (19), 24, 0, 0), (8, 1, .aload_n 0, 0, 0, 0), (9, 3, .getfield 27, 7, 0, 0), (12, 3, .getfield 86, 8, 0, 0), (15, 1, .aload_n 0, 0, 0, 0), (16, 3, .getfield 15, 7, 2, 0), (19, 1, .iaload, 0, 0, 0), (20, 1, .iload_n 1, 1, 0, 0), (21, 3, .if_icmp .eq (5), 26, 0, 0), (24, 1, .iconst (0), 0, 0, 0), (25, 1, .ireturn, 0, 0, 0), (26, 1, .aload_n 0, 0, 0, 0), (27, 3, .invokevirtual 31, 0, 0, 0), (30, 1, .iconst (1), 0, 0, 1), (31, 1, .ireturn, 0, 0, 0)]
def t_X7_takeSign : mo_T := (cX7_takeSign, RX7, 2, 3, { frames := 2, cells := 0, slots := 0, locals := 42 })
theorem ok_X7_takeSign : mo_good t_X7_takeSign p_X7_takeSign = true ∧ mo_chain 0 p_X7_takeSign = true := by decide +kernel
def p_X7_takeNumber : List mo_I := [(0, 1, .aload_n 0, 0, 0, 0), (1, 3, .getfield 11, 7, 1, 0), (4, 1, .iconst (2), 0, 0, 2), (5, 3, .if_icmp .eq (5), 10, 0, 0), (8, 1, .iconst (0), 0, 0, 0), (9, 1, .ireturn, 0, 0, 0), (10, 1, .aload_n 0, 0, 0, 0), (11, 1, .aload_n 0, 0, 0, 0), (12, 3, .invokevirtual 95, 0, 0, 0), (15, 3, .putfield 21, 7, 4, 0), (18, 1, .aload_n 0, 0, 0, 0), (19, 3, .getfield 21, 7, 4, 0), (22, 1, .iload_n 1, 1, 0, 0), (23, 3, .if_icmp .le (5), 28, 0, 0), (26, 1, .iconst (0), 0, 0, 0), (27, 1, .ireturn, 0, 0, 0), (28, 1, .aload_n 0, 0, 0, 0), (29, 3, .invokevirtual 31, 1, 0, 0), (32, 1, .iconst (1), 0, 0, 1), (33, 1, .ireturn, 0, 0, 0)]
def t_X7_takeNumber : mo_T := (cX7_takeNumber, RX7, 2, 3, { frames := 2, cells := 0, slots := 0, locals := 43 })
theorem ok_X7_takeNumber : mo_good t_X7_takeNumber p_X7_takeNumber = true ∧ mo_chain 0 p_X7_takeNumber = true := by decide +kernel
def p_X7_valueAtHand : List mo_I := [(0, 1, .iconst (0), 0, 0, 0), (1, 1, .istore_n 1, 1, 0, 0), (2, 1, .aload_n 0, 0, 0, 0), (3, 3, .getfield 15, 7, 2, 0), (6, 1, .istore_n 2, 2, 0, 0), (7, 1, .iload_n 2, 2, 0, 0), (8, 1, .aload_n 0, 0, 0, 0), (9, 3, .getfield 18, 7, 3, 0), (12, 3, .if_icmp .ge (33), 45, 0, 0), (15, 1, .iload_n 1, 1, 0, 0), (16, 2, .bipush (10), 0, 0, 10), (18, 1, .imul, 0, 0, 0), (19, 1, .aload_n 0, 0, 0, 0), (20, 3, .getfield 27, 7, 0, 0), (23, 3, .getfield 86, 8, 0, 0), (26, 1, .iload_n 2, 2, 0, 0), (27, 1, .iaload, 0, 0, 0), (28, 1, .iadd, 0, 0, 0), (29, 2, .bipush (48), 0, 0, 48), (31, 1, .isub, 0, 0, 0), (32, 3, .sipush (1000), 0, 0, 1000), (35, 3, .invokestatic 98, 0, 0, 0), (38, 1, .istore_n 1, 1, 0, 0), (39, 3, .iinc 2 (1), 2, 0, 1), (42, 3, .goto (-35), 7, 0, 0), (45, 1, .iload_n 1, 1, 0, 0), (46, 1, .ireturn, 0, 0, 0)]
def t_X7_valueAtHand : mo_T := (cX7_valueAtHand, RX7, 3, 1, { frames := 1, cells := 0, slots := 0, locals := 21 })
theorem ok_X7_valueAtHand : mo_good t_X7_valueAtHand p_X7_valueAtHand = true ∧ mo_chain 0 p_X7_valueAtHand = true := by decide +kernel
def p_X7_step : List mo_I := [(0, 1, .aload_n 0, 0, 0, 0), (1, 1, .aload_n 0, 0, 0, 0), (2, 3, .getfield 18, 7, 3, 0), (5, 3, .putfield 15, 7, 2, 0), (8, 1, .aload_n 0, 0, 0, 0), (9, 3, .getfield 15, 7, 2, 0), (12, 1, .aload_n 0, 0, 0, 0), (13, 3, .getfield 27, 7, 0, 0), (16, 3, .getfield 104, 8, 1, 0), (19, 3, .if_icmp .ge (33), 52, 0, 0), (22, 1, .aload_n 0, 0, 0, 0), (23, 3, .getfield 27, 7, 0, 0), (26, 3, .getfield 86, 8, 0, 0), (29, 1, .aload_n 0, 0, 0, 0), (30, 3, .getfield 15, 7, 2, 0), (33, 1, .iaload, 0, 0, 0), (34, 2, .bipush (32), 0, 0, 32), (36, 3, .if_icmp .ne (16), 52, 0, 0), (39, 1, .aload_n 0, 0, 0, 0), (40, 1, .dup, 0, 0, 0), (41, 3, .getfield 15, 7, 2, 0), (44, 1, .iconst (1), 0, 0, 1), (45, 1, .iadd, 0, 0, 0), (46, 3, .putfield 15, 7, 2, 0), (49, 3, .goto (-41), 8, 0, 0), (52, 1, .aload_n 0, 0, 0, 0), (53, 1, .aload_n 0, 0, 0, 0), (54, 1, .aload_n 0, 0, 0, 0), (55, 3, .getfield 15, 7, 2, 0), (58, 3, .invokevirtual 107, 0, 0, 0), (61, 3, .putfield 11, 7, 1, 0), (64, 1, .aload_n 0, 0, 0, 0), (65, 1, .aload_n 0, 0, 0, 0), (66, 3, .getfield 11, 7, 1, 0), (69, 3, .ifCond .ne (10), 79, 0, 0), (72, 1, .aload_n 0, 0, 0, 0), (73, 3, .getfield 15, 7, 2, 0), (76, 3, .goto (9), 85, 0, 0), (79, 1, .aload_n 0, 0, 0, 0), (80, 3, .getfield 15, 7, 2, 0), (83, 1, .iconst (1), 0, 0, 1), (84, 1, .iadd, 0, 0, 0), (85, 3, .putfield 18, 7, 3, 0), (88, 1, .aload_n 0, 0, 0, 0), (89, 3, .getfield 11, 7, 1, 0), (92, 1, .iconst (1), 0, 0, 1), (93, 3, .if_icmp .eq (11), 104, 0, 0), (96, 1, .aload_n 0, 0, 0, 0), (97, 3, .getfield 11, 7, 1, 0), (100, 1, .iconst (2), 0, 0, 2), (101, 3, .if_icmp .ne (45), 146, 0, 0), (104, 1, .aload_n 0, 0, 0, 0), (105, 3, .getfield 18, 7, 3, 0), (108, 1, .aload_n 0, 0, 0, 0), (109, 3, .getfield 27, 7, 0, 0), (112, 3, .getfield 104, 8, 1, 0), (115, 3, .if_icmp .ge (31), 146, 0, 0), (118, 1, .aload_n 0, 0, 0, 0), (119, 1, .aload_n 0, 0, 0, 0), (120, 3, .getfield 18, 7, 3, 0), (123, 3, .invokevirtual 107, 0, 0, 0), (126, 1, .aload_n 0, 0, 0, 0), (127, 3, .getfield 11, 7, 1, 0), (130, 3, .if_icmp .ne (16), 146, 0, 0), (133, 1, .aload_n 0, 0, 0, 0), (134, 1, .dup, 0, 0, 0), (135, 3, .getfield 18, 7, 3, 0), (138, 1, .iconst (1), 0, 0, 1), (139, 1, .iadd, 0, 0, 0), (140, 3, .putfield 18, 7, 3, 0), (143, 3, .goto (-39), 104, 0, 0), (146, 1, .return_, 0, 0, 0)]
def t_X7_step : mo_T := (cX7_step, RX7, 1, 0, { frames := 1, cells := 0, slots := 0, locals := 22 })
theorem ok_X7_step : mo_good t_X7_step p_X7_step = true ∧ mo_chain 0 p_X7_step = true := by decide +kernel
def p_X7_kindAt : List mo_I := [(0, 1, .iload_n 1, 1, 0, 0), (1, 1, .aload_n 0, 0, 0, 0), (2, 3, .getfield 27, 7, 0, 0), (5, 3, .getfield 104, 8, 1, 0), (8, 3, .if_icmp .lt (5), 13, 0, 0), (11, 1, .iconst (0), 0, 0, 0), (12, 1, .ireturn, 0, 0, 0), (13, 1, .aload_n 0, 0, 0, 0), (14, 3, .getfield 27, 7, 0, 0), (17, 3, .getfield 86, 8, 0, 0), (20, 1, .iload_n 1, 1, 0, 0), (21, 1, .iaload, 0, 0, 0), (22, 1, .istore_n 2, 2, 0, 0), (23, 1, .iload_n 2, 2, 0, 0), (24, 2, .bipush (97), 0, 0, 97), (26, 3, .if_icmp .lt (11), 37, 0, 0), (29, 1, .iload_n 2, 2, 0, 0), (30, 2, .bipush (122), 0, 0, 122), (32, 3, .if_icmp .gt (5), 37, 0, 0), (35, 1, .iconst (1), 0, 0, 1), (36, 1, .ireturn, 0, 0, 0), (37, 1, .iload_n 2, 2, 0, 0), (38, 2, .bipush (48), 0, 0, 48), (40, 3, .if_icmp .lt (13), 53, 0, 0), (43, 1, .iload_n 2, 2, 0, 0), (44, 2, .bipush (57), 0, 0, 57), (46, 3, .if_icmp .gt (7), 53, 0, 0), (49, 1, .iconst (2), 0, 0, 2), (50, 3, .goto (4), 54, 0, 0), (53, 1, .iconst (3), 0, 0, 3), (54, 1, .ireturn, 0, 0, 0)]
def t_X7_kindAt : mo_T := (cX7_kindAt, RX7, 3, 1, { frames := 0, cells := 0, slots := 0, locals := 0 })
theorem ok_X7_kindAt : mo_good t_X7_kindAt p_X7_kindAt = true ∧ mo_chain 0 p_X7_kindAt = true := by decide +kernel
def p_X8_add : List mo_I := [(0, 2, .bipush (24), 0, 0, 24), (2, 1, .istore_n 2, 2, 0, 0), (3, 1, .iload_n 2, 2, 0, 0), (4, 3, .ifCond .lt (45), 49, 0, 0), (7, 1, .aload_n 0, 0, 0, 0), (8, 3, .getfield 15, 8, 1, 0), (11, 3, .sipush (200), 0, 0, 200), (14, 3, .if_icmp .ge (35), 49, 0, 0), (17, 1, .aload_n 0, 0, 0, 0), (18, 3, .getfield 9, 8, 0, 0), (21, 1, .aload_n 0, 0, 0, 0), (22, 3, .getfield 15, 8, 1, 0), (25, 1, .iload_n 1, 1, 0, 0), (26, 1, .iload_n 2, 2, 0, 0), (27, 1, .iushr, 0, 0, 0), (28, 3, .sipush (255), 0, 0, 255), (31, 1, .iand, 0, 0, 0), (32, 1, .iastore, 0, 0, 0), (33, 1, .aload_n 0, 0, 0, 0), (34, 1, .dup, 0, 0, 0), (35, 3, .getfield 15, 8, 1, 0), (38, 1, .iconst (1), 0, 0, 1), (39, 1, .iadd, 0, 0, 0), (40, 3, .putfield 15, 8, 1, 0), (43, 3, .iinc 2 (-8), 2, 0, -8), (46, 3, .goto (-43), 3, 0, 0), (49, 1, .return_, 0, 0, 0)]
def t_X8_add : mo_T := (cX8_add, RX8, 3, 0, { frames := 0, cells := 0, slots := 0, locals := 0 })
theorem ok_X8_add : mo_good t_X8_add p_X8_add = true ∧ mo_chain 0 p_X8_add = true := by decide +kernel
def p_X9_begin : List mo_I := [(0, 1, .aload_n 0, 0, 0, 0), (1, 1, .iload_n 1, 1, 0, 0), (2, 3, .putfield 22, 9, 3, 0), (5, 1, .aload_n 0, 0, 0, 0), (6, 1, .iconst (0), 0, 0, 0), (7, 3, .putfield 18, 9, 2, 0), (10, 1, .aload_n 0, 0, 0, 0), (11, 3, .invokevirtual 28, 0, 0, 0), (14, 1, .return_, 0, 0, 0)]
def t_X9_begin : mo_T := (cX9_begin, RX9, 2, 0, { frames := 1, cells := 0, slots := 0, locals := 20 })
theorem ok_X9_begin : mo_good t_X9_begin p_X9_begin = true ∧ mo_chain 0 p_X9_begin = true := by decide +kernel
def p_X9_openTerm : List mo_I := [(0, 1, .aload_n 0, 0, 0, 0), (1, 3, .getfield 18, 9, 2, 0), (4, 2, .bipush (30), 0, 0, 30), (6, 3, .if_icmp .ge (34), 40, 0, 0), (9, 1, .aload_n 0, 0, 0, 0), (10, 3, .getfield 9, 9, 0, 0), (13, 1, .aload_n 0, 0, 0, 0), (14, 3, .getfield 18, 9, 2, 0), (17, 1, .iconst (0), 0, 0, 0), (18, 1, .iastore, 0, 0, 0), (19, 1, .aload_n 0, 0, 0, 0), (20, 3, .getfield 15, 9, 1, 0), (23, 1, .aload_n 0, 0, 0, 0), (24, 3, .getfield 18, 9, 2, 0), (27, 2, .ldc 31, 0, 0, 999999999), (29, 1, .iastore, 0, 0, 0), (30, 1, .aload_n 0, 0, 0, 0), (31, 1, .dup, 0, 0, 0), (32, 3, .getfield 18, 9, 2, 0), (35, 1, .iconst (1), 0, 0, 1), (36, 1, .iadd, 0, 0, 0), (37, 3, .putfield 18, 9, 2, 0), (40, 1, .return_, 0, 0, 0)]
def t_X9_openTerm : mo_T := (cX9_openTerm, RX9, 1, 0, { frames := 0, cells := 0, slots := 0, locals := 0 })
theorem ok_X9_openTerm : mo_good t_X9_openTerm p_X9_openTerm = true ∧ mo_chain 0 p_X9_openTerm = true := by decide +kernel
def p_X9_narrow : List mo_I := [(0, 1, .aload_n 0, 0, 0, 0), (1, 3, .getfield 18, 9, 2, 0), (4, 3, .ifCond .le (55), 59, 0, 0), (7, 1, .aload_n 0, 0, 0, 0), (8, 3, .getfield 9, 9, 0, 0), (11, 1, .aload_n 0, 0, 0, 0), (12, 3, .getfield 18, 9, 2, 0), (15, 1, .iconst (1), 0, 0, 1), (16, 1, .isub, 0, 0, 0), (17, 1, .aload_n 0, 0, 0, 0), (18, 3, .getfield 9, 9, 0, 0), (21, 1, .aload_n 0, 0, 0, 0), (22, 3, .getfield 18, 9, 2, 0), (25, 1, .iconst (1), 0, 0, 1), (26, 1, .isub, 0, 0, 0), (27, 1, .iaload, 0, 0, 0), (28, 1, .iload_n 1, 1, 0, 0), (29, 3, .invokestatic 32, 0, 0, 0), (32, 1, .iastore, 0, 0, 0), (33, 1, .aload_n 0, 0, 0, 0), (34, 3, .getfield 15, 9, 1, 0), (37, 1, .aload_n 0, 0, 0, 0), (38, 3, .getfield 18, 9, 2, 0), (41, 1, .iconst (1), 0, 0, 1), (42, 1, .isub, 0, 0, 0), (43, 1, .aload_n 0, 0, 0, 0), (44, 3, .getfield 15, 9, 1, 0), (47, 1, .aload_n 0, 0, 0, 0), (48, 3, .getfield 18, 9, 2, 0), (51, 1, .iconst (1), 0, 0, 1), (52, 1, .isub, 0, 0, 0), (53, 1, .iaload, 0, 0, 0), (54, 1, .iload_n 2, 2, 0, 0), (55, 3, .invokestatic 38, 1, 0, 0), (58, 1, .iastore, 0, 0, 0), (59, 1, .return_, 0, 0, 0)]
def t_X9_narrow : mo_T := (cX9_narrow, RX9, 3, 0, { frames := 1, cells := 0, slots := 0, locals := 21 })
theorem ok_X9_narrow : mo_good t_X9_narrow p_X9_narrow = true ∧ mo_chain 0 p_X9_narrow = true := by decide +kernel
def p_X9_covers : List mo_I := [(0, 1, .iconst (0), 0, 0, 0), (1, 1, .istore_n 2, 2, 0, 0), (2, 1, .iload_n 2, 2, 0, 0), (3, 1, .aload_n 0, 0, 0, 0), (4, 3, .getfield 18, 9, 2, 0), (7, 3, .if_icmp .ge (31), 38, 0, 0), (10, 1, .aload_n 0, 0, 0, 0), (11, 3, .getfield 9, 9, 0, 0), (14, 1, .iload_n 2, 2, 0, 0), (15, 1, .iaload, 0, 0, 0), (16, 1, .iload_n 1, 1, 0, 0), (17, 3, .if_icmp .gt (15), 32, 0, 0), (20, 1, .iload_n 1, 1, 0, 0), (21, 1, .aload_n 0, 0, 0, 0), (22, 3, .getfield 15, 9, 1, 0), (25, 1, .iload_n 2, 2, 0, 0), (26, 1, .iaload, 0, 0, 0), (27, 3, .if_icmp .gt (5), 32, 0, 0), (30, 1, .iconst (1), 0, 0, 1), (31, 1, .ireturn, 0, 0, 0), (32, 3, .iinc 2 (1), 2, 0, 1), (35, 3, .goto (-33), 2, 0, 0), (38, 1, .iconst (0), 0, 0, 0), (39, 1, .ireturn, 0, 0, 0)]
def t_X9_covers : mo_T := (cX9_covers, RX9, 3, 3, { frames := 0, cells := 0, slots := 0, locals := 0 })
theorem ok_X9_covers : mo_good t_X9_covers p_X9_covers = true ∧ mo_chain 0 p_X9_covers = true := by decide +kernel
def p_X10_lay : List mo_I := [(0, 1, .aload_n 0, 0, 0, 0), (1, 3, .getfield 9, 10, 0, 0), (4, 1, .lconst 0, 0, 0, 0), (5, 3, .invokestatic 22, 0, 0, 0), (8, 1, .iconst (0), 0, 0, 0), (9, 2, .istore 4, 4, 0, 0), (11, 2, .iload 4, 4, 0, 0), (13, 1, .aload_n 1, 1, 0, 0), (14, 3, .getfield 28, 2, 5, 0), (17, 3, .if_icmp .ge (58), 75, 0, 0), (20, 1, .aload_n 1, 1, 0, 0), (21, 2, .iload 4, 4, 0, 0), (23, 1, .iload_n 2, 2, 0, 0), (24, 3, .invokevirtual 33, 1, 0, 0), (27, 3, .ifCond .eq (42), 69, 0, 0), (30, 1, .iload_n 3, 3, 0, 0), (31, 3, .ifCond .ne (14), 45, 0, 0), (34, 1, .aload_n 1, 1, 0, 0), (35, 3, .getfield 37, 2, 2, 0), (38, 2, .iload 4, 4, 0, 0), (40, 1, .iaload, 0, 0, 0), (41, 1, .iconst (3), 0, 0, 3), (42, 3, .if_icmp .eq (27), 69, 0, 0), (45, 1, .aload_n 0, 0, 0, 0), (46, 3, .getfield 9, 10, 0, 0), (49, 1, .aload_n 1, 1, 0, 0), (50, 3, .getfield 41, 2, 0, 0), (53, 2, .iload 4, 4, 0, 0), (55, 1, .iaload, 0, 0, 0), (56, 1, .dup2, 0, 0, 0), (57, 1, .laload, 0, 0, 0), (58, 1, .lconst 1, 0, 0, 1), (59, 1, .aload_n 1, 1, 0, 0), (60, 3, .getfield 44, 2, 1, 0), (63, 2, .iload 4, 4, 0, 0), (65, 1, .iaload, 0, 0, 0), (66, 1, .lshl, 0, 0, 0), (67, 1, .lor, 0, 0, 0), (68, 1, .lastore, 0, 0, 0), (69, 3, .iinc 4 (1), 4, 0, 1), (72, 3, .goto (-61), 11, 0, 0), (75, 1, .return_, 0, 0, 0)]
def t_X10_lay : mo_T := (cX10_lay, RX10, 5, 0, { frames := 1, cells := 0, slots := 0, locals := 24 })
theorem ok_X10_lay : mo_good t_X10_lay p_X10_lay = true ∧ mo_chain 0 p_X10_lay = true := by decide +kernel
def p_X10_spread : List mo_I := [(0, 1, .lconst 0, 0, 0, 0), (1, 1, .lstore_n 3, 3, 0, 0), (2, 1, .lload_n 1, 1, 0, 0), (3, 2, .lstore 5, 5, 0, 0), (5, 1, .aload_n 0, 0, 0, 0), (6, 1, .iconst (0), 0, 0, 0), (7, 3, .putfield 18, 10, 2, 0), (10, 2, .lload 5, 5, 0, 0), (12, 1, .lconst 0, 0, 0, 0), (13, 1, .lcmp, 0, 0, 0), (14, 3, .ifCond .eq (55), 69, 0, 0), (17, 1, .aload_n 0, 0, 0, 0), (18, 3, .getfield 18, 10, 2, 0), (21, 2, .bipush (60), 0, 0, 60), (23, 3, .if_icmp .ge (46), 69, 0, 0), (26, 1, .aload_n 0, 0, 0, 0), (27, 3, .getfield 15, 10, 1, 0), (30, 1, .aload_n 0, 0, 0, 0), (31, 3, .getfield 18, 10, 2, 0), (34, 2, .lload 5, 5, 0, 0), (36, 1, .lastore, 0, 0, 0), (37, 1, .aload_n 0, 0, 0, 0), (38, 1, .dup, 0, 0, 0), (39, 3, .getfield 18, 10, 2, 0), (42, 1, .iconst (1), 0, 0, 1), (43, 1, .iadd, 0, 0, 0), (44, 3, .putfield 18, 10, 2, 0), (47, 1, .lload_n 3, 3, 0, 0), (48, 2, .lload 5, 5, 0, 0), (50, 1, .lor, 0, 0, 0), (51, 1, .lstore_n 3, 3, 0, 0), (52, 1, .aload_n 0, 0, 0, 0), (53, 2, .lload 5, 5, 0, 0), (55, 3, .invokevirtual 47, 0, 0, 0), (58, 1, .lload_n 3, 3, 0, 0), (59, 3, .ldc2_w 51, 0, 0, -1), (62, 1, .lxor, 0, 0, 0), (63, 1, .land, 0, 0, 0), (64, 2, .lstore 5, 5, 0, 0), (66, 3, .goto (-56), 10, 0, 0), (69, 1, .lload_n 3, 3, 0, 0), (70, 1, .lreturn, 0, 0, 0)]
def t_X10_spread : mo_T := (cX10_spread, RX10, 7, 2, { frames := 1, cells := 0, slots := 0, locals := 25 })
theorem ok_X10_spread : mo_good t_X10_spread p_X10_spread = true ∧ mo_chain 0 p_X10_spread = true := by decide +kernel
def p_X10_holdersOf : List mo_I := [(0, 1, .lconst 0, 0, 0, 0), (1, 1, .lstore_n 3, 3, 0, 0), (2, 1, .iconst (0), 0, 0, 0), (3, 2, .istore 5, 5, 0, 0), (5, 2, .iload 5, 5, 0, 0), (7, 2, .bipush (60), 0, 0, 60), (9, 3, .if_icmp .ge (30), 39, 0, 0), (12, 1, .aload_n 0, 0, 0, 0), (13, 3, .getfield 9, 10, 0, 0), (16, 2, .iload 5, 5, 0, 0), (18, 1, .laload, 0, 0, 0), (19, 1, .lload_n 1, 1, 0, 0), (20, 1, .land, 0, 0, 0), (21, 1, .lconst 0, 0, 0, 0), (22, 1, .lcmp, 0, 0, 0), (23, 3, .ifCond .eq (10), 33, 0, 0), (26, 1, .lload_n 3, 3, 0, 0), (27, 1, .lconst 1, 0, 0, 1), (28, 2, .iload 5, 5, 0, 0), (30, 1, .lshl, 0, 0, 0), (31, 1, .lor, 0, 0, 0), (32, 1, .lstore_n 3, 3, 0, 0), (33, 3, .iinc 5 (1), 5, 0, 1), (36, 3, .goto (-31), 5, 0, 0), (39, 1, .lload_n 3, 3, 0, 0), (40, 1, .lreturn, 0, 0, 0)]
def t_X10_holdersOf : mo_T := (cX10_holdersOf, RX10, 6, 2, { frames := 0, cells := 0, slots := 0, locals := 0 })
theorem ok_X10_holdersOf : mo_good t_X10_holdersOf p_X10_holdersOf = true ∧ mo_chain 0 p_X10_holdersOf = true := by decide +kernel
def p_X10_distance : List mo_I := [(0, 1, .iconst (0), 0, 0, 0), (1, 1, .istore_n 2, 2, 0, 0), (2, 1, .iload_n 2, 2, 0, 0), (3, 1, .aload_n 0, 0, 0, 0), (4, 3, .getfield 18, 10, 2, 0), (7, 3, .if_icmp .ge (24), 31, 0, 0), (10, 1, .aload_n 0, 0, 0, 0), (11, 3, .getfield 15, 10, 1, 0), (14, 1, .iload_n 2, 2, 0, 0), (15, 1, .laload, 0, 0, 0), (16, 1, .iload_n 1, 1, 0, 0), (17, 3, .invokestatic 53, 0, 0, 0), (20, 3, .ifCond .eq (5), 25, 0, 0), (23, 1, .iload_n 2, 2, 0, 0), (24, 1, .ireturn, 0, 0, 0), (25, 3, .iinc 2 (1), 2, 0, 1), (28, 3, .goto (-26), 2, 0, 0), (31, 1, .iconst (-1), 0, 0, -1), (32, 1, .ireturn, 0, 0, 0)]
def t_X10_distance : mo_T := (cX10_distance, RX10, 3, 1, { frames := 1, cells := 0, slots := 0, locals := 22 })
theorem ok_X10_distance : mo_good t_X10_distance p_X10_distance = true ∧ mo_chain 0 p_X10_distance = true := by decide +kernel
def p_X10_walk : List mo_I := [(0, 1, .iload_n 1, 1, 0, 0), (1, 1, .istore_n 3, 3, 0, 0), (2, 1, .aload_n 0, 0, 0, 0), (3, 1, .iload_n 1, 1, 0, 0), (4, 3, .invokevirtual 57, 0, 0, 0), (7, 2, .istore 4, 4, 0, 0), (9, 1, .iconst (0), 0, 0, 0), (10, 2, .istore 5, 5, 0, 0), (12, 2, .iload 5, 5, 0, 0), (14, 1, .iload_n 2, 2, 0, 0), (15, 3, .if_icmp .ge (42), 57, 0, 0), (18, 3, .iinc 4 (-1), 4, 0, -1), (21, 1, .iload_n 3, 3, 0, 0), (22, 1, .iconst (-1), 0, 0, -1), (23, 3, .if_icmp .eq (8), 31, 0, 0), (26, 2, .iload 4, 4, 0, 0), (28, 3, .ifCond .ge (5), 33, 0, 0), (31, 1, .iconst (-1), 0, 0, -1), (32, 1, .ireturn, 0, 0, 0), (33, 1, .aload_n 0, 0, 0, 0), (34, 3, .getfield 9, 10, 0, 0), (37, 1, .iload_n 3, 3, 0, 0), (38, 1, .laload, 0, 0, 0), (39, 1, .aload_n 0, 0, 0, 0), (40, 3, .getfield 15, 10, 1, 0), (43, 2, .iload 4, 4, 0, 0), (45, 1, .laload, 0, 0, 0), (46, 1, .land, 0, 0, 0), (47, 3, .invokestatic 61, 1, 0, 0), (50, 1, .istore_n 3, 3, 0, 0), (51, 3, .iinc 5 (1), 5, 0, 1), (54, 3, .goto (-42), 12, 0, 0), (57, 1, .iload_n 3, 3, 0, 0), (58, 1, .ireturn, 0, 0, 0)]
def t_X10_walk : mo_T := (cX10_walk, RX10, 6, 1, { frames := 2, cells := 0, slots := 0, locals := 44 })
theorem ok_X10_walk : mo_good t_X10_walk p_X10_walk = true ∧ mo_chain 0 p_X10_walk = true := by decide +kernel
def p_X11_part : List mo_I := [(0, 1, .iload_n 1, 1, 0, 0), (1, 2, .bipush (9), 0, 0, 9), (3, 3, .invokestatic 101, 0, 0, 0), (6, 3, .ifCond .ne (9), 15, 0, 0), (9, 1, .aload_n 0, 0, 0, 0), (10, 1, .iconst (-1), 0, 0, -1), (11, 3, .invokevirtual 105, 1, 0, 0), (14, 1, .ireturn, 0, 0, 0), (15, 1, .aload_n 0, 0, 0, 0), (16, 3, .getfield 10, 11, 0, 0), (19, 3, .getfield 109, 5, 1, 0), (22, 2, .bipush (30), 0, 0, 30), (24, 3, .if_icmp .lt (10), 34, 0, 0), (27, 1, .aload_n 0, 0, 0, 0), (28, 2, .bipush (-5), 0, 0, -5), (30, 3, .invokevirtual 105, 1, 0, 0), (33, 1, .ireturn, 0, 0, 0), (34, 1, .aload_n 0, 0, 0, 0), (35, 1, .aload_n 0, 0, 0, 0), (36, 3, .getfield 10, 11, 0, 0), (39, 1, .iload_n 1, 1, 0, 0), (40, 3, .invokevirtual 112, 2, 0, 0), (43, 3, .invokevirtual 115, 3, 0, 0), (46, 1, .ireturn, 0, 0, 0)]
def t_X11_part : mo_T := (cX11_part, RX11, 2, 1, { frames := 1, cells := 0, slots := 0, locals := 21 })
theorem ok_X11_part : mo_good t_X11_part p_X11_part = true ∧ mo_chain 0 p_X11_part = true := by decide +kernel
def p_X11_make : List mo_I := [(0, 1, .iload_n 2, 2, 0, 0), (1, 1, .iload_n 3, 3, 0, 0), (2, 2, .iload 4, 4, 0, 0), (4, 3, .invokestatic 118, 0, 0, 0), (7, 3, .ifCond .ne (9), 16, 0, 0), (10, 1, .aload_n 0, 0, 0, 0), (11, 1, .iconst (-1), 0, 0, -1), (12, 3, .invokevirtual 105, 1, 0, 0), (15, 1, .ireturn, 0, 0, 0), (16, 1, .aload_n 0, 0, 0, 0), (17, 1, .iload_n 1, 1, 0, 0), (18, 3, .invokevirtual 122, 2, 0, 0), (21, 3, .ifCond .ne (10), 31, 0, 0), (24, 1, .aload_n 0, 0, 0, 0), (25, 2, .bipush (-2), 0, 0, -2), (27, 3, .invokevirtual 105, 1, 0, 0), (30, 1, .ireturn, 0, 0, 0), (31, 1, .iload_n 2, 2, 0, 0), (32, 1, .iload_n 3, 3, 0, 0), (33, 2, .iload 4, 4, 0, 0), (35, 3, .invokestatic 126, 3, 0, 0), (38, 2, .istore 5, 5, 0, 0), (40, 1, .aload_n 0, 0, 0, 0), (41, 3, .getfield 19, 11, 1, 0), (44, 1, .iload_n 1, 1, 0, 0), (45, 2, .iload 5, 5, 0, 0), (47, 3, .invokevirtual 130, 4, 0, 0), (50, 1, .iconst (-1), 0, 0, -1), (51, 3, .if_icmp .eq (10), 61, 0, 0), (54, 1, .aload_n 0, 0, 0, 0), (55, 2, .bipush (-4), 0, 0, -4), (57, 3, .invokevirtual 105, 1, 0, 0), (60, 1, .ireturn, 0, 0, 0), (61, 1, .aload_n 0, 0, 0, 0), (62, 3, .getfield 19, 11, 1, 0), (65, 3, .getfield 134, 3, 2, 0), (68, 2, .bipush (60), 0, 0, 60), (70, 3, .if_icmp .lt (10), 80, 0, 0), (73, 1, .aload_n 0, 0, 0, 0), (74, 2, .bipush (-5), 0, 0, -5), (76, 3, .invokevirtual 105, 1, 0, 0), (79, 1, .ireturn, 0, 0, 0), (80, 1, .aload_n 0, 0, 0, 0), (81, 1, .aload_n 0, 0, 0, 0), (82, 3, .getfield 19, 11, 1, 0), (85, 1, .iload_n 1, 1, 0, 0), (86, 2, .iload 5, 5, 0, 0), (88, 3, .invokevirtual 135, 5, 0, 0), (91, 3, .invokevirtual 115, 6, 0, 0), (94, 1, .ireturn, 0, 0, 0)]
def t_X11_make : mo_T := (cX11_make, RX11, 6, 1, { frames := 2, cells := 0, slots := 0, locals := 43 })
theorem ok_X11_make : mo_good t_X11_make p_X11_make = true ∧ mo_chain 0 p_X11_make = true := by decide +kernel
def p_X11_find : List mo_I := [(0, 1, .iload_n 2, 2, 0, 0), (1, 1, .iload_n 3, 3, 0, 0), (2, 2, .iload 4, 4, 0, 0), (4, 3, .invokestatic 118, 0, 0, 0), (7, 3, .ifCond .eq (21), 28, 0, 0), (10, 1, .aload_n 0, 0, 0, 0), (11, 3, .getfield 19, 11, 1, 0), (14, 1, .iload_n 1, 1, 0, 0), (15, 1, .iload_n 2, 2, 0, 0), (16, 1, .iload_n 3, 3, 0, 0), (17, 2, .iload 4, 4, 0, 0), (19, 3, .invokestatic 126, 1, 0, 0), (22, 3, .invokevirtual 130, 2, 0, 0), (25, 3, .goto (4), 29, 0, 0), (28, 1, .iconst (-1), 0, 0, -1), (29, 1, .ireturn, 0, 0, 0)]
def t_X11_find : mo_T := (cX11_find, RX11, 5, 1, { frames := 2, cells := 0, slots := 0, locals := 43 })
theorem ok_X11_find : mo_good t_X11_find p_X11_find = true ∧ mo_chain 0 p_X11_find = true := by decide +kernel
def p_X11_link : List mo_I := [(0, 1, .iload_n 3, 3, 0, 0), (1, 1, .iconst (3), 0, 0, 3), (2, 3, .invokestatic 101, 0, 0, 0), (5, 3, .ifCond .eq (11), 16, 0, 0), (8, 2, .iload 4, 4, 0, 0), (10, 3, .invokestatic 137, 1, 0, 0), (13, 3, .ifCond .ne (9), 22, 0, 0), (16, 1, .aload_n 0, 0, 0, 0), (17, 1, .iconst (-1), 0, 0, -1), (18, 3, .invokevirtual 105, 2, 0, 0), (21, 1, .ireturn, 0, 0, 0), (22, 1, .aload_n 0, 0, 0, 0), (23, 1, .iload_n 1, 1, 0, 0), (24, 3, .invokevirtual 140, 3, 0, 0), (27, 3, .ifCond .eq (11), 38, 0, 0), (30, 1, .aload_n 0, 0, 0, 0), (31, 1, .iload_n 2, 2, 0, 0), (32, 3, .invokevirtual 140, 3, 0, 0), (35, 3, .ifCond .ne (10), 45, 0, 0), (38, 1, .aload_n 0, 0, 0, 0), (39, 2, .bipush (-2), 0, 0, -2), (41, 3, .invokevirtual 105, 2, 0, 0), (44, 1, .ireturn, 0, 0, 0), (45, 1, .iload_n 1, 1, 0, 0), (46, 1, .iload_n 2, 2, 0, 0), (47, 3, .if_icmp .ne (10), 57, 0, 0), (50, 1, .aload_n 0, 0, 0, 0), (51, 2, .bipush (-4), 0, 0, -4), (53, 3, .invokevirtual 105, 2, 0, 0), (56, 1, .ireturn, 0, 0, 0), (57, 1, .aload_n 0, 0, 0, 0), (58, 3, .getfield 26, 11, 2, 0), (61, 3, .getfield 143, 2, 5, 0), (64, 3, .sipush (200), 0, 0, 200), (67, 3, .if_icmp .lt (10), 77, 0, 0), (70, 1, .aload_n 0, 0, 0, 0), (71, 2, .bipush (-5), 0, 0, -5), (73, 3, .invokevirtual 105, 2, 0, 0), (76, 1, .ireturn, 0, 0, 0), (77, 1, .aload_n 0, 0, 0, 0), (78, 1, .aload_n 0, 0, 0, 0), (79, 3, .getfield 26, 11, 2, 0), (82, 1, .iload_n 1, 1, 0, 0), (83, 1, .iload_n 2, 2, 0, 0), (84, 1, .iload_n 3, 3, 0, 0), (85, 2, .iload 4, 4, 0, 0), (87, 3, .invokevirtual 144, 4, 0, 0), (90, 3, .invokevirtual 115, 5, 0, 0), (93, 1, .ireturn, 0, 0, 0)]
def t_X11_link : mo_T := (cX11_link, RX11, 5, 1, { frames := 2, cells := 0, slots := 0, locals := 41 })
theorem ok_X11_link : mo_good t_X11_link p_X11_link = true ∧ mo_chain 0 p_X11_link = true := by decide +kernel
def p_X11_cut : List mo_I := [(0, 1, .iload_n 2, 2, 0, 0), (1, 3, .invokestatic 137, 0, 0, 0), (4, 3, .ifCond .ne (9), 13, 0, 0), (7, 1, .aload_n 0, 0, 0, 0), (8, 1, .iconst (-1), 0, 0, -1), (9, 3, .invokevirtual 105, 1, 0, 0), (12, 1, .ireturn, 0, 0, 0), (13, 1, .aload_n 0, 0, 0, 0), (14, 1, .iload_n 1, 1, 0, 0), (15, 3, .invokevirtual 147, 2, 0, 0), (18, 3, .ifCond .ne (10), 28, 0, 0), (21, 1, .aload_n 0, 0, 0, 0), (22, 2, .bipush (-2), 0, 0, -2), (24, 3, .invokevirtual 105, 1, 0, 0), (27, 1, .ireturn, 0, 0, 0), (28, 1, .aload_n 0, 0, 0, 0), (29, 3, .getfield 26, 11, 2, 0), (32, 1, .iload_n 1, 1, 0, 0), (33, 3, .invokevirtual 150, 3, 0, 0), (36, 3, .ifCond .eq (10), 46, 0, 0), (39, 1, .aload_n 0, 0, 0, 0), (40, 2, .bipush (-4), 0, 0, -4), (42, 3, .invokevirtual 105, 1, 0, 0), (45, 1, .ireturn, 0, 0, 0), (46, 1, .aload_n 0, 0, 0, 0), (47, 3, .getfield 26, 11, 2, 0), (50, 3, .getfield 153, 2, 4, 0), (53, 1, .iload_n 1, 1, 0, 0), (54, 1, .iload_n 2, 2, 0, 0), (55, 1, .iastore, 0, 0, 0), (56, 1, .aload_n 0, 0, 0, 0), (57, 1, .iconst (0), 0, 0, 0), (58, 3, .invokevirtual 115, 4, 0, 0), (61, 1, .ireturn, 0, 0, 0)]
def t_X11_cut : mo_T := (cX11_cut, RX11, 3, 1, { frames := 2, cells := 0, slots := 0, locals := 41 })
theorem ok_X11_cut : mo_good t_X11_cut p_X11_cut = true ∧ mo_chain 0 p_X11_cut = true := by decide +kernel
def p_X11_counts : List mo_I := [(0, 1, .aload_n 0, 0, 0, 0), (1, 1, .iload_n 1, 1, 0, 0), (2, 3, .invokevirtual 147, 0, 0, 0), (5, 3, .ifCond .eq (10), 15, 0, 0), (8, 1, .iload_n 2, 2, 0, 0), (9, 3, .invokestatic 137, 1, 0, 0), (12, 3, .ifCond .ne (5), 17, 0, 0), (15, 1, .iconst (-1), 0, 0, -1), (16, 1, .ireturn, 0, 0, 0), (17, 1, .aload_n 0, 0, 0, 0), (18, 3, .getfield 26, 11, 2, 0), (21, 1, .iload_n 1, 1, 0, 0), (22, 1, .iload_n 2, 2, 0, 0), (23, 3, .invokevirtual 157, 2, 0, 0), (26, 3, .ifCond .eq (7), 33, 0, 0), (29, 1, .iconst (1), 0, 0, 1), (30, 3, .goto (4), 34, 0, 0), (33, 1, .iconst (0), 0, 0, 0), (34, 1, .ireturn, 0, 0, 0)]
def t_X11_counts : mo_T := (cX11_counts, RX11, 3, 1, { frames := 2, cells := 0, slots := 0, locals := 41 })
theorem ok_X11_counts : mo_good t_X11_counts p_X11_counts = true ∧ mo_chain 0 p_X11_counts = true := by decide +kernel
def p_X11_hold : List mo_I := [(0, 1, .iload_n 1, 1, 0, 0), (1, 2, .bipush (29), 0, 0, 29), (3, 3, .invokestatic 101, 0, 0, 0), (6, 3, .ifCond .eq (32), 38, 0, 0), (9, 1, .iload_n 3, 3, 0, 0), (10, 3, .invokestatic 137, 1, 0, 0), (13, 3, .ifCond .eq (25), 38, 0, 0), (16, 2, .iload 4, 4, 0, 0), (18, 3, .invokestatic 137, 1, 0, 0), (21, 3, .ifCond .eq (17), 38, 0, 0), (24, 2, .iload 5, 5, 0, 0), (26, 3, .invokestatic 137, 1, 0, 0), (29, 3, .ifCond .eq (9), 38, 0, 0), (32, 1, .iload_n 3, 3, 0, 0), (33, 2, .iload 4, 4, 0, 0), (35, 3, .if_icmp .le (9), 44, 0, 0), (38, 1, .aload_n 0, 0, 0, 0), (39, 1, .iconst (-1), 0, 0, -1), (40, 3, .invokevirtual 105, 2, 0, 0), (43, 1, .ireturn, 0, 0, 0), (44, 1, .aload_n 0, 0, 0, 0), (45, 1, .iload_n 2, 2, 0, 0), (46, 3, .invokevirtual 140, 3, 0, 0), (49, 3, .ifCond .ne (10), 59, 0, 0), (52, 1, .aload_n 0, 0, 0, 0), (53, 2, .bipush (-2), 0, 0, -2), (55, 3, .invokevirtual 105, 2, 0, 0), (58, 1, .ireturn, 0, 0, 0), (59, 1, .aload_n 0, 0, 0, 0), (60, 3, .getfield 33, 11, 3, 0), (63, 3, .getfield 160, 1, 5, 0), (66, 2, .bipush (100), 0, 0, 100), (68, 3, .if_icmp .lt (10), 78, 0, 0), (71, 1, .aload_n 0, 0, 0, 0), (72, 2, .bipush (-5), 0, 0, -5), (74, 3, .invokevirtual 105, 2, 0, 0), (77, 1, .ireturn, 0, 0, 0), (78, 1, .aload_n 0, 0, 0, 0), (79, 1, .aload_n 0, 0, 0, 0), (80, 3, .getfield 33, 11, 3, 0), (83, 1, .iload_n 1, 1, 0, 0), (84, 1, .iload_n 2, 2, 0, 0), (85, 1, .iload_n 3, 3, 0, 0), (86, 2, .iload 4, 4, 0, 0), (88, 2, .iload 5, 5, 0, 0), (90, 3, .invokevirtual 161, 4, 0, 0), (93, 3, .invokevirtual 115, 5, 0, 0), (96, 1, .ireturn, 0, 0, 0)]
def t_X11_hold : mo_T := (cX11_hold, RX11, 6, 1, { frames := 2, cells := 0, slots := 0, locals := 41 })
theorem ok_X11_hold : mo_good t_X11_hold p_X11_hold = true ∧ mo_chain 0 p_X11_hold = true := by decide +kernel
end
section
def p_X11_join : List mo_I := [(0, 1, .aload_n 0, 0, 0, 0), (1, 1, .iload_n 1, 1, 0, 0), (2, 1, .iload_n 2, 2, 0, 0), (3, 1, .iload_n 3, 3, 0, 0), (4, 1, .aload_n 0, 0, 0, 0), (5, 3, .getfield 40, 11, 4, 0), (8, 3, .invokevirtual 164, 0, 0, 0), (11, 2, .istore 4, 4, 0, 0), (13, 2, .iload 4, 4, 0, 0), (15, 3, .ifCond .eq (12), 27, 0, 0), (18, 1, .aload_n 0, 0, 0, 0), (19, 2, .iload 4, 4, 0, 0), (21, 3, .invokevirtual 105, 1, 0, 0), (24, 3, .goto (17), 41, 0, 0), (27, 1, .aload_n 0, 0, 0, 0), (28, 1, .aload_n 0, 0, 0, 0), (29, 3, .getfield 40, 11, 4, 0), (32, 1, .iload_n 1, 1, 0, 0), (33, 1, .iload_n 2, 2, 0, 0), (34, 1, .iload_n 3, 3, 0, 0), (35, 3, .invokevirtual 168, 2, 0, 0), (38, 3, .invokevirtual 115, 3, 0, 0), (41, 1, .ireturn, 0, 0, 0)]
def t_X11_join : mo_T := (cX11_join, RX11, 5, 1, { frames := 3, cells := 0, slots := 0, locals := 65 })
theorem ok_X11_join : mo_good t_X11_join p_X11_join = true ∧ mo_chain 0 p_X11_join = true := by decide +kernel
def p_X11_undo : List mo_I := [(0, 1, .iload_n 1, 1, 0, 0), (1, 3, .ifCond .lt (14), 15, 0, 0), (4, 1, .iload_n 1, 1, 0, 0), (5, 1, .aload_n 0, 0, 0, 0), (6, 3, .getfield 40, 11, 4, 0), (9, 3, .getfield 170, 4, 4, 0), (12, 3, .if_icmp .lt (10), 22, 0, 0), (15, 1, .aload_n 0, 0, 0, 0), (16, 2, .bipush (-2), 0, 0, -2), (18, 3, .invokevirtual 105, 0, 0, 0), (21, 1, .ireturn, 0, 0, 0), (22, 1, .aload_n 0, 0, 0, 0), (23, 3, .getfield 40, 11, 4, 0), (26, 3, .getfield 171, 4, 2, 0), (29, 1, .iload_n 1, 1, 0, 0), (30, 1, .baload, 0, 0, 0), (31, 3, .ifCond .eq (10), 41, 0, 0), (34, 1, .aload_n 0, 0, 0, 0), (35, 2, .bipush (-4), 0, 0, -4), (37, 3, .invokevirtual 105, 0, 0, 0), (40, 1, .ireturn, 0, 0, 0), (41, 1, .aload_n 0, 0, 0, 0), (42, 3, .getfield 40, 11, 4, 0), (45, 3, .getfield 171, 4, 2, 0), (48, 1, .iload_n 1, 1, 0, 0), (49, 1, .iconst (1), 0, 0, 1), (50, 1, .bastore, 0, 0, 0), (51, 1, .aload_n 0, 0, 0, 0), (52, 1, .iconst (0), 0, 0, 0), (53, 3, .invokevirtual 115, 1, 0, 0), (56, 1, .ireturn, 0, 0, 0)]
def t_X11_undo : mo_T := (cX11_undo, RX11, 2, 1, { frames := 1, cells := 0, slots := 0, locals := 21 })
theorem ok_X11_undo : mo_good t_X11_undo p_X11_undo = true ∧ mo_chain 0 p_X11_undo = true := by decide +kernel
def p_X11_unlike : List mo_I := [(0, 1, .aload_n 0, 0, 0, 0), (1, 1, .iload_n 1, 1, 0, 0), (2, 1, .iload_n 2, 2, 0, 0), (3, 1, .iload_n 3, 3, 0, 0), (4, 1, .aload_n 0, 0, 0, 0), (5, 3, .getfield 44, 11, 5, 0), (8, 3, .invokevirtual 164, 0, 0, 0), (11, 2, .istore 4, 4, 0, 0), (13, 2, .iload 4, 4, 0, 0), (15, 3, .ifCond .eq (12), 27, 0, 0), (18, 1, .aload_n 0, 0, 0, 0), (19, 2, .iload 4, 4, 0, 0), (21, 3, .invokevirtual 105, 1, 0, 0), (24, 3, .goto (19), 43, 0, 0), (27, 1, .aload_n 0, 0, 0, 0), (28, 1, .aload_n 0, 0, 0, 0), (29, 3, .getfield 44, 11, 5, 0), (32, 1, .iload_n 1, 1, 0, 0), (33, 1, .iload_n 2, 2, 0, 0), (34, 1, .iload_n 3, 3, 0, 0), (35, 3, .invokevirtual 168, 2, 0, 0), (38, 1, .iconst (1), 0, 0, 1), (39, 1, .iadd, 0, 0, 0), (40, 3, .invokevirtual 115, 3, 0, 0), (43, 1, .ireturn, 0, 0, 0)]
def t_X11_unlike : mo_T := (cX11_unlike, RX11, 5, 1, { frames := 3, cells := 0, slots := 0, locals := 65 })
theorem ok_X11_unlike : mo_good t_X11_unlike p_X11_unlike = true ∧ mo_chain 0 p_X11_unlike = true := by decide +kernel
def p_X11_group : List mo_I := [(0, 1, .aload_n 0, 0, 0, 0), (1, 1, .iload_n 1, 1, 0, 0), (2, 3, .invokevirtual 122, 0, 0, 0), (5, 3, .ifCond .eq (10), 15, 0, 0), (8, 1, .iload_n 2, 2, 0, 0), (9, 3, .invokestatic 137, 1, 0, 0), (12, 3, .ifCond .ne (5), 17, 0, 0), (15, 1, .iconst (-1), 0, 0, -1), (16, 1, .ireturn, 0, 0, 0), (17, 1, .aload_n 0, 0, 0, 0), (18, 3, .getfield 50, 11, 6, 0), (21, 1, .aload_n 0, 0, 0, 0), (22, 3, .getfield 40, 11, 4, 0), (25, 1, .aload_n 0, 0, 0, 0), (26, 3, .getfield 44, 11, 5, 0), (29, 1, .iload_n 2, 2, 0, 0), (30, 3, .invokevirtual 175, 2, 0, 0), (33, 1, .pop, 0, 0, 0), (34, 1, .aload_n 0, 0, 0, 0), (35, 3, .getfield 50, 11, 6, 0), (38, 3, .getfield 179, 0, 0, 0), (41, 1, .iload_n 1, 1, 0, 0), (42, 1, .iaload, 0, 0, 0), (43, 1, .i2l, 0, 0, 0), (44, 3, .invokestatic 182, 3, 0, 0), (47, 1, .ireturn, 0, 0, 0)]
def t_X11_group : mo_T := (cX11_group, RX11, 3, 1, { frames := 3, cells := 0, slots := 0, locals := 71 })
theorem ok_X11_group : mo_good t_X11_group p_X11_group = true ∧ mo_chain 0 p_X11_group = true := by decide +kernel
def p_X11_quarrels : List mo_I := [(0, 1, .iload_n 1, 1, 0, 0), (1, 3, .invokestatic 137, 0, 0, 0), (4, 3, .ifCond .eq (22), 26, 0, 0), (7, 1, .aload_n 0, 0, 0, 0), (8, 3, .getfield 50, 11, 6, 0), (11, 1, .aload_n 0, 0, 0, 0), (12, 3, .getfield 40, 11, 4, 0), (15, 1, .aload_n 0, 0, 0, 0), (16, 3, .getfield 44, 11, 5, 0), (19, 1, .iload_n 1, 1, 0, 0), (20, 3, .invokevirtual 175, 1, 0, 0), (23, 3, .goto (4), 27, 0, 0), (26, 1, .iconst (-1), 0, 0, -1), (27, 1, .ireturn, 0, 0, 0)]
def t_X11_quarrels : mo_T := (cX11_quarrels, RX11, 2, 1, { frames := 3, cells := 0, slots := 0, locals := 71 })
theorem ok_X11_quarrels : mo_good t_X11_quarrels p_X11_quarrels = true ∧ mo_chain 0 p_X11_quarrels = true := by decide +kernel
def p_X11_feed : List mo_I := [(0, 1, .aload_n 0, 0, 0, 0), (1, 3, .getfield 57, 11, 7, 0), (4, 3, .getfield 186, 8, 1, 0), (7, 2, .bipush (20), 0, 0, 20), (9, 1, .iadd, 0, 0, 0), (10, 3, .sipush (200), 0, 0, 200), (13, 3, .if_icmp .le (5), 18, 0, 0), (16, 1, .iconst (-1), 0, 0, -1), (17, 1, .ireturn, 0, 0, 0), (18, 1, .aload_n 0, 0, 0, 0), (19, 3, .getfield 57, 11, 7, 0), (22, 1, .iload_n 1, 1, 0, 0), (23, 3, .invokevirtual 187, 0, 0, 0), (26, 1, .aload_n 0, 0, 0, 0), (27, 3, .getfield 57, 11, 7, 0), (30, 1, .iload_n 2, 2, 0, 0), (31, 3, .invokevirtual 187, 0, 0, 0), (34, 1, .aload_n 0, 0, 0, 0), (35, 3, .getfield 57, 11, 7, 0), (38, 1, .iload_n 3, 3, 0, 0), (39, 3, .invokevirtual 187, 0, 0, 0), (42, 1, .aload_n 0, 0, 0, 0), (43, 3, .getfield 57, 11, 7, 0), (46, 2, .iload 4, 4, 0, 0), (48, 3, .invokevirtual 187, 0, 0, 0), (51, 1, .aload_n 0, 0, 0, 0), (52, 3, .getfield 57, 11, 7, 0), (55, 2, .iload 5, 5, 0, 0), (57, 3, .invokevirtual 187, 0, 0, 0), (60, 1, .aload_n 0, 0, 0, 0), (61, 3, .getfield 57, 11, 7, 0), (64, 3, .getfield 186, 8, 1, 0), (67, 1, .ireturn, 0, 0, 0)]
def t_X11_feed : mo_T := (cX11_feed, RX11, 6, 1, { frames := 1, cells := 0, slots := 0, locals := 22 })
theorem ok_X11_feed : mo_good t_X11_feed p_X11_feed = true ∧ mo_chain 0 p_X11_feed = true := by decide +kernel
def p_X11_end : List mo_I := [(0, 1, .iload_n 1, 1, 0, 0), (1, 3, .ifCond .lt (14), 15, 0, 0), (4, 1, .iload_n 1, 1, 0, 0), (5, 1, .aload_n 0, 0, 0, 0), (6, 3, .getfield 57, 11, 7, 0), (9, 3, .getfield 186, 8, 1, 0), (12, 3, .if_icmp .le (5), 17, 0, 0), (15, 1, .iconst (-1), 0, 0, -1), (16, 1, .ireturn, 0, 0, 0), (17, 1, .aload_n 0, 0, 0, 0), (18, 3, .getfield 57, 11, 7, 0), (21, 1, .iload_n 1, 1, 0, 0), (22, 3, .putfield 186, 8, 1, 0), (25, 1, .iload_n 1, 1, 0, 0), (26, 1, .ireturn, 0, 0, 0)]
def t_X11_end : mo_T := (cX11_end, RX11, 2, 1, { frames := 0, cells := 0, slots := 0, locals := 0 })
theorem ok_X11_end : mo_good t_X11_end p_X11_end = true ∧ mo_chain 0 p_X11_end = true := by decide +kernel
def p_X11_warning : List mo_I := [(0, 1, .aload_n 0, 0, 0, 0), (1, 3, .getfield 90, 11, 12, 0), (4, 2, .bipush (20), 0, 0, 20), (6, 3, .if_icmp .lt (18), 24, 0, 0), (9, 1, .aload_n 0, 0, 0, 0), (10, 3, .getfield 57, 11, 7, 0), (13, 1, .iconst (0), 0, 0, 0), (14, 3, .putfield 186, 8, 1, 0), (17, 1, .aload_n 0, 0, 0, 0), (18, 2, .bipush (-5), 0, 0, -5), (20, 3, .invokevirtual 105, 0, 0, 0), (23, 1, .ireturn, 0, 0, 0), (24, 1, .aload_n 0, 0, 0, 0), (25, 1, .aload_n 0, 0, 0, 0), (26, 3, .getfield 66, 11, 8, 0), (29, 1, .aload_n 0, 0, 0, 0), (30, 3, .getfield 10, 11, 0, 0), (33, 3, .getfield 109, 5, 1, 0), (36, 1, .aload_n 0, 0, 0, 0), (37, 3, .getfield 72, 11, 9, 0), (40, 1, .aload_n 0, 0, 0, 0), (41, 3, .getfield 90, 11, 12, 0), (44, 1, .aaload, 0, 0, 0), (45, 3, .invokevirtual 190, 1, 0, 0), (48, 3, .putfield 94, 11, 13, 0), (51, 1, .aload_n 0, 0, 0, 0), (52, 3, .getfield 57, 11, 7, 0), (55, 1, .iconst (0), 0, 0, 0), (56, 3, .putfield 186, 8, 1, 0), (59, 1, .aload_n 0, 0, 0, 0), (60, 3, .getfield 94, 11, 13, 0), (63, 1, .iconst (-1), 0, 0, -1), (64, 3, .if_icmp .eq (10), 74, 0, 0), (67, 1, .aload_n 0, 0, 0, 0), (68, 2, .bipush (-6), 0, 0, -6), (70, 3, .invokevirtual 105, 0, 0, 0), (73, 1, .ireturn, 0, 0, 0), (74, 1, .aload_n 0, 0, 0, 0), (75, 1, .dup, 0, 0, 0), (76, 3, .getfield 90, 11, 12, 0), (79, 1, .iconst (1), 0, 0, 1), (80, 1, .iadd, 0, 0, 0), (81, 3, .putfield 90, 11, 12, 0), (84, 1, .aload_n 0, 0, 0, 0), (85, 1, .aload_n 0, 0, 0, 0), (86, 3, .getfield 90, 11, 12, 0), (89, 1, .iconst (1), 0, 0, 1), (90, 1, .isub, 0, 0, 0), (91, 3, .invokevirtual 115, 2, 0, 0), (94, 1, .ireturn, 0, 0, 0)]
def t_X11_warning : mo_T := (cX11_warning, RX11, 1, 1, { frames := 7, cells := 0, slots := 0, locals := 156 })
theorem ok_X11_warning : mo_good t_X11_warning p_X11_warning = true ∧ mo_chain 0 p_X11_warning = true := by decide +kernel
def p_X11_fault : List mo_I := [(0, 1, .aload_n 0, 0, 0, 0), (1, 3, .getfield 94, 11, 13, 0), (4, 1, .ireturn, 0, 0, 0)]
def t_X11_fault : mo_T := (cX11_fault, RX11, 1, 1, { frames := 0, cells := 0, slots := 0, locals := 0 })
theorem ok_X11_fault : mo_good t_X11_fault p_X11_fault = true ∧ mo_chain 0 p_X11_fault = true := by decide +kernel
def p_X11_bad : List mo_I := [(0, 1, .aload_n 0, 0, 0, 0), (1, 1, .iload_n 1, 1, 0, 0), (2, 3, .invokevirtual 194, 0, 0, 0), (5, 3, .ifCond .eq (18), 23, 0, 0), (8, 1, .aload_n 0, 0, 0, 0), (9, 1, .iload_n 2, 2, 0, 0), (10, 3, .invokevirtual 140, 1, 0, 0), (13, 3, .ifCond .eq (10), 23, 0, 0), (16, 1, .iload_n 3, 3, 0, 0), (17, 3, .invokestatic 137, 2, 0, 0), (20, 3, .ifCond .ne (5), 25, 0, 0), (23, 1, .iconst (-1), 0, 0, -1), (24, 1, .ireturn, 0, 0, 0), (25, 1, .aload_n 0, 0, 0, 0), (26, 1, .iload_n 1, 1, 0, 0), (27, 1, .iload_n 3, 3, 0, 0), (28, 3, .invokevirtual 197, 3, 0, 0), (31, 1, .iload_n 2, 2, 0, 0), (32, 3, .invokestatic 201, 4, 0, 0), (35, 3, .ifCond .eq (7), 42, 0, 0), (38, 1, .iconst (1), 0, 0, 1), (39, 3, .goto (4), 43, 0, 0), (42, 1, .iconst (0), 0, 0, 0), (43, 1, .ireturn, 0, 0, 0)]
def t_X11_bad : mo_T := (cX11_bad, RX11, 4, 1, { frames := 4, cells := 0, slots := 0, locals := 98 })
theorem ok_X11_bad : mo_good t_X11_bad p_X11_bad = true ∧ mo_chain 0 p_X11_bad = true := by decide +kernel
def p_X11_hit : List mo_I := [(0, 1, .aload_n 0, 0, 0, 0), (1, 1, .iload_n 1, 1, 0, 0), (2, 3, .invokevirtual 194, 0, 0, 0), (5, 3, .ifCond .eq (18), 23, 0, 0), (8, 1, .aload_n 0, 0, 0, 0), (9, 1, .iload_n 2, 2, 0, 0), (10, 3, .invokevirtual 140, 1, 0, 0), (13, 3, .ifCond .eq (10), 23, 0, 0), (16, 1, .iload_n 3, 3, 0, 0), (17, 3, .invokestatic 137, 2, 0, 0), (20, 3, .ifCond .ne (5), 25, 0, 0), (23, 1, .iconst (-1), 0, 0, -1), (24, 1, .ireturn, 0, 0, 0), (25, 1, .aload_n 0, 0, 0, 0), (26, 1, .iload_n 1, 1, 0, 0), (27, 1, .iload_n 2, 2, 0, 0), (28, 1, .iload_n 3, 3, 0, 0), (29, 3, .invokevirtual 205, 3, 0, 0), (32, 1, .ireturn, 0, 0, 0)]
def t_X11_hit : mo_T := (cX11_hit, RX11, 4, 1, { frames := 6, cells := 0, slots := 0, locals := 144 })
theorem ok_X11_hit : mo_good t_X11_hit p_X11_hit = true ∧ mo_chain 0 p_X11_hit = true := by decide +kernel
def p_X11_way : List mo_I := [(0, 1, .aload_n 0, 0, 0, 0), (1, 1, .iload_n 1, 1, 0, 0), (2, 3, .invokevirtual 194, 0, 0, 0), (5, 3, .ifCond .eq (24), 29, 0, 0), (8, 1, .aload_n 0, 0, 0, 0), (9, 1, .iload_n 2, 2, 0, 0), (10, 3, .invokevirtual 140, 1, 0, 0), (13, 3, .ifCond .eq (16), 29, 0, 0), (16, 1, .iload_n 3, 3, 0, 0), (17, 3, .invokestatic 137, 2, 0, 0), (20, 3, .ifCond .eq (9), 29, 0, 0), (23, 2, .iload 4, 4, 0, 0), (25, 1, .iconst (-1), 0, 0, -1), (26, 3, .if_icmp .ge (5), 31, 0, 0), (29, 1, .iconst (-1), 0, 0, -1), (30, 1, .ireturn, 0, 0, 0), (31, 1, .aload_n 0, 0, 0, 0), (32, 1, .iload_n 1, 1, 0, 0), (33, 1, .iload_n 2, 2, 0, 0), (34, 1, .iload_n 3, 3, 0, 0), (35, 3, .invokevirtual 205, 3, 0, 0), (38, 3, .ifCond .ne (7), 45, 0, 0), (41, 1, .iconst (0), 0, 0, 0), (42, 3, .goto (13), 55, 0, 0), (45, 1, .aload_n 0, 0, 0, 0), (46, 3, .getfield 79, 11, 10, 0), (49, 1, .iload_n 2, 2, 0, 0), (50, 3, .invokevirtual 208, 4, 0, 0), (53, 1, .iconst (1), 0, 0, 1), (54, 1, .iadd, 0, 0, 0), (55, 2, .istore 5, 5, 0, 0), (57, 2, .iload 4, 4, 0, 0), (59, 1, .iconst (-1), 0, 0, -1), (60, 3, .if_icmp .ne (6), 66, 0, 0), (63, 2, .iload 5, 5, 0, 0), (65, 1, .ireturn, 0, 0, 0), (66, 2, .iload 4, 4, 0, 0), (68, 2, .iload 5, 5, 0, 0), (70, 3, .if_icmp .ge (16), 86, 0, 0), (73, 1, .aload_n 0, 0, 0, 0), (74, 3, .getfield 79, 11, 10, 0), (77, 1, .iload_n 2, 2, 0, 0), (78, 2, .iload 4, 4, 0, 0), (80, 3, .invokevirtual 211, 5, 0, 0), (83, 3, .goto (4), 87, 0, 0), (86, 1, .iconst (-1), 0, 0, -1), (87, 1, .ireturn, 0, 0, 0)]
def t_X11_way : mo_T := (cX11_way, RX11, 6, 1, { frames := 6, cells := 0, slots := 0, locals := 144 })
theorem ok_X11_way : mo_good t_X11_way p_X11_way = true ∧ mo_chain 0 p_X11_way = true := by decide +kernel
def p_X11_has : List mo_I := [(0, 1, .aload_n 0, 0, 0, 0), (1, 1, .iload_n 1, 1, 0, 0), (2, 3, .invokevirtual 194, 0, 0, 0), (5, 3, .ifCond .eq (27), 32, 0, 0), (8, 1, .iload_n 2, 2, 0, 0), (9, 2, .bipush (29), 0, 0, 29), (11, 3, .invokestatic 101, 1, 0, 0), (14, 3, .ifCond .eq (18), 32, 0, 0), (17, 1, .iload_n 3, 3, 0, 0), (18, 3, .invokestatic 137, 2, 0, 0), (21, 3, .ifCond .eq (11), 32, 0, 0), (24, 2, .iload 4, 4, 0, 0), (26, 3, .invokestatic 137, 2, 0, 0), (29, 3, .ifCond .ne (5), 34, 0, 0), (32, 1, .iconst (-1), 0, 0, -1), (33, 1, .ireturn, 0, 0, 0), (34, 1, .aload_n 0, 0, 0, 0), (35, 3, .getfield 33, 11, 3, 0), (38, 1, .aload_n 0, 0, 0, 0), (39, 1, .iload_n 1, 1, 0, 0), (40, 2, .iload 4, 4, 0, 0), (42, 1, .iconst (0), 0, 0, 0), (43, 3, .invokevirtual 214, 3, 0, 0), (46, 1, .iload_n 3, 3, 0, 0), (47, 2, .iload 4, 4, 0, 0), (49, 3, .invokevirtual 218, 4, 0, 0), (52, 1, .i2l, 0, 0, 0), (53, 1, .iload_n 2, 2, 0, 0), (54, 3, .invokestatic 201, 5, 0, 0), (57, 3, .ifCond .eq (5), 62, 0, 0), (60, 1, .iconst (2), 0, 0, 2), (61, 1, .ireturn, 0, 0, 0), (62, 1, .aload_n 0, 0, 0, 0), (63, 3, .getfield 33, 11, 3, 0), (66, 1, .aload_n 0, 0, 0, 0), (67, 1, .iload_n 1, 1, 0, 0), (68, 2, .iload 4, 4, 0, 0), (70, 1, .iconst (1), 0, 0, 1), (71, 3, .invokevirtual 214, 3, 0, 0), (74, 1, .iload_n 3, 3, 0, 0), (75, 2, .iload 4, 4, 0, 0), (77, 3, .invokevirtual 218, 4, 0, 0), (80, 1, .i2l, 0, 0, 0), (81, 1, .iload_n 2, 2, 0, 0), (82, 3, .invokestatic 201, 5, 0, 0), (85, 3, .ifCond .eq (7), 92, 0, 0), (88, 1, .iconst (1), 0, 0, 1), (89, 3, .goto (4), 93, 0, 0), (92, 1, .iconst (0), 0, 0, 0), (93, 1, .ireturn, 0, 0, 0)]
def t_X11_has : mo_T := (cX11_has, RX11, 5, 1, { frames := 5, cells := 0, slots := 0, locals := 121 })
theorem ok_X11_has : mo_good t_X11_has p_X11_has = true ∧ mo_chain 0 p_X11_has = true := by decide +kernel
def p_X11_since : List mo_I := [(0, 1, .aload_n 0, 0, 0, 0), (1, 1, .iload_n 1, 1, 0, 0), (2, 3, .invokevirtual 194, 0, 0, 0), (5, 3, .ifCond .eq (19), 24, 0, 0), (8, 1, .iload_n 2, 2, 0, 0), (9, 2, .bipush (29), 0, 0, 29), (11, 3, .invokestatic 101, 1, 0, 0), (14, 3, .ifCond .eq (10), 24, 0, 0), (17, 1, .iload_n 3, 3, 0, 0), (18, 3, .invokestatic 137, 2, 0, 0), (21, 3, .ifCond .ne (5), 26, 0, 0), (24, 1, .iconst (-1), 0, 0, -1), (25, 1, .ireturn, 0, 0, 0), (26, 1, .aload_n 0, 0, 0, 0), (27, 3, .getfield 33, 11, 3, 0), (30, 1, .iload_n 2, 2, 0, 0), (31, 1, .aload_n 0, 0, 0, 0), (32, 1, .iload_n 1, 1, 0, 0), (33, 1, .iload_n 3, 3, 0, 0), (34, 1, .iconst (1), 0, 0, 1), (35, 3, .invokevirtual 214, 3, 0, 0), (38, 1, .iload_n 3, 3, 0, 0), (39, 3, .invokevirtual 222, 4, 0, 0), (42, 1, .ireturn, 0, 0, 0)]
def t_X11_since : mo_T := (cX11_since, RX11, 4, 1, { frames := 5, cells := 0, slots := 0, locals := 121 })
theorem ok_X11_since : mo_good t_X11_since p_X11_since = true ∧ mo_chain 0 p_X11_since = true := by decide +kernel
def p_X11_gaps : List mo_I := [(0, 1, .aload_n 0, 0, 0, 0), (1, 1, .iload_n 1, 1, 0, 0), (2, 3, .invokevirtual 140, 0, 0, 0), (5, 3, .ifCond .eq (18), 23, 0, 0), (8, 1, .iload_n 2, 2, 0, 0), (9, 3, .invokestatic 137, 1, 0, 0), (12, 3, .ifCond .eq (11), 23, 0, 0), (15, 1, .iload_n 3, 3, 0, 0), (16, 1, .iconst (1), 0, 0, 1), (17, 3, .invokestatic 101, 2, 0, 0), (20, 3, .ifCond .ne (5), 25, 0, 0), (23, 1, .iconst (-1), 0, 0, -1), (24, 1, .ireturn, 0, 0, 0), (25, 1, .aload_n 0, 0, 0, 0), (26, 3, .getfield 50, 11, 6, 0), (29, 1, .aload_n 0, 0, 0, 0), (30, 3, .getfield 40, 11, 4, 0), (33, 1, .aload_n 0, 0, 0, 0), (34, 3, .getfield 44, 11, 5, 0), (37, 1, .iload_n 2, 2, 0, 0), (38, 3, .invokevirtual 175, 3, 0, 0), (41, 1, .pop, 0, 0, 0), (42, 1, .aload_n 0, 0, 0, 0), (43, 1, .iload_n 1, 1, 0, 0), (44, 1, .iconst (1), 0, 0, 1), (45, 1, .iload_n 2, 2, 0, 0), (46, 3, .invokevirtual 226, 4, 0, 0), (49, 2, .istore 4, 4, 0, 0), (51, 1, .aload_n 0, 0, 0, 0), (52, 1, .iload_n 1, 1, 0, 0), (53, 1, .iconst (0), 0, 0, 0), (54, 1, .iload_n 2, 2, 0, 0), (55, 3, .invokevirtual 226, 4, 0, 0), (58, 2, .istore 5, 5, 0, 0), (60, 1, .iload_n 3, 3, 0, 0), (61, 3, .ifCond .ne (13), 74, 0, 0), (64, 2, .iload 4, 4, 0, 0), (66, 2, .iload 5, 5, 0, 0), (68, 1, .iconst (-1), 0, 0, -1), (69, 1, .ixor, 0, 0, 0), (70, 1, .iand, 0, 0, 0), (71, 3, .goto (10), 81, 0, 0), (74, 2, .iload 5, 5, 0, 0), (76, 2, .iload 4, 4, 0, 0), (78, 1, .iconst (-1), 0, 0, -1), (79, 1, .ixor, 0, 0, 0), (80, 1, .iand, 0, 0, 0), (81, 3, .invokestatic 229, 5, 0, 0), (84, 1, .ireturn, 0, 0, 0)]
def t_X11_gaps : mo_T := (cX11_gaps, RX11, 6, 1, { frames := 3, cells := 0, slots := 0, locals := 71 })
theorem ok_X11_gaps : mo_good t_X11_gaps p_X11_gaps = true ∧ mo_chain 0 p_X11_gaps = true := by decide +kernel
def p_X11_ring : List mo_I := [(0, 1, .aload_n 0, 0, 0, 0), (1, 1, .iload_n 1, 1, 0, 0), (2, 3, .invokevirtual 140, 0, 0, 0), (5, 3, .ifCond .eq (10), 15, 0, 0), (8, 1, .iload_n 2, 2, 0, 0), (9, 3, .invokestatic 137, 1, 0, 0), (12, 3, .ifCond .ne (5), 17, 0, 0), (15, 1, .iconst (-1), 0, 0, -1), (16, 1, .ireturn, 0, 0, 0), (17, 1, .aload_n 0, 0, 0, 0), (18, 3, .getfield 79, 11, 10, 0), (21, 1, .aload_n 0, 0, 0, 0), (22, 3, .getfield 26, 11, 2, 0), (25, 1, .iload_n 2, 2, 0, 0), (26, 1, .iconst (1), 0, 0, 1), (27, 3, .invokevirtual 234, 2, 0, 0), (30, 1, .aload_n 0, 0, 0, 0), (31, 3, .getfield 79, 11, 10, 0), (34, 1, .lconst 1, 0, 0, 1), (35, 1, .iload_n 1, 1, 0, 0), (36, 1, .lshl, 0, 0, 0), (37, 3, .invokevirtual 238, 3, 0, 0), (40, 1, .lstore_n 3, 3, 0, 0), (41, 1, .aload_n 0, 0, 0, 0), (42, 3, .getfield 79, 11, 10, 0), (45, 3, .getfield 242, 10, 0, 0), (48, 1, .iload_n 1, 1, 0, 0), (49, 1, .laload, 0, 0, 0), (50, 1, .lload_n 3, 3, 0, 0), (51, 1, .land, 0, 0, 0), (52, 1, .lconst 0, 0, 0, 0), (53, 1, .lcmp, 0, 0, 0), (54, 3, .ifCond .eq (7), 61, 0, 0), (57, 1, .iconst (1), 0, 0, 1), (58, 3, .goto (4), 62, 0, 0), (61, 1, .iconst (0), 0, 0, 0), (62, 1, .ireturn, 0, 0, 0)]
def t_X11_ring : mo_T := (cX11_ring, RX11, 5, 1, { frames := 2, cells := 0, slots := 0, locals := 51 })
theorem ok_X11_ring : mo_good t_X11_ring p_X11_ring = true ∧ mo_chain 0 p_X11_ring = true := by decide +kernel
def p_X11_calls : List mo_I := [(0, 1, .iload_n 1, 1, 0, 0), (1, 3, .invokestatic 137, 0, 0, 0), (4, 3, .ifCond .ne (5), 9, 0, 0), (7, 1, .iconst (-1), 0, 0, -1), (8, 1, .ireturn, 0, 0, 0), (9, 1, .aload_n 0, 0, 0, 0), (10, 1, .iload_n 1, 1, 0, 0), (11, 3, .invokevirtual 246, 1, 0, 0), (14, 3, .sipush (1023), 0, 0, 1023), (17, 1, .istore_n 2, 2, 0, 0), (18, 1, .iload_n 2, 2, 0, 0), (19, 1, .iconst (1), 0, 0, 1), (20, 1, .isub, 0, 0, 0), (21, 1, .istore_n 3, 3, 0, 0), (22, 1, .iload_n 3, 3, 0, 0), (23, 3, .ifCond .lt (33), 56, 0, 0), (26, 1, .iload_n 3, 3, 0, 0), (27, 3, .invokestatic 229, 2, 0, 0), (30, 1, .iload_n 2, 2, 0, 0), (31, 3, .invokestatic 229, 2, 0, 0), (34, 3, .if_icmp .gt (16), 50, 0, 0), (37, 1, .aload_n 0, 0, 0, 0), (38, 3, .getfield 86, 11, 11, 0), (41, 1, .iload_n 3, 3, 0, 0), (42, 3, .invokevirtual 249, 3, 0, 0), (45, 3, .ifCond .eq (5), 50, 0, 0), (48, 1, .iload_n 3, 3, 0, 0), (49, 1, .istore_n 2, 2, 0, 0), (50, 3, .iinc 3 (-1), 3, 0, -1), (53, 3, .goto (-31), 22, 0, 0), (56, 1, .iload_n 2, 2, 0, 0), (57, 1, .ireturn, 0, 0, 0)]
def t_X11_calls : mo_T := (cX11_calls, RX11, 4, 1, { frames := 3, cells := 0, slots := 0, locals := 65 })
theorem ok_X11_calls : mo_good t_X11_calls p_X11_calls = true ∧ mo_chain 0 p_X11_calls = true := by decide +kernel
def p_X11_recall : List mo_I := [(0, 1, .iload_n 2, 2, 0, 0), (1, 3, .invokestatic 137, 0, 0, 0), (4, 3, .ifCond .eq (10), 14, 0, 0), (7, 1, .iload_n 3, 3, 0, 0), (8, 3, .invokestatic 137, 0, 0, 0), (11, 3, .ifCond .ne (9), 20, 0, 0), (14, 1, .aload_n 0, 0, 0, 0), (15, 1, .iconst (-1), 0, 0, -1), (16, 3, .invokevirtual 105, 1, 0, 0), (19, 1, .ireturn, 0, 0, 0), (20, 1, .aload_n 0, 0, 0, 0), (21, 1, .iload_n 1, 1, 0, 0), (22, 3, .invokevirtual 194, 2, 0, 0), (25, 3, .ifCond .ne (10), 35, 0, 0), (28, 1, .aload_n 0, 0, 0, 0), (29, 2, .bipush (-2), 0, 0, -2), (31, 3, .invokevirtual 105, 1, 0, 0), (34, 1, .ireturn, 0, 0, 0), (35, 1, .aload_n 0, 0, 0, 0), (36, 3, .getfield 33, 11, 3, 0), (39, 1, .aload_n 0, 0, 0, 0), (40, 1, .iload_n 1, 1, 0, 0), (41, 1, .iload_n 3, 3, 0, 0), (42, 1, .iconst (1), 0, 0, 1), (43, 3, .invokevirtual 214, 3, 0, 0), (46, 1, .iload_n 2, 2, 0, 0), (47, 1, .iload_n 3, 3, 0, 0), (48, 3, .invokevirtual 218, 4, 0, 0), (51, 2, .istore 4, 4, 0, 0), (53, 2, .iload 4, 4, 0, 0), (55, 1, .aload_n 0, 0, 0, 0), (56, 3, .getfield 72, 11, 9, 0), (59, 1, .iload_n 1, 1, 0, 0), (60, 1, .aaload, 0, 0, 0), (61, 3, .getfield 252, 9, 4, 0), (64, 1, .iconst (-1), 0, 0, -1), (65, 1, .ixor, 0, 0, 0), (66, 1, .iand, 0, 0, 0), (67, 2, .istore 5, 5, 0, 0), (69, 1, .aload_n 0, 0, 0, 0), (70, 3, .getfield 72, 11, 9, 0), (73, 1, .iload_n 1, 1, 0, 0), (74, 1, .aaload, 0, 0, 0), (75, 1, .dup, 0, 0, 0), (76, 3, .getfield 252, 9, 4, 0), (79, 2, .iload 5, 5, 0, 0), (81, 1, .ior, 0, 0, 0), (82, 3, .putfield 252, 9, 4, 0), (85, 1, .aload_n 0, 0, 0, 0), (86, 2, .iload 5, 5, 0, 0), (88, 3, .invokestatic 229, 5, 0, 0), (91, 3, .invokevirtual 115, 6, 0, 0), (94, 1, .ireturn, 0, 0, 0)]
def t_X11_recall : mo_T := (cX11_recall, RX11, 6, 1, { frames := 5, cells := 0, slots := 0, locals := 121 })
theorem ok_X11_recall : mo_good t_X11_recall p_X11_recall = true ∧ mo_chain 0 p_X11_recall = true := by decide +kernel
def p_X11_told : List mo_I := [(0, 1, .aload_n 0, 0, 0, 0), (1, 1, .iload_n 1, 1, 0, 0), (2, 3, .invokevirtual 194, 0, 0, 0), (5, 3, .ifCond .eq (15), 20, 0, 0), (8, 1, .aload_n 0, 0, 0, 0), (9, 3, .getfield 72, 11, 9, 0), (12, 1, .iload_n 1, 1, 0, 0), (13, 1, .aaload, 0, 0, 0), (14, 3, .getfield 252, 9, 4, 0), (17, 3, .goto (4), 21, 0, 0), (20, 1, .iconst (0), 0, 0, 0), (21, 1, .ireturn, 0, 0, 0)]
def t_X11_told : mo_T := (cX11_told, RX11, 2, 1, { frames := 1, cells := 0, slots := 0, locals := 21 })
theorem ok_X11_told : mo_good t_X11_told p_X11_told = true ∧ mo_chain 0 p_X11_told = true := by decide +kernel
def p_X11_count : List mo_I := [(0, 1, .iload_n 1, 1, 0, 0), (1, 47, .tableswitch (108) (0) (7) #[47, 55, 63, 71, 79, 87, 95, 100], 0, 0, 0), (48, 1, .aload_n 0, 0, 0, 0), (49, 3, .getfield 10, 11, 0, 0), (52, 3, .getfield 109, 5, 1, 0), (55, 1, .ireturn, 0, 0, 0), (56, 1, .aload_n 0, 0, 0, 0), (57, 3, .getfield 19, 11, 1, 0), (60, 3, .getfield 134, 3, 2, 0), (63, 1, .ireturn, 0, 0, 0), (64, 1, .aload_n 0, 0, 0, 0), (65, 3, .getfield 26, 11, 2, 0), (68, 3, .getfield 143, 2, 5, 0), (71, 1, .ireturn, 0, 0, 0), (72, 1, .aload_n 0, 0, 0, 0), (73, 3, .getfield 33, 11, 3, 0), (76, 3, .getfield 160, 1, 5, 0), (79, 1, .ireturn, 0, 0, 0), (80, 1, .aload_n 0, 0, 0, 0), (81, 3, .getfield 40, 11, 4, 0), (84, 3, .getfield 170, 4, 4, 0), (87, 1, .ireturn, 0, 0, 0), (88, 1, .aload_n 0, 0, 0, 0), (89, 3, .getfield 44, 11, 5, 0), (92, 3, .getfield 170, 4, 4, 0), (95, 1, .ireturn, 0, 0, 0), (96, 1, .aload_n 0, 0, 0, 0), (97, 3, .getfield 90, 11, 12, 0), (100, 1, .ireturn, 0, 0, 0), (101, 1, .aload_n 0, 0, 0, 0), (102, 3, .getfield 57, 11, 7, 0), (105, 3, .getfield 186, 8, 1, 0), (108, 1, .ireturn, 0, 0, 0), (109, 1, .iconst (-1), 0, 0, -1), (110, 1, .ireturn, 0, 0, 0)]
def t_X11_count : mo_T := (cX11_count, RX11, 2, 1, { frames := 0, cells := 0, slots := 0, locals := 0 })
theorem ok_X11_count : mo_good t_X11_count p_X11_count = true ∧ mo_chain 0 p_X11_count = true := by decide +kernel
def p_X11_status : List mo_I := [(0, 1, .aload_n 0, 0, 0, 0), (1, 3, .getfield 97, 11, 14, 0), (4, 1, .ireturn, 0, 0, 0)]
def t_X11_status : mo_T := (cX11_status, RX11, 1, 1, { frames := 0, cells := 0, slots := 0, locals := 0 })
theorem ok_X11_status : mo_good t_X11_status p_X11_status = true ∧ mo_chain 0 p_X11_status = true := by decide +kernel
def p_X11_refuse : List mo_I := [(0, 1, .aload_n 0, 0, 0, 0), (1, 1, .iload_n 1, 1, 0, 0), (2, 3, .putfield 97, 11, 14, 0), (5, 1, .iload_n 1, 1, 0, 0), (6, 1, .ireturn, 0, 0, 0)]
def t_X11_refuse : mo_T := (cX11_refuse, RX11, 2, 1, { frames := 0, cells := 0, slots := 0, locals := 0 })
theorem ok_X11_refuse : mo_good t_X11_refuse p_X11_refuse = true ∧ mo_chain 0 p_X11_refuse = true := by decide +kernel
def p_X11_accept : List mo_I := [(0, 1, .aload_n 0, 0, 0, 0), (1, 1, .iconst (0), 0, 0, 0), (2, 3, .putfield 97, 11, 14, 0), (5, 1, .iload_n 1, 1, 0, 0), (6, 1, .ireturn, 0, 0, 0)]
def t_X11_accept : mo_T := (cX11_accept, RX11, 2, 1, { frames := 0, cells := 0, slots := 0, locals := 0 })
theorem ok_X11_accept : mo_good t_X11_accept p_X11_accept = true ∧ mo_chain 0 p_X11_accept = true := by decide +kernel
def p_X11_isPart : List mo_I := [(0, 1, .iload_n 1, 1, 0, 0), (1, 3, .ifCond .lt (18), 19, 0, 0), (4, 1, .iload_n 1, 1, 0, 0), (5, 1, .aload_n 0, 0, 0, 0), (6, 3, .getfield 10, 11, 0, 0), (9, 3, .getfield 109, 5, 1, 0), (12, 3, .if_icmp .ge (7), 19, 0, 0), (15, 1, .iconst (1), 0, 0, 1), (16, 3, .goto (4), 20, 0, 0), (19, 1, .iconst (0), 0, 0, 0), (20, 1, .ireturn, 0, 0, 0)]
def t_X11_isPart : mo_T := (cX11_isPart, RX11, 2, 3, { frames := 0, cells := 0, slots := 0, locals := 0 })
theorem ok_X11_isPart : mo_good t_X11_isPart p_X11_isPart = true ∧ mo_chain 0 p_X11_isPart = true := by decide +kernel
def p_X11_isMake : List mo_I := [(0, 1, .iload_n 1, 1, 0, 0), (1, 3, .ifCond .lt (18), 19, 0, 0), (4, 1, .iload_n 1, 1, 0, 0), (5, 1, .aload_n 0, 0, 0, 0), (6, 3, .getfield 19, 11, 1, 0), (9, 3, .getfield 134, 3, 2, 0), (12, 3, .if_icmp .ge (7), 19, 0, 0), (15, 1, .iconst (1), 0, 0, 1), (16, 3, .goto (4), 20, 0, 0), (19, 1, .iconst (0), 0, 0, 0), (20, 1, .ireturn, 0, 0, 0)]
def t_X11_isMake : mo_T := (cX11_isMake, RX11, 2, 3, { frames := 0, cells := 0, slots := 0, locals := 0 })
theorem ok_X11_isMake : mo_good t_X11_isMake p_X11_isMake = true ∧ mo_chain 0 p_X11_isMake = true := by decide +kernel
def p_X11_isLink : List mo_I := [(0, 1, .iload_n 1, 1, 0, 0), (1, 3, .ifCond .lt (18), 19, 0, 0), (4, 1, .iload_n 1, 1, 0, 0), (5, 1, .aload_n 0, 0, 0, 0), (6, 3, .getfield 26, 11, 2, 0), (9, 3, .getfield 143, 2, 5, 0), (12, 3, .if_icmp .ge (7), 19, 0, 0), (15, 1, .iconst (1), 0, 0, 1), (16, 3, .goto (4), 20, 0, 0), (19, 1, .iconst (0), 0, 0, 0), (20, 1, .ireturn, 0, 0, 0)]
def t_X11_isLink : mo_T := (cX11_isLink, RX11, 2, 3, { frames := 0, cells := 0, slots := 0, locals := 0 })
theorem ok_X11_isLink : mo_good t_X11_isLink p_X11_isLink = true ∧ mo_chain 0 p_X11_isLink = true := by decide +kernel
def p_X11_isWarning : List mo_I := [(0, 1, .iload_n 1, 1, 0, 0), (1, 3, .ifCond .lt (15), 16, 0, 0), (4, 1, .iload_n 1, 1, 0, 0), (5, 1, .aload_n 0, 0, 0, 0), (6, 3, .getfield 90, 11, 12, 0), (9, 3, .if_icmp .ge (7), 16, 0, 0), (12, 1, .iconst (1), 0, 0, 1), (13, 3, .goto (4), 17, 0, 0), (16, 1, .iconst (0), 0, 0, 0), (17, 1, .ireturn, 0, 0, 0)]
def t_X11_isWarning : mo_T := (cX11_isWarning, RX11, 2, 3, { frames := 0, cells := 0, slots := 0, locals := 0 })
theorem ok_X11_isWarning : mo_good t_X11_isWarning p_X11_isWarning = true ∧ mo_chain 0 p_X11_isWarning = true := by decide +kernel
def p_X11_isWithin : List mo_I := [(0, 1, .iload_n 0, 0, 0, 0), (1, 3, .ifCond .lt (12), 13, 0, 0), (4, 1, .iload_n 0, 0, 0, 0), (5, 1, .iload_n 1, 1, 0, 0), (6, 3, .if_icmp .gt (7), 13, 0, 0), (9, 1, .iconst (1), 0, 0, 1), (10, 3, .goto (4), 14, 0, 0), (13, 1, .iconst (0), 0, 0, 0), (14, 1, .ireturn, 0, 0, 0)]
def t_X11_isWithin : mo_T := (cX11_isWithin, RX11, 2, 3, { frames := 0, cells := 0, slots := 0, locals := 0 })
theorem ok_X11_isWithin : mo_good t_X11_isWithin p_X11_isWithin = true ∧ mo_chain 0 p_X11_isWithin = true := by decide +kernel
def p_X11_isDay : List mo_I := [(0, 1, .iload_n 0, 0, 0, 0), (1, 3, .sipush (10000), 0, 0, 10000), (4, 3, .invokestatic 101, 0, 0, 0), (7, 1, .ireturn, 0, 0, 0)]
def t_X11_isDay : mo_T := (cX11_isDay, RX11, 1, 3, { frames := 1, cells := 0, slots := 0, locals := 21 })
theorem ok_X11_isDay : mo_good t_X11_isDay p_X11_isDay = true ∧ mo_chain 0 p_X11_isDay = true := by decide +kernel
def p_X11_isVersion : List mo_I := [(0, 1, .iload_n 0, 0, 0, 0), (1, 3, .sipush (999), 0, 0, 999), (4, 3, .invokestatic 101, 0, 0, 0), (7, 3, .ifCond .eq (27), 34, 0, 0), (10, 1, .iload_n 1, 1, 0, 0), (11, 3, .sipush (999), 0, 0, 999), (14, 3, .invokestatic 101, 0, 0, 0), (17, 3, .ifCond .eq (17), 34, 0, 0), (20, 1, .iload_n 2, 2, 0, 0), (21, 3, .sipush (999), 0, 0, 999), (24, 3, .invokestatic 101, 0, 0, 0), (27, 3, .ifCond .eq (7), 34, 0, 0), (30, 1, .iconst (1), 0, 0, 1), (31, 3, .goto (4), 35, 0, 0), (34, 1, .iconst (0), 0, 0, 0), (35, 1, .ireturn, 0, 0, 0)]
def t_X11_isVersion : mo_T := (cX11_isVersion, RX11, 3, 3, { frames := 1, cells := 0, slots := 0, locals := 21 })
theorem ok_X11_isVersion : mo_good t_X11_isVersion p_X11_isVersion = true ∧ mo_chain 0 p_X11_isVersion = true := by decide +kernel
def p_X11_versionOf : List mo_I := [(0, 1, .iload_n 0, 0, 0, 0), (1, 3, .getstatic 255, 0, 0, 0), (4, 1, .iconst (0), 0, 0, 0), (5, 1, .iaload, 0, 0, 0), (6, 1, .imul, 0, 0, 0), (7, 1, .iload_n 1, 1, 0, 0), (8, 3, .getstatic 255, 0, 0, 0), (11, 1, .iconst (1), 0, 0, 1), (12, 1, .iaload, 0, 0, 0), (13, 1, .imul, 0, 0, 0), (14, 1, .iadd, 0, 0, 0), (15, 1, .iload_n 2, 2, 0, 0), (16, 3, .getstatic 255, 0, 0, 0), (19, 1, .iconst (2), 0, 0, 2), (20, 1, .iaload, 0, 0, 0), (21, 1, .imul, 0, 0, 0), (22, 1, .iadd, 0, 0, 0), (23, 1, .ireturn, 0, 0, 0)]
def t_X11_versionOf : mo_T := (cX11_versionOf, RX11, 3, 1, { frames := 0, cells := 0, slots := 0, locals := 0 })
theorem ok_X11_versionOf : mo_good t_X11_versionOf p_X11_versionOf = true ∧ mo_chain 0 p_X11_versionOf = true := by decide +kernel
def p_X11_contains : List mo_I := [(0, 1, .lload_n 0, 0, 0, 0), (1, 1, .iload_n 2, 2, 0, 0), (2, 1, .lushr, 0, 0, 0), (3, 1, .lconst 1, 0, 0, 1), (4, 1, .land, 0, 0, 0), (5, 1, .lconst 0, 0, 0, 0), (6, 1, .lcmp, 0, 0, 0), (7, 3, .ifCond .eq (7), 14, 0, 0), (10, 1, .iconst (1), 0, 0, 1), (11, 3, .goto (4), 15, 0, 0), (14, 1, .iconst (0), 0, 0, 0), (15, 1, .ireturn, 0, 0, 0)]
def t_X11_contains : mo_T := (cX11_contains, RX11, 3, 3, { frames := 0, cells := 0, slots := 0, locals := 0 })
theorem ok_X11_contains : mo_good t_X11_contains p_X11_contains = true ∧ mo_chain 0 p_X11_contains = true := by decide +kernel
def p_X11_lowest : List mo_I := [(0, 1, .iconst (0), 0, 0, 0), (1, 1, .istore_n 2, 2, 0, 0), (2, 1, .iload_n 2, 2, 0, 0), (3, 2, .bipush (64), 0, 0, 64), (5, 3, .if_icmp .ge (19), 24, 0, 0), (8, 1, .lload_n 0, 0, 0, 0), (9, 1, .iload_n 2, 2, 0, 0), (10, 3, .invokestatic 201, 0, 0, 0), (13, 3, .ifCond .eq (5), 18, 0, 0), (16, 1, .iload_n 2, 2, 0, 0), (17, 1, .ireturn, 0, 0, 0), (18, 3, .iinc 2 (1), 2, 0, 1), (21, 3, .goto (-19), 2, 0, 0), (24, 1, .iconst (-1), 0, 0, -1), (25, 1, .ireturn, 0, 0, 0)]
def t_X11_lowest : mo_T := (cX11_lowest, RX11, 3, 1, { frames := 1, cells := 0, slots := 0, locals := 22 })
theorem ok_X11_lowest : mo_good t_X11_lowest p_X11_lowest = true ∧ mo_chain 0 p_X11_lowest = true := by decide +kernel
def p_X11_whyNoPair : List mo_I := [(0, 1, .iload_n 3, 3, 0, 0), (1, 3, .invokestatic 137, 0, 0, 0), (4, 3, .ifCond .ne (5), 9, 0, 0), (7, 1, .iconst (-1), 0, 0, -1), (8, 1, .ireturn, 0, 0, 0), (9, 1, .aload_n 0, 0, 0, 0), (10, 1, .iload_n 1, 1, 0, 0), (11, 3, .invokevirtual 122, 1, 0, 0), (14, 3, .ifCond .eq (11), 25, 0, 0), (17, 1, .aload_n 0, 0, 0, 0), (18, 1, .iload_n 2, 2, 0, 0), (19, 3, .invokevirtual 122, 1, 0, 0), (22, 3, .ifCond .ne (6), 28, 0, 0), (25, 2, .bipush (-2), 0, 0, -2), (27, 1, .ireturn, 0, 0, 0), (28, 1, .iload_n 1, 1, 0, 0), (29, 1, .iload_n 2, 2, 0, 0), (30, 3, .if_icmp .ne (6), 36, 0, 0), (33, 2, .bipush (-4), 0, 0, -4), (35, 1, .ireturn, 0, 0, 0), (36, 2, .aload 4, 4, 0, 0), (38, 3, .getfield 170, 4, 4, 0), (41, 2, .bipush (40), 0, 0, 40), (43, 3, .if_icmp .lt (8), 51, 0, 0), (46, 2, .bipush (-5), 0, 0, -5), (48, 3, .goto (4), 52, 0, 0), (51, 1, .iconst (0), 0, 0, 0), (52, 1, .ireturn, 0, 0, 0)]
def t_X11_whyNoPair : mo_T := (cX11_whyNoPair, RX11, 5, 1, { frames := 2, cells := 0, slots := 0, locals := 41 })
theorem ok_X11_whyNoPair : mo_good t_X11_whyNoPair p_X11_whyNoPair = true ∧ mo_chain 0 p_X11_whyNoPair = true := by decide +kernel
def p_X11_badMakes : List mo_I := [(0, 1, .aload_n 0, 0, 0, 0), (1, 3, .getfield 50, 11, 6, 0), (4, 1, .aload_n 0, 0, 0, 0), (5, 3, .getfield 40, 11, 4, 0), (8, 1, .aload_n 0, 0, 0, 0), (9, 3, .getfield 44, 11, 5, 0), (12, 1, .iload_n 2, 2, 0, 0), (13, 3, .invokevirtual 175, 0, 0, 0), (16, 1, .pop, 0, 0, 0), (17, 1, .aload_n 0, 0, 0, 0), (18, 3, .getfield 72, 11, 9, 0), (21, 1, .iload_n 1, 1, 0, 0), (22, 1, .aaload, 0, 0, 0), (23, 1, .astore_n 3, 3, 0, 0), (24, 1, .aload_n 0, 0, 0, 0), (25, 3, .getfield 50, 11, 6, 0), (28, 3, .getfield 179, 0, 0, 0), (31, 1, .aload_n 3, 3, 0, 0), (32, 3, .getfield 258, 9, 3, 0), (35, 1, .iaload, 0, 0, 0), (36, 2, .istore 4, 4, 0, 0), (38, 1, .lconst 0, 0, 0, 0), (39, 2, .lstore 5, 5, 0, 0), (41, 1, .iconst (0), 0, 0, 0), (42, 2, .istore 7, 7, 0, 0), (44, 2, .iload 7, 7, 0, 0), (46, 1, .aload_n 0, 0, 0, 0), (47, 3, .getfield 19, 11, 1, 0), (50, 3, .getfield 134, 3, 2, 0), (53, 3, .if_icmp .ge (54), 107, 0, 0), (56, 2, .iload 4, 4, 0, 0), (58, 1, .i2l, 0, 0, 0), (59, 1, .aload_n 0, 0, 0, 0), (60, 3, .getfield 19, 11, 1, 0), (63, 3, .getfield 261, 3, 0, 0), (66, 2, .iload 7, 7, 0, 0), (68, 1, .iaload, 0, 0, 0), (69, 3, .invokestatic 201, 1, 0, 0), (72, 3, .ifCond .eq (29), 101, 0, 0), (75, 1, .aload_n 3, 3, 0, 0), (76, 1, .aload_n 0, 0, 0, 0), (77, 3, .getfield 19, 11, 1, 0), (80, 3, .getfield 263, 3, 1, 0), (83, 2, .iload 7, 7, 0, 0), (85, 1, .iaload, 0, 0, 0), (86, 3, .invokevirtual 266, 2, 0, 0), (89, 3, .ifCond .eq (12), 101, 0, 0), (92, 2, .lload 5, 5, 0, 0), (94, 1, .lconst 1, 0, 0, 1), (95, 2, .iload 7, 7, 0, 0), (97, 1, .lshl, 0, 0, 0), (98, 1, .lor, 0, 0, 0), (99, 2, .lstore 5, 5, 0, 0), (101, 3, .iinc 7 (1), 7, 0, 1), (104, 3, .goto (-60), 44, 0, 0), (107, 2, .lload 5, 5, 0, 0), (109, 1, .lreturn, 0, 0, 0)]
def t_X11_badMakes : mo_T := (cX11_badMakes, RX11, 8, 2, { frames := 3, cells := 0, slots := 0, locals := 71 })
theorem ok_X11_badMakes : mo_good t_X11_badMakes p_X11_badMakes = true ∧ mo_chain 0 p_X11_badMakes = true := by decide +kernel
def p_X11_hitMakes : List mo_I := [(0, 1, .aload_n 0, 0, 0, 0), (1, 3, .getfield 79, 11, 10, 0), (4, 1, .aload_n 0, 0, 0, 0), (5, 3, .getfield 26, 11, 2, 0), (8, 1, .iload_n 2, 2, 0, 0), (9, 1, .iload_n 3, 3, 0, 0), (10, 3, .invokevirtual 234, 0, 0, 0), (13, 1, .aload_n 0, 0, 0, 0), (14, 3, .getfield 79, 11, 10, 0), (17, 1, .aload_n 0, 0, 0, 0), (18, 1, .iload_n 1, 1, 0, 0), (19, 1, .iload_n 2, 2, 0, 0), (20, 3, .invokevirtual 197, 1, 0, 0), (23, 3, .invokevirtual 238, 2, 0, 0), (26, 1, .lreturn, 0, 0, 0)]
def t_X11_hitMakes : mo_T := (cX11_hitMakes, RX11, 4, 2, { frames := 4, cells := 0, slots := 0, locals := 98 })
theorem ok_X11_hitMakes : mo_good t_X11_hitMakes p_X11_hitMakes = true ∧ mo_chain 0 p_X11_hitMakes = true := by decide +kernel
def p_X11_trace : List mo_I := [(0, 1, .aload_n 0, 0, 0, 0), (1, 1, .iload_n 1, 1, 0, 0), (2, 1, .iload_n 3, 3, 0, 0), (3, 1, .iconst (0), 0, 0, 0), (4, 3, .invokevirtual 214, 0, 0, 0), (7, 1, .iload_n 2, 2, 0, 0), (8, 3, .invokestatic 201, 1, 0, 0), (11, 3, .ifCond .eq (5), 16, 0, 0), (14, 1, .iconst (2), 0, 0, 2), (15, 1, .ireturn, 0, 0, 0), (16, 1, .aload_n 0, 0, 0, 0), (17, 1, .iload_n 1, 1, 0, 0), (18, 1, .iload_n 3, 3, 0, 0), (19, 1, .iconst (1), 0, 0, 1), (20, 3, .invokevirtual 214, 0, 0, 0), (23, 1, .iload_n 2, 2, 0, 0), (24, 3, .invokestatic 201, 1, 0, 0), (27, 3, .ifCond .eq (7), 34, 0, 0), (30, 1, .iconst (1), 0, 0, 1), (31, 3, .goto (4), 35, 0, 0), (34, 1, .iconst (0), 0, 0, 0), (35, 1, .ireturn, 0, 0, 0)]
def t_X11_trace : mo_T := (cX11_trace, RX11, 4, 1, { frames := 5, cells := 0, slots := 0, locals := 121 })
theorem ok_X11_trace : mo_good t_X11_trace p_X11_trace = true ∧ mo_chain 0 p_X11_trace = true := by decide +kernel
def p_X11_groupsInside : List mo_I := [(0, 1, .iconst (0), 0, 0, 0), (1, 2, .istore 4, 4, 0, 0), (3, 1, .iconst (0), 0, 0, 0), (4, 2, .istore 5, 5, 0, 0), (6, 2, .iload 5, 5, 0, 0), (8, 1, .aload_n 0, 0, 0, 0), (9, 3, .getfield 26, 11, 2, 0), (12, 3, .getfield 143, 2, 5, 0), (15, 3, .if_icmp .ge (89), 104, 0, 0), (18, 1, .aload_n 0, 0, 0, 0), (19, 3, .getfield 26, 11, 2, 0), (22, 3, .getfield 269, 2, 0, 0), (25, 2, .iload 5, 5, 0, 0), (27, 1, .iaload, 0, 0, 0), (28, 1, .iload_n 1, 1, 0, 0), (29, 3, .if_icmp .ne (69), 98, 0, 0), (32, 1, .aload_n 0, 0, 0, 0), (33, 3, .getfield 26, 11, 2, 0), (36, 3, .getfield 272, 2, 2, 0), (39, 2, .iload 5, 5, 0, 0), (41, 1, .iaload, 0, 0, 0), (42, 1, .iload_n 2, 2, 0, 0), (43, 3, .if_icmp .ne (55), 98, 0, 0), (46, 1, .aload_n 0, 0, 0, 0), (47, 3, .getfield 26, 11, 2, 0), (50, 2, .iload 5, 5, 0, 0), (52, 1, .iload_n 3, 3, 0, 0), (53, 3, .invokevirtual 157, 0, 0, 0), (56, 3, .ifCond .eq (42), 98, 0, 0), (59, 1, .aload_n 0, 0, 0, 0), (60, 3, .getfield 50, 11, 6, 0), (63, 3, .getfield 179, 0, 0, 0), (66, 1, .aload_n 0, 0, 0, 0), (67, 3, .getfield 19, 11, 1, 0), (70, 3, .getfield 261, 3, 0, 0), (73, 1, .aload_n 0, 0, 0, 0), (74, 3, .getfield 26, 11, 2, 0), (77, 3, .getfield 275, 2, 1, 0), (80, 2, .iload 5, 5, 0, 0), (82, 1, .iaload, 0, 0, 0), (83, 1, .iaload, 0, 0, 0), (84, 1, .iaload, 0, 0, 0), (85, 2, .istore 6, 6, 0, 0), (87, 2, .iload 4, 4, 0, 0), (89, 2, .iload 6, 6, 0, 0), (91, 2, .iload 6, 6, 0, 0), (93, 1, .ineg, 0, 0, 0), (94, 1, .iand, 0, 0, 0), (95, 1, .ior, 0, 0, 0), (96, 2, .istore 4, 4, 0, 0), (98, 3, .iinc 5 (1), 5, 0, 1), (101, 3, .goto (-95), 6, 0, 0), (104, 2, .iload 4, 4, 0, 0), (106, 1, .ireturn, 0, 0, 0)]
def t_X11_groupsInside : mo_T := (cX11_groupsInside, RX11, 7, 1, { frames := 1, cells := 0, slots := 0, locals := 22 })
theorem ok_X11_groupsInside : mo_good t_X11_groupsInside p_X11_groupsInside = true ∧ mo_chain 0 p_X11_groupsInside = true := by decide +kernel
def p_X11_raiseQuestions : List mo_I := [(0, 1, .aload_n 0, 0, 0, 0), (1, 3, .getfield 86, 11, 11, 0), (4, 3, .invokevirtual 278, 0, 0, 0), (7, 1, .iconst (0), 0, 0, 0), (8, 1, .istore_n 2, 2, 0, 0), (9, 1, .iload_n 2, 2, 0, 0), (10, 1, .aload_n 0, 0, 0, 0), (11, 3, .getfield 26, 11, 2, 0), (14, 3, .getfield 143, 2, 5, 0), (17, 3, .if_icmp .ge (67), 84, 0, 0), (20, 1, .aload_n 0, 0, 0, 0), (21, 3, .getfield 26, 11, 2, 0), (24, 3, .getfield 272, 2, 2, 0), (27, 1, .iload_n 2, 2, 0, 0), (28, 1, .iaload, 0, 0, 0), (29, 1, .iconst (3), 0, 0, 3), (30, 3, .if_icmp .ne (48), 78, 0, 0), (33, 1, .aload_n 0, 0, 0, 0), (34, 3, .getfield 26, 11, 2, 0), (37, 1, .iload_n 2, 2, 0, 0), (38, 1, .iload_n 1, 1, 0, 0), (39, 3, .invokevirtual 157, 1, 0, 0), (42, 3, .ifCond .eq (36), 78, 0, 0), (45, 1, .aload_n 0, 0, 0, 0), (46, 3, .getfield 86, 11, 11, 0), (49, 1, .aload_n 0, 0, 0, 0), (50, 1, .aload_n 0, 0, 0, 0), (51, 3, .getfield 26, 11, 2, 0), (54, 3, .getfield 269, 2, 0, 0), (57, 1, .iload_n 2, 2, 0, 0), (58, 1, .iaload, 0, 0, 0), (59, 3, .invokevirtual 281, 2, 0, 0), (62, 1, .aload_n 0, 0, 0, 0), (63, 1, .aload_n 0, 0, 0, 0), (64, 3, .getfield 26, 11, 2, 0), (67, 3, .getfield 275, 2, 1, 0), (70, 1, .iload_n 2, 2, 0, 0), (71, 1, .iaload, 0, 0, 0), (72, 3, .invokevirtual 281, 2, 0, 0), (75, 3, .invokevirtual 284, 3, 0, 0), (78, 3, .iinc 2 (1), 2, 0, 1), (81, 3, .goto (-72), 9, 0, 0), (84, 1, .return_, 0, 0, 0)]
def t_X11_raiseQuestions : mo_T := (cX11_raiseQuestions, RX11, 3, 0, { frames := 2, cells := 0, slots := 0, locals := 43 })
theorem ok_X11_raiseQuestions : mo_good t_X11_raiseQuestions p_X11_raiseQuestions = true ∧ mo_chain 0 p_X11_raiseQuestions = true := by decide +kernel
def p_X11_makerOf : List mo_I := [(0, 1, .aload_n 0, 0, 0, 0), (1, 3, .getfield 10, 11, 0, 0), (4, 3, .getfield 287, 5, 0, 0), (7, 1, .aload_n 0, 0, 0, 0), (8, 3, .getfield 19, 11, 1, 0), (11, 3, .getfield 261, 3, 0, 0), (14, 1, .iload_n 1, 1, 0, 0), (15, 1, .iaload, 0, 0, 0), (16, 1, .iaload, 0, 0, 0), (17, 1, .ireturn, 0, 0, 0)]
def t_X11_makerOf : mo_T := (cX11_makerOf, RX11, 2, 1, { frames := 0, cells := 0, slots := 0, locals := 0 })
theorem ok_X11_makerOf : mo_good t_X11_makerOf p_X11_makerOf = true ∧ mo_chain 0 p_X11_makerOf = true := by decide +kernel
def p_J6_bitCount_0f7a4 : List mo_I := [(0, 1, .iload_n 0, 0, 0, 0), (1, 1, .iload_n 0, 0, 0, 0), (2, 1, .iconst (1), 0, 0, 1), (3, 1, .iushr, 0, 0, 0), (4, 3, .ldc_w 265, 0, 0, 1431655765), (7, 1, .iand, 0, 0, 0), (8, 1, .isub, 0, 0, 0), (9, 1, .istore_n 0, 0, 0, 0), (10, 1, .iload_n 0, 0, 0, 0), (11, 3, .ldc_w 266, 0, 0, 858993459), (14, 1, .iand, 0, 0, 0), (15, 1, .iload_n 0, 0, 0, 0), (16, 1, .iconst (2), 0, 0, 2), (17, 1, .iushr, 0, 0, 0), (18, 3, .ldc_w 266, 0, 0, 858993459), (21, 1, .iand, 0, 0, 0), (22, 1, .iadd, 0, 0, 0), (23, 1, .istore_n 0, 0, 0, 0), (24, 1, .iload_n 0, 0, 0, 0), (25, 1, .iload_n 0, 0, 0, 0), (26, 1, .iconst (4), 0, 0, 4), (27, 1, .iushr, 0, 0, 0), (28, 1, .iadd, 0, 0, 0), (29, 3, .ldc_w 267, 0, 0, 252645135), (32, 1, .iand, 0, 0, 0), (33, 1, .istore_n 0, 0, 0, 0), (34, 1, .iload_n 0, 0, 0, 0), (35, 1, .iload_n 0, 0, 0, 0), (36, 2, .bipush (8), 0, 0, 8), (38, 1, .iushr, 0, 0, 0), (39, 1, .iadd, 0, 0, 0), (40, 1, .istore_n 0, 0, 0, 0), (41, 1, .iload_n 0, 0, 0, 0), (42, 1, .iload_n 0, 0, 0, 0), (43, 2, .bipush (16), 0, 0, 16), (45, 1, .iushr, 0, 0, 0), (46, 1, .iadd, 0, 0, 0), (47, 1, .istore_n 0, 0, 0, 0), (48, 1, .iload_n 0, 0, 0, 0), (49, 2, .bipush (63), 0, 0, 63), (51, 1, .iand, 0, 0, 0), (52, 1, .ireturn, 0, 0, 0)]
def t_J6_bitCount_0f7a4 : mo_T := (cJ6_bitCount_0f7a4, RJ6, 1, 1, { frames := 0, cells := 0, slots := 0, locals := 0 })
theorem ok_J6_bitCount_0f7a4 : mo_good t_J6_bitCount_0f7a4 p_J6_bitCount_0f7a4 = true ∧ mo_chain 0 p_J6_bitCount_0f7a4 = true := by decide +kernel
def p_J9_max_7cf53 : List mo_I := [(0, 1, .iload_n 0, 0, 0, 0), (1, 1, .iload_n 1, 1, 0, 0), (2, 3, .if_icmp .lt (7), 9, 0, 0), (5, 1, .iload_n 0, 0, 0, 0), (6, 3, .goto (4), 10, 0, 0), (9, 1, .iload_n 1, 1, 0, 0), (10, 1, .ireturn, 0, 0, 0)]
def t_J9_max_7cf53 : mo_T := (cJ9_max_7cf53, RJ9, 2, 1, { frames := 0, cells := 0, slots := 0, locals := 0 })
theorem ok_J9_max_7cf53 : mo_good t_J9_max_7cf53 p_J9_max_7cf53 = true ∧ mo_chain 0 p_J9_max_7cf53 = true := by decide +kernel
def p_J9_min_7cf53 : List mo_I := [(0, 1, .iload_n 0, 0, 0, 0), (1, 1, .iload_n 1, 1, 0, 0), (2, 3, .if_icmp .gt (7), 9, 0, 0), (5, 1, .iload_n 0, 0, 0, 0), (6, 3, .goto (4), 10, 0, 0), (9, 1, .iload_n 1, 1, 0, 0), (10, 1, .ireturn, 0, 0, 0)]
def t_J9_min_7cf53 : mo_T := (cJ9_min_7cf53, RJ9, 2, 1, { frames := 0, cells := 0, slots := 0, locals := 0 })
theorem ok_J9_min_7cf53 : mo_good t_J9_min_7cf53 p_J9_min_7cf53 = true ∧ mo_chain 0 p_J9_min_7cf53 = true := by decide +kernel
def p_J7_fill_d0a16 : List mo_I := [(0, 1, .iconst (0), 0, 0, 0), (1, 1, .istore_n 3, 3, 0, 0), (2, 1, .aload_n 0, 0, 0, 0), (3, 1, .arraylength, 0, 0, 0), (4, 2, .istore 4, 4, 0, 0), (6, 1, .iload_n 3, 3, 0, 0), (7, 2, .iload 4, 4, 0, 0), (9, 3, .if_icmp .ge (13), 22, 0, 0), (12, 1, .aload_n 0, 0, 0, 0), (13, 1, .iload_n 3, 3, 0, 0), (14, 1, .lload_n 1, 1, 0, 0), (15, 1, .lastore, 0, 0, 0), (16, 3, .iinc 3 (1), 3, 0, 1), (19, 3, .goto (-13), 6, 0, 0), (22, 1, .return_, 0, 0, 0)]
def t_J7_fill_d0a16 : mo_T := (cJ7_fill_d0a16, RJ7, 5, 0, { frames := 0, cells := 0, slots := 0, locals := 0 })
theorem ok_J7_fill_d0a16 : mo_good t_J7_fill_d0a16 p_J7_fill_d0a16 = true ∧ mo_chain 0 p_J7_fill_d0a16 = true := by decide +kernel
def p_J7_fill_53178 : List mo_I := [(0, 1, .iconst (0), 0, 0, 0), (1, 1, .istore_n 2, 2, 0, 0), (2, 1, .aload_n 0, 0, 0, 0), (3, 1, .arraylength, 0, 0, 0), (4, 1, .istore_n 3, 3, 0, 0), (5, 1, .iload_n 2, 2, 0, 0), (6, 1, .iload_n 3, 3, 0, 0), (7, 3, .if_icmp .ge (13), 20, 0, 0), (10, 1, .aload_n 0, 0, 0, 0), (11, 1, .iload_n 2, 2, 0, 0), (12, 1, .iload_n 1, 1, 0, 0), (13, 1, .iastore, 0, 0, 0), (14, 3, .iinc 2 (1), 2, 0, 1), (17, 3, .goto (-12), 5, 0, 0), (20, 1, .return_, 0, 0, 0)]
def t_J7_fill_53178 : mo_T := (cJ7_fill_53178, RJ7, 4, 0, { frames := 0, cells := 0, slots := 0, locals := 0 })
theorem ok_J7_fill_53178 : mo_good t_J7_fill_53178 p_J7_fill_53178 = true ∧ mo_chain 0 p_J7_fill_53178 = true := by decide +kernel
end
section
def p_X12_in : List mo_I := [(0, 1, .iload_n 0, 0, 0, 0), (1, 1, .iload_n 1, 1, 0, 0), (2, 3, .if_icmp .lt (12), 14, 0, 0), (5, 1, .iload_n 0, 0, 0, 0), (6, 1, .iload_n 2, 2, 0, 0), (7, 3, .if_icmp .gt (7), 14, 0, 0), (10, 1, .iconst (1), 0, 0, 1), (11, 3, .goto (4), 15, 0, 0), (14, 1, .iconst (0), 0, 0, 0), (15, 1, .ireturn, 0, 0, 0)]
def t_X12_in : mo_T := (cX12_in, RX12, 3, 3, { frames := 0, cells := 0, slots := 0, locals := 0 })
theorem ok_X12_in : mo_good t_X12_in p_X12_in = true ∧ mo_chain 0 p_X12_in = true := by decide +kernel
def p_X12_isDay : List mo_I := [(0, 1, .iload_n 0, 0, 0, 0), (1, 1, .iconst (0), 0, 0, 0), (2, 3, .sipush (10000), 0, 0, 10000), (5, 3, .invokestatic 109, 0, 0, 0), (8, 1, .ireturn, 0, 0, 0)]
def t_X12_isDay : mo_T := (cX12_isDay, RX12, 1, 3, { frames := 1, cells := 0, slots := 0, locals := 22 })
theorem ok_X12_isDay : mo_good t_X12_isDay p_X12_isDay = true ∧ mo_chain 0 p_X12_isDay = true := by decide +kernel
def p_X12_ends : List mo_I := [(0, 1, .aload_n 0, 0, 0, 0), (1, 1, .iload_n 1, 1, 0, 0), (2, 3, .ifCond .ge (7), 9, 0, 0), (5, 1, .iload_n 1, 1, 0, 0), (6, 3, .goto (4), 10, 0, 0), (9, 1, .iconst (0), 0, 0, 0), (10, 3, .putfield 113, 12, 0, 0), (13, 1, .iload_n 1, 1, 0, 0), (14, 1, .ireturn, 0, 0, 0)]
def t_X12_ends : mo_T := (cX12_ends, RX12, 2, 1, { frames := 0, cells := 0, slots := 0, locals := 0 })
theorem ok_X12_ends : mo_good t_X12_ends p_X12_ends = true ∧ mo_chain 0 p_X12_ends = true := by decide +kernel
def p_X12_isPart : List mo_I := [(0, 1, .iload_n 1, 1, 0, 0), (1, 1, .iconst (0), 0, 0, 0), (2, 1, .aload_n 0, 0, 0, 0), (3, 3, .getfield 116, 12, 1, 0), (6, 1, .iconst (1), 0, 0, 1), (7, 1, .isub, 0, 0, 0), (8, 3, .invokestatic 109, 0, 0, 0), (11, 1, .ireturn, 0, 0, 0)]
def t_X12_isPart : mo_T := (cX12_isPart, RX12, 2, 3, { frames := 1, cells := 0, slots := 0, locals := 22 })
theorem ok_X12_isPart : mo_good t_X12_isPart p_X12_isPart = true ∧ mo_chain 0 p_X12_isPart = true := by decide +kernel
def p_X12_isMake : List mo_I := [(0, 1, .iload_n 1, 1, 0, 0), (1, 1, .iconst (0), 0, 0, 0), (2, 1, .aload_n 0, 0, 0, 0), (3, 3, .getfield 119, 12, 2, 0), (6, 1, .iconst (1), 0, 0, 1), (7, 1, .isub, 0, 0, 0), (8, 3, .invokestatic 109, 0, 0, 0), (11, 1, .ireturn, 0, 0, 0)]
def t_X12_isMake : mo_T := (cX12_isMake, RX12, 2, 3, { frames := 1, cells := 0, slots := 0, locals := 22 })
theorem ok_X12_isMake : mo_good t_X12_isMake p_X12_isMake = true ∧ mo_chain 0 p_X12_isMake = true := by decide +kernel
def p_X12_part : List mo_I := [(0, 1, .iload_n 1, 1, 0, 0), (1, 1, .iconst (0), 0, 0, 0), (2, 2, .bipush (9), 0, 0, 9), (4, 3, .invokestatic 109, 0, 0, 0), (7, 3, .ifCond .ne (9), 16, 0, 0), (10, 1, .aload_n 0, 0, 0, 0), (11, 1, .iconst (-1), 0, 0, -1), (12, 3, .invokevirtual 122, 1, 0, 0), (15, 1, .ireturn, 0, 0, 0), (16, 1, .aload_n 0, 0, 0, 0), (17, 3, .getfield 116, 12, 1, 0), (20, 2, .bipush (30), 0, 0, 30), (22, 3, .if_icmp .ne (10), 32, 0, 0), (25, 1, .aload_n 0, 0, 0, 0), (26, 2, .bipush (-5), 0, 0, -5), (28, 3, .invokevirtual 122, 1, 0, 0), (31, 1, .ireturn, 0, 0, 0), (32, 1, .aload_n 0, 0, 0, 0), (33, 3, .getfield 7, 12, 3, 0), (36, 1, .aload_n 0, 0, 0, 0), (37, 3, .getfield 116, 12, 1, 0), (40, 1, .iload_n 1, 1, 0, 0), (41, 1, .iastore, 0, 0, 0), (42, 1, .aload_n 0, 0, 0, 0), (43, 1, .dup, 0, 0, 0), (44, 3, .getfield 116, 12, 1, 0), (47, 1, .iconst (1), 0, 0, 1), (48, 1, .iadd, 0, 0, 0), (49, 3, .putfield 116, 12, 1, 0), (52, 1, .aload_n 0, 0, 0, 0), (53, 1, .aload_n 0, 0, 0, 0), (54, 3, .getfield 116, 12, 1, 0), (57, 1, .iconst (1), 0, 0, 1), (58, 1, .isub, 0, 0, 0), (59, 3, .invokevirtual 122, 1, 0, 0), (62, 1, .ireturn, 0, 0, 0)]
def t_X12_part : mo_T := (cX12_part, RX12, 2, 1, { frames := 1, cells := 0, slots := 0, locals := 22 })
theorem ok_X12_part : mo_good t_X12_part p_X12_part = true ∧ mo_chain 0 p_X12_part = true := by decide +kernel
def p_X12_versionOf : List mo_I := [(0, 1, .iload_n 0, 0, 0, 0), (1, 3, .sipush (1000), 0, 0, 1000), (4, 1, .imul, 0, 0, 0), (5, 1, .iload_n 1, 1, 0, 0), (6, 1, .iadd, 0, 0, 0), (7, 3, .sipush (1000), 0, 0, 1000), (10, 1, .imul, 0, 0, 0), (11, 1, .iload_n 2, 2, 0, 0), (12, 1, .iadd, 0, 0, 0), (13, 1, .ireturn, 0, 0, 0)]
def t_X12_versionOf : mo_T := (cX12_versionOf, RX12, 3, 1, { frames := 0, cells := 0, slots := 0, locals := 0 })
theorem ok_X12_versionOf : mo_good t_X12_versionOf p_X12_versionOf = true ∧ mo_chain 0 p_X12_versionOf = true := by decide +kernel
def p_X12_areGood : List mo_I := [(0, 1, .iload_n 0, 0, 0, 0), (1, 1, .iconst (0), 0, 0, 0), (2, 3, .sipush (999), 0, 0, 999), (5, 3, .invokestatic 109, 0, 0, 0), (8, 3, .ifCond .eq (29), 37, 0, 0), (11, 1, .iload_n 1, 1, 0, 0), (12, 1, .iconst (0), 0, 0, 0), (13, 3, .sipush (999), 0, 0, 999), (16, 3, .invokestatic 109, 0, 0, 0), (19, 3, .ifCond .eq (18), 37, 0, 0), (22, 1, .iload_n 2, 2, 0, 0), (23, 1, .iconst (0), 0, 0, 0), (24, 3, .sipush (999), 0, 0, 999), (27, 3, .invokestatic 109, 0, 0, 0), (30, 3, .ifCond .eq (7), 37, 0, 0), (33, 1, .iconst (1), 0, 0, 1), (34, 3, .goto (4), 38, 0, 0), (37, 1, .iconst (0), 0, 0, 0), (38, 1, .ireturn, 0, 0, 0)]
def t_X12_areGood : mo_T := (cX12_areGood, RX12, 3, 3, { frames := 1, cells := 0, slots := 0, locals := 22 })
theorem ok_X12_areGood : mo_good t_X12_areGood p_X12_areGood = true ∧ mo_chain 0 p_X12_areGood = true := by decide +kernel
def p_X12_found : List mo_I := [(0, 1, .iconst (0), 0, 0, 0), (1, 1, .istore_n 3, 3, 0, 0), (2, 1, .iload_n 3, 3, 0, 0), (3, 1, .aload_n 0, 0, 0, 0), (4, 3, .getfield 119, 12, 2, 0), (7, 3, .if_icmp .ge (31), 38, 0, 0), (10, 1, .aload_n 0, 0, 0, 0), (11, 3, .getfield 13, 12, 4, 0), (14, 1, .iload_n 3, 3, 0, 0), (15, 1, .iaload, 0, 0, 0), (16, 1, .iload_n 1, 1, 0, 0), (17, 3, .if_icmp .ne (15), 32, 0, 0), (20, 1, .aload_n 0, 0, 0, 0), (21, 3, .getfield 16, 12, 5, 0), (24, 1, .iload_n 3, 3, 0, 0), (25, 1, .iaload, 0, 0, 0), (26, 1, .iload_n 2, 2, 0, 0), (27, 3, .if_icmp .ne (5), 32, 0, 0), (30, 1, .iload_n 3, 3, 0, 0), (31, 1, .ireturn, 0, 0, 0), (32, 3, .iinc 3 (1), 3, 0, 1), (35, 3, .goto (-33), 2, 0, 0), (38, 1, .iconst (-1), 0, 0, -1), (39, 1, .ireturn, 0, 0, 0)]
def t_X12_found : mo_T := (cX12_found, RX12, 4, 1, { frames := 0, cells := 0, slots := 0, locals := 0 })
theorem ok_X12_found : mo_good t_X12_found p_X12_found = true ∧ mo_chain 0 p_X12_found = true := by decide +kernel
def p_X12_make : List mo_I := [(0, 1, .iload_n 2, 2, 0, 0), (1, 1, .iload_n 3, 3, 0, 0), (2, 2, .iload 4, 4, 0, 0), (4, 3, .invokestatic 126, 0, 0, 0), (7, 3, .ifCond .ne (9), 16, 0, 0), (10, 1, .aload_n 0, 0, 0, 0), (11, 1, .iconst (-1), 0, 0, -1), (12, 3, .invokevirtual 122, 1, 0, 0), (15, 1, .ireturn, 0, 0, 0), (16, 1, .aload_n 0, 0, 0, 0), (17, 1, .iload_n 1, 1, 0, 0), (18, 3, .invokevirtual 129, 2, 0, 0), (21, 3, .ifCond .ne (10), 31, 0, 0), (24, 1, .aload_n 0, 0, 0, 0), (25, 2, .bipush (-2), 0, 0, -2), (27, 3, .invokevirtual 122, 1, 0, 0), (30, 1, .ireturn, 0, 0, 0), (31, 1, .aload_n 0, 0, 0, 0), (32, 1, .iload_n 1, 1, 0, 0), (33, 1, .iload_n 2, 2, 0, 0), (34, 1, .iload_n 3, 3, 0, 0), (35, 2, .iload 4, 4, 0, 0), (37, 3, .invokestatic 133, 3, 0, 0), (40, 3, .invokevirtual 137, 4, 0, 0), (43, 1, .iconst (-1), 0, 0, -1), (44, 3, .if_icmp .eq (10), 54, 0, 0), (47, 1, .aload_n 0, 0, 0, 0), (48, 2, .bipush (-4), 0, 0, -4), (50, 3, .invokevirtual 122, 1, 0, 0), (53, 1, .ireturn, 0, 0, 0), (54, 1, .aload_n 0, 0, 0, 0), (55, 3, .getfield 119, 12, 2, 0), (58, 2, .bipush (60), 0, 0, 60), (60, 3, .if_icmp .ne (10), 70, 0, 0), (63, 1, .aload_n 0, 0, 0, 0), (64, 2, .bipush (-5), 0, 0, -5), (66, 3, .invokevirtual 122, 1, 0, 0), (69, 1, .ireturn, 0, 0, 0), (70, 1, .aload_n 0, 0, 0, 0), (71, 3, .getfield 13, 12, 4, 0), (74, 1, .aload_n 0, 0, 0, 0), (75, 3, .getfield 119, 12, 2, 0), (78, 1, .iload_n 1, 1, 0, 0), (79, 1, .iastore, 0, 0, 0), (80, 1, .aload_n 0, 0, 0, 0), (81, 3, .getfield 16, 12, 5, 0), (84, 1, .aload_n 0, 0, 0, 0), (85, 3, .getfield 119, 12, 2, 0), (88, 1, .iload_n 2, 2, 0, 0), (89, 1, .iload_n 3, 3, 0, 0), (90, 2, .iload 4, 4, 0, 0), (92, 3, .invokestatic 133, 3, 0, 0), (95, 1, .iastore, 0, 0, 0), (96, 1, .aload_n 0, 0, 0, 0), (97, 1, .dup, 0, 0, 0), (98, 3, .getfield 119, 12, 2, 0), (101, 1, .iconst (1), 0, 0, 1), (102, 1, .iadd, 0, 0, 0), (103, 3, .putfield 119, 12, 2, 0), (106, 1, .aload_n 0, 0, 0, 0), (107, 1, .aload_n 0, 0, 0, 0), (108, 3, .getfield 119, 12, 2, 0), (111, 1, .iconst (1), 0, 0, 1), (112, 1, .isub, 0, 0, 0), (113, 3, .invokevirtual 122, 1, 0, 0), (116, 1, .ireturn, 0, 0, 0)]
def t_X12_make : mo_T := (cX12_make, RX12, 5, 1, { frames := 2, cells := 0, slots := 0, locals := 44 })
theorem ok_X12_make : mo_good t_X12_make p_X12_make = true ∧ mo_chain 0 p_X12_make = true := by decide +kernel
def p_X12_find : List mo_I := [(0, 1, .iload_n 2, 2, 0, 0), (1, 1, .iload_n 3, 3, 0, 0), (2, 2, .iload 4, 4, 0, 0), (4, 3, .invokestatic 126, 0, 0, 0), (7, 3, .ifCond .eq (18), 25, 0, 0), (10, 1, .aload_n 0, 0, 0, 0), (11, 1, .iload_n 1, 1, 0, 0), (12, 1, .iload_n 2, 2, 0, 0), (13, 1, .iload_n 3, 3, 0, 0), (14, 2, .iload 4, 4, 0, 0), (16, 3, .invokestatic 133, 1, 0, 0), (19, 3, .invokevirtual 137, 2, 0, 0), (22, 3, .goto (4), 26, 0, 0), (25, 1, .iconst (-1), 0, 0, -1), (26, 1, .ireturn, 0, 0, 0)]
def t_X12_find : mo_T := (cX12_find, RX12, 5, 1, { frames := 2, cells := 0, slots := 0, locals := 44 })
theorem ok_X12_find : mo_good t_X12_find p_X12_find = true ∧ mo_chain 0 p_X12_find = true := by decide +kernel
def p_X12_link : List mo_I := [(0, 1, .iload_n 3, 3, 0, 0), (1, 1, .iconst (0), 0, 0, 0), (2, 1, .iconst (3), 0, 0, 3), (3, 3, .invokestatic 109, 0, 0, 0), (6, 3, .ifCond .eq (11), 17, 0, 0), (9, 2, .iload 4, 4, 0, 0), (11, 3, .invokestatic 141, 1, 0, 0), (14, 3, .ifCond .ne (9), 23, 0, 0), (17, 1, .aload_n 0, 0, 0, 0), (18, 1, .iconst (-1), 0, 0, -1), (19, 3, .invokevirtual 122, 2, 0, 0), (22, 1, .ireturn, 0, 0, 0), (23, 1, .aload_n 0, 0, 0, 0), (24, 1, .iload_n 1, 1, 0, 0), (25, 3, .invokevirtual 144, 3, 0, 0), (28, 3, .ifCond .eq (11), 39, 0, 0), (31, 1, .aload_n 0, 0, 0, 0), (32, 1, .iload_n 2, 2, 0, 0), (33, 3, .invokevirtual 144, 3, 0, 0), (36, 3, .ifCond .ne (10), 46, 0, 0), (39, 1, .aload_n 0, 0, 0, 0), (40, 2, .bipush (-2), 0, 0, -2), (42, 3, .invokevirtual 122, 2, 0, 0), (45, 1, .ireturn, 0, 0, 0), (46, 1, .iload_n 1, 1, 0, 0), (47, 1, .iload_n 2, 2, 0, 0), (48, 3, .if_icmp .ne (10), 58, 0, 0), (51, 1, .aload_n 0, 0, 0, 0), (52, 2, .bipush (-4), 0, 0, -4), (54, 3, .invokevirtual 122, 2, 0, 0), (57, 1, .ireturn, 0, 0, 0), (58, 1, .aload_n 0, 0, 0, 0), (59, 3, .getfield 147, 12, 6, 0), (62, 3, .sipush (200), 0, 0, 200), (65, 3, .if_icmp .ne (10), 75, 0, 0), (68, 1, .aload_n 0, 0, 0, 0), (69, 2, .bipush (-5), 0, 0, -5), (71, 3, .invokevirtual 122, 2, 0, 0), (74, 1, .ireturn, 0, 0, 0), (75, 1, .aload_n 0, 0, 0, 0), (76, 3, .getfield 19, 12, 7, 0), (79, 1, .aload_n 0, 0, 0, 0), (80, 3, .getfield 147, 12, 6, 0), (83, 1, .iload_n 1, 1, 0, 0), (84, 1, .iastore, 0, 0, 0), (85, 1, .aload_n 0, 0, 0, 0), (86, 3, .getfield 22, 12, 8, 0), (89, 1, .aload_n 0, 0, 0, 0), (90, 3, .getfield 147, 12, 6, 0), (93, 1, .iload_n 2, 2, 0, 0), (94, 1, .iastore, 0, 0, 0), (95, 1, .aload_n 0, 0, 0, 0), (96, 3, .getfield 25, 12, 9, 0), (99, 1, .aload_n 0, 0, 0, 0), (100, 3, .getfield 147, 12, 6, 0), (103, 1, .iload_n 3, 3, 0, 0), (104, 1, .iastore, 0, 0, 0), (105, 1, .aload_n 0, 0, 0, 0), (106, 3, .getfield 28, 12, 10, 0), (109, 1, .aload_n 0, 0, 0, 0), (110, 3, .getfield 147, 12, 6, 0), (113, 2, .iload 4, 4, 0, 0), (115, 1, .iastore, 0, 0, 0), (116, 1, .aload_n 0, 0, 0, 0), (117, 3, .getfield 31, 12, 11, 0), (120, 1, .aload_n 0, 0, 0, 0), (121, 3, .getfield 147, 12, 6, 0), (124, 3, .sipush (10001), 0, 0, 10001), (127, 1, .iastore, 0, 0, 0), (128, 1, .aload_n 0, 0, 0, 0), (129, 1, .dup, 0, 0, 0), (130, 3, .getfield 147, 12, 6, 0), (133, 1, .iconst (1), 0, 0, 1), (134, 1, .iadd, 0, 0, 0), (135, 3, .putfield 147, 12, 6, 0), (138, 1, .aload_n 0, 0, 0, 0), (139, 1, .aload_n 0, 0, 0, 0), (140, 3, .getfield 147, 12, 6, 0), (143, 1, .iconst (1), 0, 0, 1), (144, 1, .isub, 0, 0, 0), (145, 3, .invokevirtual 122, 2, 0, 0), (148, 1, .ireturn, 0, 0, 0)]
def t_X12_link : mo_T := (cX12_link, RX12, 5, 1, { frames := 2, cells := 0, slots := 0, locals := 43 })
theorem ok_X12_link : mo_good t_X12_link p_X12_link = true ∧ mo_chain 0 p_X12_link = true := by decide +kernel
def p_X12_cut : List mo_I := [(0, 1, .iload_n 2, 2, 0, 0), (1, 3, .invokestatic 141, 0, 0, 0), (4, 3, .ifCond .ne (9), 13, 0, 0), (7, 1, .aload_n 0, 0, 0, 0), (8, 1, .iconst (-1), 0, 0, -1), (9, 3, .invokevirtual 122, 1, 0, 0), (12, 1, .ireturn, 0, 0, 0), (13, 1, .iload_n 1, 1, 0, 0), (14, 1, .iconst (0), 0, 0, 0), (15, 1, .aload_n 0, 0, 0, 0), (16, 3, .getfield 147, 12, 6, 0), (19, 1, .iconst (1), 0, 0, 1), (20, 1, .isub, 0, 0, 0), (21, 3, .invokestatic 109, 2, 0, 0), (24, 3, .ifCond .ne (10), 34, 0, 0), (27, 1, .aload_n 0, 0, 0, 0), (28, 2, .bipush (-2), 0, 0, -2), (30, 3, .invokevirtual 122, 1, 0, 0), (33, 1, .ireturn, 0, 0, 0), (34, 1, .aload_n 0, 0, 0, 0), (35, 3, .getfield 31, 12, 11, 0), (38, 1, .iload_n 1, 1, 0, 0), (39, 1, .iaload, 0, 0, 0), (40, 3, .sipush (10000), 0, 0, 10000), (43, 3, .if_icmp .gt (10), 53, 0, 0), (46, 1, .aload_n 0, 0, 0, 0), (47, 2, .bipush (-4), 0, 0, -4), (49, 3, .invokevirtual 122, 1, 0, 0), (52, 1, .ireturn, 0, 0, 0), (53, 1, .aload_n 0, 0, 0, 0), (54, 3, .getfield 31, 12, 11, 0), (57, 1, .iload_n 1, 1, 0, 0), (58, 1, .iload_n 2, 2, 0, 0), (59, 1, .iastore, 0, 0, 0), (60, 1, .aload_n 0, 0, 0, 0), (61, 1, .iconst (0), 0, 0, 0), (62, 3, .invokevirtual 122, 1, 0, 0), (65, 1, .ireturn, 0, 0, 0)]
def t_X12_cut : mo_T := (cX12_cut, RX12, 3, 1, { frames := 2, cells := 0, slots := 0, locals := 42 })
theorem ok_X12_cut : mo_good t_X12_cut p_X12_cut = true ∧ mo_chain 0 p_X12_cut = true := by decide +kernel
def p_X12_is : List mo_I := [(0, 1, .aload_n 0, 0, 0, 0), (1, 3, .getfield 28, 12, 10, 0), (4, 1, .iload_n 1, 1, 0, 0), (5, 1, .iaload, 0, 0, 0), (6, 1, .iload_n 2, 2, 0, 0), (7, 3, .if_icmp .gt (17), 24, 0, 0), (10, 1, .iload_n 2, 2, 0, 0), (11, 1, .aload_n 0, 0, 0, 0), (12, 3, .getfield 31, 12, 11, 0), (15, 1, .iload_n 1, 1, 0, 0), (16, 1, .iaload, 0, 0, 0), (17, 3, .if_icmp .ge (7), 24, 0, 0), (20, 1, .iconst (1), 0, 0, 1), (21, 3, .goto (4), 25, 0, 0), (24, 1, .iconst (0), 0, 0, 0), (25, 1, .ireturn, 0, 0, 0)]
def t_X12_is : mo_T := (cX12_is, RX12, 3, 3, { frames := 0, cells := 0, slots := 0, locals := 0 })
theorem ok_X12_is : mo_good t_X12_is p_X12_is = true ∧ mo_chain 0 p_X12_is = true := by decide +kernel
def p_X12_counts : List mo_I := [(0, 1, .iload_n 1, 1, 0, 0), (1, 1, .iconst (0), 0, 0, 0), (2, 1, .aload_n 0, 0, 0, 0), (3, 3, .getfield 147, 12, 6, 0), (6, 1, .iconst (1), 0, 0, 1), (7, 1, .isub, 0, 0, 0), (8, 3, .invokestatic 109, 0, 0, 0), (11, 3, .ifCond .eq (10), 21, 0, 0), (14, 1, .iload_n 2, 2, 0, 0), (15, 3, .invokestatic 141, 1, 0, 0), (18, 3, .ifCond .ne (7), 25, 0, 0), (21, 1, .iconst (-1), 0, 0, -1), (22, 3, .goto (17), 39, 0, 0), (25, 1, .aload_n 0, 0, 0, 0), (26, 1, .iload_n 1, 1, 0, 0), (27, 1, .iload_n 2, 2, 0, 0), (28, 3, .invokevirtual 150, 2, 0, 0), (31, 3, .ifCond .eq (7), 38, 0, 0), (34, 1, .iconst (1), 0, 0, 1), (35, 3, .goto (4), 39, 0, 0), (38, 1, .iconst (0), 0, 0, 0), (39, 1, .ireturn, 0, 0, 0)]
def t_X12_counts : mo_T := (cX12_counts, RX12, 3, 1, { frames := 2, cells := 0, slots := 0, locals := 42 })
theorem ok_X12_counts : mo_good t_X12_counts p_X12_counts = true ∧ mo_chain 0 p_X12_counts = true := by decide +kernel
def p_X12_hold : List mo_I := [(0, 1, .iload_n 1, 1, 0, 0), (1, 1, .iconst (0), 0, 0, 0), (2, 2, .bipush (29), 0, 0, 29), (4, 3, .invokestatic 109, 0, 0, 0), (7, 3, .ifCond .eq (30), 37, 0, 0), (10, 1, .iload_n 3, 3, 0, 0), (11, 3, .invokestatic 141, 1, 0, 0), (14, 3, .ifCond .eq (23), 37, 0, 0), (17, 2, .iload 4, 4, 0, 0), (19, 1, .iload_n 3, 3, 0, 0), (20, 3, .sipush (10000), 0, 0, 10000), (23, 3, .invokestatic 109, 0, 0, 0), (26, 3, .ifCond .eq (11), 37, 0, 0), (29, 2, .iload 5, 5, 0, 0), (31, 3, .invokestatic 141, 1, 0, 0), (34, 3, .ifCond .ne (9), 43, 0, 0), (37, 1, .aload_n 0, 0, 0, 0), (38, 1, .iconst (-1), 0, 0, -1), (39, 3, .invokevirtual 122, 2, 0, 0), (42, 1, .ireturn, 0, 0, 0), (43, 1, .aload_n 0, 0, 0, 0), (44, 1, .iload_n 2, 2, 0, 0), (45, 3, .invokevirtual 144, 3, 0, 0), (48, 3, .ifCond .ne (10), 58, 0, 0), (51, 1, .aload_n 0, 0, 0, 0), (52, 2, .bipush (-2), 0, 0, -2), (54, 3, .invokevirtual 122, 2, 0, 0), (57, 1, .ireturn, 0, 0, 0), (58, 1, .aload_n 0, 0, 0, 0), (59, 3, .getfield 154, 12, 12, 0), (62, 2, .bipush (100), 0, 0, 100), (64, 3, .if_icmp .ne (10), 74, 0, 0), (67, 1, .aload_n 0, 0, 0, 0), (68, 2, .bipush (-5), 0, 0, -5), (70, 3, .invokevirtual 122, 2, 0, 0), (73, 1, .ireturn, 0, 0, 0), (74, 1, .aload_n 0, 0, 0, 0), (75, 3, .getfield 34, 12, 13, 0), (78, 1, .aload_n 0, 0, 0, 0), (79, 3, .getfield 154, 12, 12, 0), (82, 1, .iload_n 1, 1, 0, 0), (83, 1, .iastore, 0, 0, 0), (84, 1, .aload_n 0, 0, 0, 0), (85, 3, .getfield 37, 12, 14, 0), (88, 1, .aload_n 0, 0, 0, 0), (89, 3, .getfield 154, 12, 12, 0), (92, 1, .iload_n 2, 2, 0, 0), (93, 1, .iastore, 0, 0, 0), (94, 1, .aload_n 0, 0, 0, 0), (95, 3, .getfield 40, 12, 15, 0), (98, 1, .aload_n 0, 0, 0, 0), (99, 3, .getfield 154, 12, 12, 0), (102, 1, .iload_n 3, 3, 0, 0), (103, 1, .iastore, 0, 0, 0), (104, 1, .aload_n 0, 0, 0, 0), (105, 3, .getfield 43, 12, 16, 0), (108, 1, .aload_n 0, 0, 0, 0), (109, 3, .getfield 154, 12, 12, 0), (112, 2, .iload 4, 4, 0, 0), (114, 1, .iastore, 0, 0, 0), (115, 1, .aload_n 0, 0, 0, 0), (116, 3, .getfield 46, 12, 17, 0), (119, 1, .aload_n 0, 0, 0, 0), (120, 3, .getfield 154, 12, 12, 0), (123, 2, .iload 5, 5, 0, 0), (125, 1, .iastore, 0, 0, 0), (126, 1, .aload_n 0, 0, 0, 0), (127, 1, .dup, 0, 0, 0), (128, 3, .getfield 154, 12, 12, 0), (131, 1, .iconst (1), 0, 0, 1), (132, 1, .iadd, 0, 0, 0), (133, 3, .putfield 154, 12, 12, 0), (136, 1, .aload_n 0, 0, 0, 0), (137, 1, .aload_n 0, 0, 0, 0), (138, 3, .getfield 154, 12, 12, 0), (141, 3, .invokevirtual 122, 2, 0, 0), (144, 1, .ireturn, 0, 0, 0)]
def t_X12_hold : mo_T := (cX12_hold, RX12, 6, 1, { frames := 2, cells := 0, slots := 0, locals := 43 })
theorem ok_X12_hold : mo_good t_X12_hold p_X12_hold = true ∧ mo_chain 0 p_X12_hold = true := by decide +kernel
def p_X12_pairs : List mo_I := [(0, 1, .iload_n 3, 3, 0, 0), (1, 3, .invokestatic 141, 0, 0, 0), (4, 3, .ifCond .ne (7), 11, 0, 0), (7, 1, .iconst (-1), 0, 0, -1), (8, 3, .goto (35), 43, 0, 0), (11, 1, .aload_n 0, 0, 0, 0), (12, 1, .iload_n 1, 1, 0, 0), (13, 3, .invokevirtual 129, 1, 0, 0), (16, 3, .ifCond .eq (11), 27, 0, 0), (19, 1, .aload_n 0, 0, 0, 0), (20, 1, .iload_n 2, 2, 0, 0), (21, 3, .invokevirtual 129, 1, 0, 0), (24, 3, .ifCond .ne (8), 32, 0, 0), (27, 2, .bipush (-2), 0, 0, -2), (29, 3, .goto (14), 43, 0, 0), (32, 1, .iload_n 1, 1, 0, 0), (33, 1, .iload_n 2, 2, 0, 0), (34, 3, .if_icmp .ne (8), 42, 0, 0), (37, 2, .bipush (-4), 0, 0, -4), (39, 3, .goto (4), 43, 0, 0), (42, 1, .iconst (0), 0, 0, 0), (43, 1, .ireturn, 0, 0, 0)]
def t_X12_pairs : mo_T := (cX12_pairs, RX12, 4, 1, { frames := 2, cells := 0, slots := 0, locals := 43 })
theorem ok_X12_pairs : mo_good t_X12_pairs p_X12_pairs = true ∧ mo_chain 0 p_X12_pairs = true := by decide +kernel
def p_X12_join : List mo_I := [(0, 1, .aload_n 0, 0, 0, 0), (1, 1, .iload_n 1, 1, 0, 0), (2, 1, .iload_n 2, 2, 0, 0), (3, 1, .iload_n 3, 3, 0, 0), (4, 3, .invokevirtual 157, 0, 0, 0), (7, 2, .istore 4, 4, 0, 0), (9, 2, .iload 4, 4, 0, 0), (11, 3, .ifCond .ge (10), 21, 0, 0), (14, 1, .aload_n 0, 0, 0, 0), (15, 2, .iload 4, 4, 0, 0), (17, 3, .invokevirtual 122, 1, 0, 0), (20, 1, .ireturn, 0, 0, 0), (21, 1, .aload_n 0, 0, 0, 0), (22, 3, .getfield 160, 12, 18, 0), (25, 2, .bipush (40), 0, 0, 40), (27, 3, .if_icmp .ne (10), 37, 0, 0), (30, 1, .aload_n 0, 0, 0, 0), (31, 2, .bipush (-5), 0, 0, -5), (33, 3, .invokevirtual 122, 1, 0, 0), (36, 1, .ireturn, 0, 0, 0), (37, 1, .aload_n 0, 0, 0, 0), (38, 3, .getfield 49, 12, 20, 0), (41, 1, .aload_n 0, 0, 0, 0), (42, 3, .getfield 160, 12, 18, 0), (45, 1, .iload_n 1, 1, 0, 0), (46, 1, .iastore, 0, 0, 0), (47, 1, .aload_n 0, 0, 0, 0), (48, 3, .getfield 52, 12, 21, 0), (51, 1, .aload_n 0, 0, 0, 0), (52, 3, .getfield 160, 12, 18, 0), (55, 1, .iload_n 2, 2, 0, 0), (56, 1, .iastore, 0, 0, 0), (57, 1, .aload_n 0, 0, 0, 0), (58, 3, .getfield 55, 12, 22, 0), (61, 1, .aload_n 0, 0, 0, 0), (62, 3, .getfield 160, 12, 18, 0), (65, 1, .iload_n 3, 3, 0, 0), (66, 1, .iastore, 0, 0, 0), (67, 1, .aload_n 0, 0, 0, 0), (68, 1, .dup, 0, 0, 0), (69, 3, .getfield 160, 12, 18, 0), (72, 1, .iconst (1), 0, 0, 1), (73, 1, .iadd, 0, 0, 0), (74, 3, .putfield 160, 12, 18, 0), (77, 1, .aload_n 0, 0, 0, 0), (78, 1, .aload_n 0, 0, 0, 0), (79, 3, .getfield 160, 12, 18, 0), (82, 1, .iconst (1), 0, 0, 1), (83, 1, .isub, 0, 0, 0), (84, 3, .invokevirtual 122, 1, 0, 0), (87, 1, .ireturn, 0, 0, 0)]
def t_X12_join : mo_T := (cX12_join, RX12, 5, 1, { frames := 3, cells := 0, slots := 0, locals := 66 })
theorem ok_X12_join : mo_good t_X12_join p_X12_join = true ∧ mo_chain 0 p_X12_join = true := by decide +kernel
def p_X12_undo : List mo_I := [(0, 1, .iload_n 1, 1, 0, 0), (1, 1, .iconst (0), 0, 0, 0), (2, 1, .aload_n 0, 0, 0, 0), (3, 3, .getfield 160, 12, 18, 0), (6, 1, .iconst (1), 0, 0, 1), (7, 1, .isub, 0, 0, 0), (8, 3, .invokestatic 109, 0, 0, 0), (11, 3, .ifCond .ne (10), 21, 0, 0), (14, 1, .aload_n 0, 0, 0, 0), (15, 2, .bipush (-2), 0, 0, -2), (17, 3, .invokevirtual 122, 1, 0, 0), (20, 1, .ireturn, 0, 0, 0), (21, 1, .aload_n 0, 0, 0, 0), (22, 3, .getfield 58, 12, 23, 0), (25, 1, .iload_n 1, 1, 0, 0), (26, 1, .baload, 0, 0, 0), (27, 3, .ifCond .eq (10), 37, 0, 0), (30, 1, .aload_n 0, 0, 0, 0), (31, 2, .bipush (-4), 0, 0, -4), (33, 3, .invokevirtual 122, 1, 0, 0), (36, 1, .ireturn, 0, 0, 0), (37, 1, .aload_n 0, 0, 0, 0), (38, 3, .getfield 58, 12, 23, 0), (41, 1, .iload_n 1, 1, 0, 0), (42, 1, .iconst (1), 0, 0, 1), (43, 1, .bastore, 0, 0, 0), (44, 1, .aload_n 0, 0, 0, 0), (45, 1, .iconst (0), 0, 0, 0), (46, 3, .invokevirtual 122, 1, 0, 0), (49, 1, .ireturn, 0, 0, 0)]
def t_X12_undo : mo_T := (cX12_undo, RX12, 2, 1, { frames := 1, cells := 0, slots := 0, locals := 22 })
theorem ok_X12_undo : mo_good t_X12_undo p_X12_undo = true ∧ mo_chain 0 p_X12_undo = true := by decide +kernel
def p_X12_unlike : List mo_I := [(0, 1, .aload_n 0, 0, 0, 0), (1, 1, .iload_n 1, 1, 0, 0), (2, 1, .iload_n 2, 2, 0, 0), (3, 1, .iload_n 3, 3, 0, 0), (4, 3, .invokevirtual 157, 0, 0, 0), (7, 2, .istore 4, 4, 0, 0), (9, 2, .iload 4, 4, 0, 0), (11, 3, .ifCond .ge (10), 21, 0, 0), (14, 1, .aload_n 0, 0, 0, 0), (15, 2, .iload 4, 4, 0, 0), (17, 3, .invokevirtual 122, 1, 0, 0), (20, 1, .ireturn, 0, 0, 0), (21, 1, .aload_n 0, 0, 0, 0), (22, 3, .getfield 163, 12, 19, 0), (25, 2, .bipush (40), 0, 0, 40), (27, 3, .if_icmp .ne (10), 37, 0, 0), (30, 1, .aload_n 0, 0, 0, 0), (31, 2, .bipush (-5), 0, 0, -5), (33, 3, .invokevirtual 122, 1, 0, 0), (36, 1, .ireturn, 0, 0, 0), (37, 1, .aload_n 0, 0, 0, 0), (38, 3, .getfield 62, 12, 24, 0), (41, 1, .aload_n 0, 0, 0, 0), (42, 3, .getfield 163, 12, 19, 0), (45, 1, .iload_n 1, 1, 0, 0), (46, 1, .iastore, 0, 0, 0), (47, 1, .aload_n 0, 0, 0, 0), (48, 3, .getfield 65, 12, 25, 0), (51, 1, .aload_n 0, 0, 0, 0), (52, 3, .getfield 163, 12, 19, 0), (55, 1, .iload_n 2, 2, 0, 0), (56, 1, .iastore, 0, 0, 0), (57, 1, .aload_n 0, 0, 0, 0), (58, 3, .getfield 68, 12, 26, 0), (61, 1, .aload_n 0, 0, 0, 0), (62, 3, .getfield 163, 12, 19, 0), (65, 1, .iload_n 3, 3, 0, 0), (66, 1, .iastore, 0, 0, 0), (67, 1, .aload_n 0, 0, 0, 0), (68, 1, .dup, 0, 0, 0), (69, 3, .getfield 163, 12, 19, 0), (72, 1, .iconst (1), 0, 0, 1), (73, 1, .iadd, 0, 0, 0), (74, 3, .putfield 163, 12, 19, 0), (77, 1, .aload_n 0, 0, 0, 0), (78, 1, .aload_n 0, 0, 0, 0), (79, 3, .getfield 163, 12, 19, 0), (82, 3, .invokevirtual 122, 1, 0, 0), (85, 1, .ireturn, 0, 0, 0)]
def t_X12_unlike : mo_T := (cX12_unlike, RX12, 5, 1, { frames := 3, cells := 0, slots := 0, locals := 66 })
theorem ok_X12_unlike : mo_good t_X12_unlike p_X12_unlike = true ∧ mo_chain 0 p_X12_unlike = true := by decide +kernel
def p_X12_isQuarrel : List mo_I := [(0, 1, .iconst (0), 0, 0, 0), (1, 2, .istore 4, 4, 0, 0), (3, 2, .iload 4, 4, 0, 0), (5, 1, .aload_n 0, 0, 0, 0), (6, 3, .getfield 163, 12, 19, 0), (9, 3, .if_icmp .ge (77), 86, 0, 0), (12, 1, .aload_n 0, 0, 0, 0), (13, 3, .getfield 68, 12, 26, 0), (16, 2, .iload 4, 4, 0, 0), (18, 1, .iaload, 0, 0, 0), (19, 1, .iload_n 3, 3, 0, 0), (20, 3, .if_icmp .le (6), 26, 0, 0), (23, 3, .goto (57), 80, 0, 0), (26, 1, .aload_n 0, 0, 0, 0), (27, 3, .getfield 71, 12, 27, 0), (30, 1, .aload_n 0, 0, 0, 0), (31, 3, .getfield 62, 12, 24, 0), (34, 2, .iload 4, 4, 0, 0), (36, 1, .iaload, 0, 0, 0), (37, 1, .iaload, 0, 0, 0), (38, 2, .istore 5, 5, 0, 0), (40, 1, .aload_n 0, 0, 0, 0), (41, 3, .getfield 71, 12, 27, 0), (44, 1, .aload_n 0, 0, 0, 0), (45, 3, .getfield 65, 12, 25, 0), (48, 2, .iload 4, 4, 0, 0), (50, 1, .iaload, 0, 0, 0), (51, 1, .iaload, 0, 0, 0), (52, 2, .istore 6, 6, 0, 0), (54, 2, .iload 5, 5, 0, 0), (56, 1, .iload_n 1, 1, 0, 0), (57, 3, .if_icmp .ne (9), 66, 0, 0), (60, 2, .iload 6, 6, 0, 0), (62, 1, .iload_n 2, 2, 0, 0), (63, 3, .if_icmp .eq (15), 78, 0, 0), (66, 2, .iload 5, 5, 0, 0), (68, 1, .iload_n 2, 2, 0, 0), (69, 3, .if_icmp .ne (11), 80, 0, 0), (72, 2, .iload 6, 6, 0, 0), (74, 1, .iload_n 1, 1, 0, 0), (75, 3, .if_icmp .ne (5), 80, 0, 0), (78, 1, .iconst (1), 0, 0, 1), (79, 1, .ireturn, 0, 0, 0), (80, 3, .iinc 4 (1), 4, 0, 1), (83, 3, .goto (-80), 3, 0, 0), (86, 1, .iconst (0), 0, 0, 0), (87, 1, .ireturn, 0, 0, 0)]
def t_X12_isQuarrel : mo_T := (cX12_isQuarrel, RX12, 7, 3, { frames := 0, cells := 0, slots := 0, locals := 0 })
theorem ok_X12_isQuarrel : mo_good t_X12_isQuarrel p_X12_isQuarrel = true ∧ mo_chain 0 p_X12_isQuarrel = true := by decide +kernel
def p_X12_gathers : List mo_I := [(0, 1, .aload_n 0, 0, 0, 0), (1, 1, .iconst (0), 0, 0, 0), (2, 3, .putfield 166, 12, 28, 0), (5, 1, .iconst (0), 0, 0, 0), (6, 1, .istore_n 2, 2, 0, 0), (7, 1, .iload_n 2, 2, 0, 0), (8, 2, .bipush (30), 0, 0, 30), (10, 3, .if_icmp .ge (16), 26, 0, 0), (13, 1, .aload_n 0, 0, 0, 0), (14, 3, .getfield 71, 12, 27, 0), (17, 1, .iload_n 2, 2, 0, 0), (18, 1, .iload_n 2, 2, 0, 0), (19, 1, .iastore, 0, 0, 0), (20, 3, .iinc 2 (1), 2, 0, 1), (23, 3, .goto (-16), 7, 0, 0), (26, 1, .iconst (0), 0, 0, 0), (27, 1, .istore_n 2, 2, 0, 0), (28, 1, .iload_n 2, 2, 0, 0), (29, 1, .aload_n 0, 0, 0, 0), (30, 3, .getfield 160, 12, 18, 0), (33, 3, .if_icmp .ge (151), 184, 0, 0), (36, 1, .aload_n 0, 0, 0, 0), (37, 3, .getfield 58, 12, 23, 0), (40, 1, .iload_n 2, 2, 0, 0), (41, 1, .baload, 0, 0, 0), (42, 3, .ifCond .ne (136), 178, 0, 0), (45, 1, .aload_n 0, 0, 0, 0), (46, 3, .getfield 55, 12, 22, 0), (49, 1, .iload_n 2, 2, 0, 0), (50, 1, .iaload, 0, 0, 0), (51, 1, .iload_n 1, 1, 0, 0), (52, 3, .if_icmp .le (6), 58, 0, 0), (55, 3, .goto (123), 178, 0, 0), (58, 1, .aload_n 0, 0, 0, 0), (59, 3, .getfield 71, 12, 27, 0), (62, 1, .aload_n 0, 0, 0, 0), (63, 3, .getfield 49, 12, 20, 0), (66, 1, .iload_n 2, 2, 0, 0), (67, 1, .iaload, 0, 0, 0), (68, 1, .iaload, 0, 0, 0), (69, 1, .istore_n 3, 3, 0, 0), (70, 1, .aload_n 0, 0, 0, 0), (71, 3, .getfield 71, 12, 27, 0), (74, 1, .aload_n 0, 0, 0, 0), (75, 3, .getfield 52, 12, 21, 0), (78, 1, .iload_n 2, 2, 0, 0), (79, 1, .iaload, 0, 0, 0), (80, 1, .iaload, 0, 0, 0), (81, 2, .istore 4, 4, 0, 0), (83, 1, .iload_n 3, 3, 0, 0), (84, 2, .iload 4, 4, 0, 0), (86, 3, .if_icmp .ne (6), 92, 0, 0), (89, 3, .goto (89), 178, 0, 0), (92, 1, .aload_n 0, 0, 0, 0), (93, 1, .iload_n 3, 3, 0, 0), (94, 2, .iload 4, 4, 0, 0), (96, 1, .iload_n 1, 1, 0, 0), (97, 3, .invokevirtual 169, 0, 0, 0), (100, 3, .ifCond .eq (16), 116, 0, 0), (103, 1, .aload_n 0, 0, 0, 0), (104, 1, .dup, 0, 0, 0), (105, 3, .getfield 166, 12, 28, 0), (108, 1, .iconst (1), 0, 0, 1), (109, 1, .iadd, 0, 0, 0), (110, 3, .putfield 166, 12, 28, 0), (113, 3, .goto (65), 178, 0, 0), (116, 1, .iload_n 3, 3, 0, 0), (117, 2, .iload 4, 4, 0, 0), (119, 3, .if_icmp .ge (7), 126, 0, 0), (122, 1, .iload_n 3, 3, 0, 0), (123, 3, .goto (5), 128, 0, 0), (126, 2, .iload 4, 4, 0, 0), (128, 2, .istore 5, 5, 0, 0), (130, 1, .iconst (0), 0, 0, 0), (131, 2, .istore 6, 6, 0, 0), (133, 2, .iload 6, 6, 0, 0), (135, 2, .bipush (30), 0, 0, 30), (137, 3, .if_icmp .ge (41), 178, 0, 0), (140, 1, .aload_n 0, 0, 0, 0), (141, 3, .getfield 71, 12, 27, 0), (144, 2, .iload 6, 6, 0, 0), (146, 1, .iaload, 0, 0, 0), (147, 1, .iload_n 3, 3, 0, 0), (148, 3, .if_icmp .eq (15), 163, 0, 0), (151, 1, .aload_n 0, 0, 0, 0), (152, 3, .getfield 71, 12, 27, 0), (155, 2, .iload 6, 6, 0, 0), (157, 1, .iaload, 0, 0, 0), (158, 2, .iload 4, 4, 0, 0), (160, 3, .if_icmp .ne (12), 172, 0, 0), (163, 1, .aload_n 0, 0, 0, 0), (164, 3, .getfield 71, 12, 27, 0), (167, 2, .iload 6, 6, 0, 0), (169, 2, .iload 5, 5, 0, 0), (171, 1, .iastore, 0, 0, 0), (172, 3, .iinc 6 (1), 6, 0, 1), (175, 3, .goto (-42), 133, 0, 0), (178, 3, .iinc 2 (1), 2, 0, 1), (181, 3, .goto (-153), 28, 0, 0), (184, 1, .return_, 0, 0, 0)]
def t_X12_gathers : mo_T := (cX12_gathers, RX12, 7, 0, { frames := 1, cells := 0, slots := 0, locals := 26 })
theorem ok_X12_gathers : mo_good t_X12_gathers p_X12_gathers = true ∧ mo_chain 0 p_X12_gathers = true := by decide +kernel
def p_X12_group : List mo_I := [(0, 1, .aload_n 0, 0, 0, 0), (1, 1, .iload_n 1, 1, 0, 0), (2, 3, .invokevirtual 129, 0, 0, 0), (5, 3, .ifCond .eq (10), 15, 0, 0), (8, 1, .iload_n 2, 2, 0, 0), (9, 3, .invokestatic 141, 1, 0, 0), (12, 3, .ifCond .ne (5), 17, 0, 0), (15, 1, .iconst (-1), 0, 0, -1), (16, 1, .ireturn, 0, 0, 0), (17, 1, .aload_n 0, 0, 0, 0), (18, 1, .iload_n 2, 2, 0, 0), (19, 3, .invokevirtual 172, 2, 0, 0), (22, 1, .aload_n 0, 0, 0, 0), (23, 3, .getfield 71, 12, 27, 0), (26, 1, .iload_n 1, 1, 0, 0), (27, 1, .iaload, 0, 0, 0), (28, 1, .ireturn, 0, 0, 0)]
def t_X12_group : mo_T := (cX12_group, RX12, 3, 1, { frames := 2, cells := 0, slots := 0, locals := 52 })
theorem ok_X12_group : mo_good t_X12_group p_X12_group = true ∧ mo_chain 0 p_X12_group = true := by decide +kernel
def p_X12_quarrels : List mo_I := [(0, 1, .iload_n 1, 1, 0, 0), (1, 3, .invokestatic 141, 0, 0, 0), (4, 3, .ifCond .ne (5), 9, 0, 0), (7, 1, .iconst (-1), 0, 0, -1), (8, 1, .ireturn, 0, 0, 0), (9, 1, .aload_n 0, 0, 0, 0), (10, 1, .iload_n 1, 1, 0, 0), (11, 3, .invokevirtual 172, 1, 0, 0), (14, 1, .aload_n 0, 0, 0, 0), (15, 3, .getfield 166, 12, 28, 0), (18, 1, .ireturn, 0, 0, 0)]
def t_X12_quarrels : mo_T := (cX12_quarrels, RX12, 2, 1, { frames := 2, cells := 0, slots := 0, locals := 52 })
theorem ok_X12_quarrels : mo_good t_X12_quarrels p_X12_quarrels = true ∧ mo_chain 0 p_X12_quarrels = true := by decide +kernel
def p_X12_feed : List mo_I := [(0, 1, .aload_n 0, 0, 0, 0), (1, 3, .getfield 176, 12, 30, 0), (4, 2, .bipush (20), 0, 0, 20), (6, 1, .iadd, 0, 0, 0), (7, 3, .sipush (200), 0, 0, 200), (10, 3, .if_icmp .le (5), 15, 0, 0), (13, 1, .iconst (-1), 0, 0, -1), (14, 1, .ireturn, 0, 0, 0), (15, 1, .aload_n 0, 0, 0, 0), (16, 3, .getfield 100, 12, 45, 0), (19, 1, .iconst (0), 0, 0, 0), (20, 1, .iload_n 1, 1, 0, 0), (21, 1, .iastore, 0, 0, 0), (22, 1, .aload_n 0, 0, 0, 0), (23, 3, .getfield 100, 12, 45, 0), (26, 1, .iconst (1), 0, 0, 1), (27, 1, .iload_n 2, 2, 0, 0), (28, 1, .iastore, 0, 0, 0), (29, 1, .aload_n 0, 0, 0, 0), (30, 3, .getfield 100, 12, 45, 0), (33, 1, .iconst (2), 0, 0, 2), (34, 1, .iload_n 3, 3, 0, 0), (35, 1, .iastore, 0, 0, 0), (36, 1, .aload_n 0, 0, 0, 0), (37, 3, .getfield 100, 12, 45, 0), (40, 1, .iconst (3), 0, 0, 3), (41, 2, .iload 4, 4, 0, 0), (43, 1, .iastore, 0, 0, 0), (44, 1, .aload_n 0, 0, 0, 0), (45, 3, .getfield 100, 12, 45, 0), (48, 1, .iconst (4), 0, 0, 4), (49, 2, .iload 5, 5, 0, 0), (51, 1, .iastore, 0, 0, 0), (52, 1, .iconst (0), 0, 0, 0), (53, 2, .istore 6, 6, 0, 0), (55, 2, .iload 6, 6, 0, 0), (57, 2, .bipush (20), 0, 0, 20), (59, 3, .if_icmp .ge (42), 101, 0, 0), (62, 1, .aload_n 0, 0, 0, 0), (63, 3, .getfield 74, 12, 29, 0), (66, 1, .aload_n 0, 0, 0, 0), (67, 3, .getfield 176, 12, 30, 0), (70, 2, .iload 6, 6, 0, 0), (72, 1, .iadd, 0, 0, 0), (73, 1, .aload_n 0, 0, 0, 0), (74, 3, .getfield 100, 12, 45, 0), (77, 2, .iload 6, 6, 0, 0), (79, 1, .iconst (4), 0, 0, 4), (80, 1, .idiv, 0, 0, 0), (81, 1, .iaload, 0, 0, 0), (82, 2, .bipush (24), 0, 0, 24), (84, 2, .bipush (8), 0, 0, 8), (86, 2, .iload 6, 6, 0, 0), (88, 1, .iconst (4), 0, 0, 4), (89, 1, .irem, 0, 0, 0), (90, 1, .imul, 0, 0, 0), (91, 1, .isub, 0, 0, 0), (92, 1, .ishr, 0, 0, 0), (93, 1, .i2b, 0, 0, 0), (94, 1, .bastore, 0, 0, 0), (95, 3, .iinc 6 (1), 6, 0, 1), (98, 3, .goto (-43), 55, 0, 0), (101, 1, .aload_n 0, 0, 0, 0), (102, 1, .dup, 0, 0, 0), (103, 3, .getfield 176, 12, 30, 0), (106, 2, .bipush (20), 0, 0, 20), (108, 1, .iadd, 0, 0, 0), (109, 3, .putfield 176, 12, 30, 0), (112, 1, .aload_n 0, 0, 0, 0), (113, 3, .getfield 176, 12, 30, 0), (116, 1, .ireturn, 0, 0, 0)]
def t_X12_feed : mo_T := (cX12_feed, RX12, 7, 1, { frames := 0, cells := 0, slots := 0, locals := 0 })
theorem ok_X12_feed : mo_good t_X12_feed p_X12_feed = true ∧ mo_chain 0 p_X12_feed = true := by decide +kernel
def p_X12_end : List mo_I := [(0, 1, .iload_n 1, 1, 0, 0), (1, 1, .iconst (0), 0, 0, 0), (2, 1, .aload_n 0, 0, 0, 0), (3, 3, .getfield 176, 12, 30, 0), (6, 3, .invokestatic 109, 0, 0, 0), (9, 3, .ifCond .ne (5), 14, 0, 0), (12, 1, .iconst (-1), 0, 0, -1), (13, 1, .ireturn, 0, 0, 0), (14, 1, .aload_n 0, 0, 0, 0), (15, 1, .iload_n 1, 1, 0, 0), (16, 3, .putfield 176, 12, 30, 0), (19, 1, .iload_n 1, 1, 0, 0), (20, 1, .ireturn, 0, 0, 0)]
def t_X12_end : mo_T := (cX12_end, RX12, 2, 1, { frames := 1, cells := 0, slots := 0, locals := 22 })
theorem ok_X12_end : mo_good t_X12_end p_X12_end = true ∧ mo_chain 0 p_X12_end = true := by decide +kernel
def p_X12_isIn : List mo_I := [(0, 1, .iload_n 1, 1, 0, 0), (1, 1, .aload_n 0, 0, 0, 0), (2, 3, .getfield 179, 12, 31, 0), (5, 3, .if_icmp .ge (27), 32, 0, 0), (8, 1, .aload_n 0, 0, 0, 0), (9, 3, .getfield 74, 12, 29, 0), (12, 1, .iload_n 1, 1, 0, 0), (13, 1, .baload, 0, 0, 0), (14, 1, .iload_n 2, 2, 0, 0), (15, 3, .if_icmp .lt (17), 32, 0, 0), (18, 1, .aload_n 0, 0, 0, 0), (19, 3, .getfield 74, 12, 29, 0), (22, 1, .iload_n 1, 1, 0, 0), (23, 1, .baload, 0, 0, 0), (24, 1, .iload_n 3, 3, 0, 0), (25, 3, .if_icmp .gt (7), 32, 0, 0), (28, 1, .iconst (1), 0, 0, 1), (29, 3, .goto (4), 33, 0, 0), (32, 1, .iconst (0), 0, 0, 0), (33, 1, .ireturn, 0, 0, 0)]
def t_X12_isIn : mo_T := (cX12_isIn, RX12, 4, 3, { frames := 0, cells := 0, slots := 0, locals := 0 })
theorem ok_X12_isIn : mo_good t_X12_isIn p_X12_isIn = true ∧ mo_chain 0 p_X12_isIn = true := by decide +kernel
def p_X12_next : List mo_I := [(0, 1, .aload_n 0, 0, 0, 0), (1, 1, .aload_n 0, 0, 0, 0), (2, 3, .getfield 182, 12, 33, 0), (5, 3, .putfield 185, 12, 32, 0), (8, 1, .aload_n 0, 0, 0, 0), (9, 3, .getfield 185, 12, 32, 0), (12, 1, .aload_n 0, 0, 0, 0), (13, 3, .getfield 179, 12, 31, 0), (16, 3, .if_icmp .ge (30), 46, 0, 0), (19, 1, .aload_n 0, 0, 0, 0), (20, 3, .getfield 74, 12, 29, 0), (23, 1, .aload_n 0, 0, 0, 0), (24, 3, .getfield 185, 12, 32, 0), (27, 1, .baload, 0, 0, 0), (28, 2, .bipush (32), 0, 0, 32), (30, 3, .if_icmp .ne (16), 46, 0, 0), (33, 1, .aload_n 0, 0, 0, 0), (34, 1, .dup, 0, 0, 0), (35, 3, .getfield 185, 12, 32, 0), (38, 1, .iconst (1), 0, 0, 1), (39, 1, .iadd, 0, 0, 0), (40, 3, .putfield 185, 12, 32, 0), (43, 3, .goto (-35), 8, 0, 0), (46, 1, .aload_n 0, 0, 0, 0), (47, 1, .aload_n 0, 0, 0, 0), (48, 3, .getfield 185, 12, 32, 0), (51, 3, .putfield 182, 12, 33, 0), (54, 1, .aload_n 0, 0, 0, 0), (55, 3, .getfield 185, 12, 32, 0), (58, 1, .aload_n 0, 0, 0, 0), (59, 3, .getfield 179, 12, 31, 0), (62, 3, .if_icmp .ne (4), 66, 0, 0), (65, 1, .return_, 0, 0, 0), (66, 1, .aload_n 0, 0, 0, 0), (67, 1, .aload_n 0, 0, 0, 0), (68, 3, .getfield 185, 12, 32, 0), (71, 2, .bipush (97), 0, 0, 97), (73, 2, .bipush (122), 0, 0, 122), (75, 3, .invokevirtual 188, 0, 0, 0), (78, 3, .ifCond .eq (31), 109, 0, 0), (81, 1, .aload_n 0, 0, 0, 0), (82, 1, .aload_n 0, 0, 0, 0), (83, 3, .getfield 182, 12, 33, 0), (86, 2, .bipush (97), 0, 0, 97), (88, 2, .bipush (122), 0, 0, 122), (90, 3, .invokevirtual 188, 0, 0, 0), (93, 3, .ifCond .eq (69), 162, 0, 0), (96, 1, .aload_n 0, 0, 0, 0), (97, 1, .dup, 0, 0, 0), (98, 3, .getfield 182, 12, 33, 0), (101, 1, .iconst (1), 0, 0, 1), (102, 1, .iadd, 0, 0, 0), (103, 3, .putfield 182, 12, 33, 0), (106, 3, .goto (-25), 81, 0, 0), (109, 1, .aload_n 0, 0, 0, 0), (110, 1, .aload_n 0, 0, 0, 0), (111, 3, .getfield 185, 12, 32, 0), (114, 2, .bipush (48), 0, 0, 48), (116, 2, .bipush (57), 0, 0, 57), (118, 3, .invokevirtual 188, 0, 0, 0), (121, 3, .ifCond .eq (31), 152, 0, 0), (124, 1, .aload_n 0, 0, 0, 0), (125, 1, .aload_n 0, 0, 0, 0), (126, 3, .getfield 182, 12, 33, 0), (129, 2, .bipush (48), 0, 0, 48), (131, 2, .bipush (57), 0, 0, 57), (133, 3, .invokevirtual 188, 0, 0, 0), (136, 3, .ifCond .eq (26), 162, 0, 0), (139, 1, .aload_n 0, 0, 0, 0), (140, 1, .dup, 0, 0, 0), (141, 3, .getfield 182, 12, 33, 0), (144, 1, .iconst (1), 0, 0, 1), (145, 1, .iadd, 0, 0, 0), (146, 3, .putfield 182, 12, 33, 0), (149, 3, .goto (-25), 124, 0, 0), (152, 1, .aload_n 0, 0, 0, 0), (153, 1, .dup, 0, 0, 0), (154, 3, .getfield 182, 12, 33, 0), (157, 1, .iconst (1), 0, 0, 1), (158, 1, .iadd, 0, 0, 0), (159, 3, .putfield 182, 12, 33, 0), (162, 1, .return_, 0, 0, 0)]
def t_X12_next : mo_T := (cX12_next, RX12, 1, 0, { frames := 1, cells := 0, slots := 0, locals := 23 })
theorem ok_X12_next : mo_good t_X12_next p_X12_next = true ∧ mo_chain 0 p_X12_next = true := by decide +kernel
def p_X12_isWord : List mo_I := [(0, 1, .lload_n 1, 1, 0, 0), (1, 1, .lstore_n 3, 3, 0, 0), (2, 1, .aload_n 0, 0, 0, 0), (3, 3, .getfield 185, 12, 32, 0), (6, 2, .istore 5, 5, 0, 0), (8, 1, .lload_n 3, 3, 0, 0), (9, 1, .lconst 0, 0, 0, 0), (10, 1, .lcmp, 0, 0, 0), (11, 3, .ifCond .le (45), 56, 0, 0), (14, 2, .iload 5, 5, 0, 0), (16, 1, .aload_n 0, 0, 0, 0), (17, 3, .getfield 182, 12, 33, 0), (20, 3, .if_icmp .ge (24), 44, 0, 0), (23, 1, .aload_n 0, 0, 0, 0), (24, 3, .getfield 74, 12, 29, 0), (27, 2, .iload 5, 5, 0, 0), (29, 1, .baload, 0, 0, 0), (30, 1, .i2l, 0, 0, 0), (31, 3, .ldc2_w 191, 0, 0, 96), (34, 1, .lload_n 3, 3, 0, 0), (35, 3, .ldc2_w 193, 0, 0, 31), (38, 1, .land, 0, 0, 0), (39, 1, .ladd, 0, 0, 0), (40, 1, .lcmp, 0, 0, 0), (41, 3, .ifCond .eq (5), 46, 0, 0), (44, 1, .iconst (0), 0, 0, 0), (45, 1, .ireturn, 0, 0, 0), (46, 1, .lload_n 3, 3, 0, 0), (47, 1, .iconst (5), 0, 0, 5), (48, 1, .lshr, 0, 0, 0), (49, 1, .lstore_n 3, 3, 0, 0), (50, 3, .iinc 5 (1), 5, 0, 1), (53, 3, .goto (-45), 8, 0, 0), (56, 2, .iload 5, 5, 0, 0), (58, 1, .aload_n 0, 0, 0, 0), (59, 3, .getfield 182, 12, 33, 0), (62, 3, .if_icmp .ne (7), 69, 0, 0), (65, 1, .iconst (1), 0, 0, 1), (66, 3, .goto (4), 70, 0, 0), (69, 1, .iconst (0), 0, 0, 0), (70, 1, .ireturn, 0, 0, 0)]
def t_X12_isWord : mo_T := (cX12_isWord, RX12, 6, 3, { frames := 0, cells := 0, slots := 0, locals := 0 })
theorem ok_X12_isWord : mo_good t_X12_isWord p_X12_isWord = true ∧ mo_chain 0 p_X12_isWord = true := by decide +kernel
def p_X12_isSign : List mo_I := [(0, 1, .aload_n 0, 0, 0, 0), (1, 3, .getfield 185, 12, 32, 0), (4, 1, .aload_n 0, 0, 0, 0), (5, 3, .getfield 179, 12, 31, 0), (8, 3, .if_icmp .ge (20), 28, 0, 0), (11, 1, .aload_n 0, 0, 0, 0), (12, 3, .getfield 74, 12, 29, 0), (15, 1, .aload_n 0, 0, 0, 0), (16, 3, .getfield 185, 12, 32, 0), (19, 1, .baload, 0, 0, 0), (20, 1, .iload_n 1, 1, 0, 0), (21, 3, .if_icmp .ne (7), 28, 0, 0), (24, 1, .iconst (1), 0, 0, 1), (25, 3, .goto (4), 29, 0, 0), (28, 1, .iconst (0), 0, 0, 0), (29, 1, .ireturn, 0, 0, 0)]
def t_X12_isSign : mo_T := (cX12_isSign, RX12, 2, 3, { frames := 0, cells := 0, slots := 0, locals := 0 })
theorem ok_X12_isSign : mo_good t_X12_isSign p_X12_isSign = true ∧ mo_chain 0 p_X12_isSign = true := by decide +kernel
def p_X12_good : List mo_I := [(0, 1, .aload_n 0, 0, 0, 0), (1, 3, .getfield 195, 12, 35, 0), (4, 1, .iconst (-1), 0, 0, -1), (5, 3, .if_icmp .ne (7), 12, 0, 0), (8, 1, .iconst (1), 0, 0, 1), (9, 3, .goto (4), 13, 0, 0), (12, 1, .iconst (0), 0, 0, 0), (13, 1, .ireturn, 0, 0, 0)]
def t_X12_good : mo_T := (cX12_good, RX12, 1, 3, { frames := 0, cells := 0, slots := 0, locals := 0 })
theorem ok_X12_good : mo_good t_X12_good p_X12_good = true ∧ mo_chain 0 p_X12_good = true := by decide +kernel
end
section
def p_X12_faults : List mo_I := [(0, 1, .aload_n 0, 0, 0, 0), (1, 3, .invokevirtual 198, 0, 0, 0), (4, 3, .ifCond .eq (11), 15, 0, 0), (7, 1, .aload_n 0, 0, 0, 0), (8, 1, .aload_n 0, 0, 0, 0), (9, 3, .getfield 185, 12, 32, 0), (12, 3, .putfield 195, 12, 35, 0), (15, 1, .return_, 0, 0, 0)]
def t_X12_faults : mo_T := (cX12_faults, RX12, 1, 0, { frames := 1, cells := 0, slots := 0, locals := 20 })
theorem ok_X12_faults : mo_good t_X12_faults p_X12_faults = true ∧ mo_chain 0 p_X12_faults = true := by decide +kernel
def p_X12_number : List mo_I := [(0, 1, .aload_n 0, 0, 0, 0), (1, 1, .aload_n 0, 0, 0, 0), (2, 3, .getfield 185, 12, 32, 0), (5, 2, .bipush (48), 0, 0, 48), (7, 2, .bipush (57), 0, 0, 57), (9, 3, .invokevirtual 188, 0, 0, 0), (12, 3, .ifCond .ne (9), 21, 0, 0), (15, 1, .aload_n 0, 0, 0, 0), (16, 3, .invokevirtual 202, 1, 0, 0), (19, 1, .iconst (0), 0, 0, 0), (20, 1, .ireturn, 0, 0, 0), (21, 1, .iconst (0), 0, 0, 0), (22, 1, .istore_n 2, 2, 0, 0), (23, 1, .aload_n 0, 0, 0, 0), (24, 3, .getfield 185, 12, 32, 0), (27, 1, .istore_n 3, 3, 0, 0), (28, 1, .iload_n 3, 3, 0, 0), (29, 1, .aload_n 0, 0, 0, 0), (30, 3, .getfield 182, 12, 33, 0), (33, 3, .if_icmp .ge (33), 66, 0, 0), (36, 1, .iload_n 2, 2, 0, 0), (37, 1, .iload_n 1, 1, 0, 0), (38, 3, .if_icmp .le (7), 45, 0, 0), (41, 1, .iload_n 2, 2, 0, 0), (42, 3, .goto (17), 59, 0, 0), (45, 2, .bipush (10), 0, 0, 10), (47, 1, .iload_n 2, 2, 0, 0), (48, 1, .imul, 0, 0, 0), (49, 1, .aload_n 0, 0, 0, 0), (50, 3, .getfield 74, 12, 29, 0), (53, 1, .iload_n 3, 3, 0, 0), (54, 1, .baload, 0, 0, 0), (55, 1, .iadd, 0, 0, 0), (56, 2, .bipush (48), 0, 0, 48), (58, 1, .isub, 0, 0, 0), (59, 1, .istore_n 2, 2, 0, 0), (60, 3, .iinc 3 (1), 3, 0, 1), (63, 3, .goto (-35), 28, 0, 0), (66, 1, .iload_n 2, 2, 0, 0), (67, 1, .iload_n 1, 1, 0, 0), (68, 3, .if_icmp .le (9), 77, 0, 0), (71, 1, .aload_n 0, 0, 0, 0), (72, 3, .invokevirtual 202, 1, 0, 0), (75, 1, .iconst (0), 0, 0, 0), (76, 1, .ireturn, 0, 0, 0), (77, 1, .aload_n 0, 0, 0, 0), (78, 3, .invokevirtual 205, 2, 0, 0), (81, 1, .iload_n 2, 2, 0, 0), (82, 1, .ireturn, 0, 0, 0)]
def t_X12_number : mo_T := (cX12_number, RX12, 4, 1, { frames := 2, cells := 0, slots := 0, locals := 43 })
theorem ok_X12_number : mo_good t_X12_number p_X12_number = true ∧ mo_chain 0 p_X12_number = true := by decide +kernel
def p_X12_puts : List mo_I := [(0, 1, .aload_n 0, 0, 0, 0), (1, 3, .invokevirtual 198, 0, 0, 0), (4, 3, .ifCond .ne (4), 8, 0, 0), (7, 1, .return_, 0, 0, 0), (8, 2, .bipush (30), 0, 0, 30), (10, 1, .aload_n 0, 0, 0, 0), (11, 3, .getfield 208, 12, 36, 0), (14, 1, .imul, 0, 0, 0), (15, 1, .aload_n 0, 0, 0, 0), (16, 3, .getfield 211, 12, 43, 0), (19, 1, .iadd, 0, 0, 0), (20, 1, .istore_n 3, 3, 0, 0), (21, 1, .aload_n 0, 0, 0, 0), (22, 3, .getfield 88, 12, 39, 0), (25, 1, .iload_n 3, 3, 0, 0), (26, 1, .iload_n 1, 1, 0, 0), (27, 1, .iastore, 0, 0, 0), (28, 1, .aload_n 0, 0, 0, 0), (29, 3, .getfield 91, 12, 40, 0), (32, 1, .iload_n 3, 3, 0, 0), (33, 1, .iload_n 2, 2, 0, 0), (34, 1, .iastore, 0, 0, 0), (35, 1, .aload_n 0, 0, 0, 0), (36, 3, .getfield 94, 12, 41, 0), (39, 1, .iload_n 3, 3, 0, 0), (40, 1, .aload_n 0, 0, 0, 0), (41, 3, .getfield 214, 12, 44, 0), (44, 1, .iastore, 0, 0, 0), (45, 1, .aload_n 0, 0, 0, 0), (46, 1, .dup, 0, 0, 0), (47, 3, .getfield 211, 12, 43, 0), (50, 1, .iconst (1), 0, 0, 1), (51, 1, .iadd, 0, 0, 0), (52, 3, .putfield 211, 12, 43, 0), (55, 1, .return_, 0, 0, 0)]
def t_X12_puts : mo_T := (cX12_puts, RX12, 4, 0, { frames := 1, cells := 0, slots := 0, locals := 20 })
theorem ok_X12_puts : mo_good t_X12_puts p_X12_puts = true ∧ mo_chain 0 p_X12_puts = true := by decide +kernel
def p_X12_reads : List mo_I := [(0, 1, .aload_n 0, 0, 0, 0), (1, 3, .sipush (999), 0, 0, 999), (4, 3, .invokevirtual 217, 0, 0, 0), (7, 1, .istore_n 1, 1, 0, 0), (8, 1, .iconst (0), 0, 0, 0), (9, 1, .istore_n 2, 2, 0, 0), (10, 1, .iconst (0), 0, 0, 0), (11, 1, .istore_n 3, 3, 0, 0), (12, 1, .aload_n 0, 0, 0, 0), (13, 3, .invokevirtual 198, 1, 0, 0), (16, 3, .ifCond .eq (52), 68, 0, 0), (19, 1, .aload_n 0, 0, 0, 0), (20, 2, .bipush (46), 0, 0, 46), (22, 3, .invokevirtual 220, 2, 0, 0), (25, 3, .ifCond .eq (43), 68, 0, 0), (28, 1, .aload_n 0, 0, 0, 0), (29, 3, .invokevirtual 205, 3, 0, 0), (32, 1, .aload_n 0, 0, 0, 0), (33, 3, .sipush (999), 0, 0, 999), (36, 3, .invokevirtual 217, 0, 0, 0), (39, 1, .istore_n 2, 2, 0, 0), (40, 1, .aload_n 0, 0, 0, 0), (41, 3, .invokevirtual 198, 1, 0, 0), (44, 3, .ifCond .eq (24), 68, 0, 0), (47, 1, .aload_n 0, 0, 0, 0), (48, 2, .bipush (46), 0, 0, 46), (50, 3, .invokevirtual 220, 2, 0, 0), (53, 3, .ifCond .eq (15), 68, 0, 0), (56, 1, .aload_n 0, 0, 0, 0), (57, 3, .invokevirtual 205, 3, 0, 0), (60, 1, .aload_n 0, 0, 0, 0), (61, 3, .sipush (999), 0, 0, 999), (64, 3, .invokevirtual 217, 0, 0, 0), (67, 1, .istore_n 3, 3, 0, 0), (68, 1, .iload_n 1, 1, 0, 0), (69, 1, .iload_n 2, 2, 0, 0), (70, 1, .iload_n 3, 3, 0, 0), (71, 3, .invokestatic 133, 4, 0, 0), (74, 1, .ireturn, 0, 0, 0)]
def t_X12_reads : mo_T := (cX12_reads, RX12, 4, 1, { frames := 3, cells := 0, slots := 0, locals := 66 })
theorem ok_X12_reads : mo_good t_X12_reads p_X12_reads = true ∧ mo_chain 0 p_X12_reads = true := by decide +kernel
def p_X12_test : List mo_I := [(0, 1, .aload_n 0, 0, 0, 0), (1, 3, .ldc2_w 223, 0, 0, 26049), (4, 3, .invokevirtual 225, 0, 0, 0), (7, 1, .istore_n 1, 1, 0, 0), (8, 1, .aload_n 0, 0, 0, 0), (9, 2, .bipush (60), 0, 0, 60), (11, 3, .invokevirtual 220, 1, 0, 0), (14, 1, .istore_n 2, 2, 0, 0), (15, 1, .aload_n 0, 0, 0, 0), (16, 2, .bipush (62), 0, 0, 62), (18, 3, .invokevirtual 220, 1, 0, 0), (21, 1, .istore_n 3, 3, 0, 0), (22, 1, .aload_n 0, 0, 0, 0), (23, 3, .getfield 211, 12, 43, 0), (26, 2, .bipush (30), 0, 0, 30), (28, 3, .if_icmp .eq (24), 52, 0, 0), (31, 1, .iload_n 1, 1, 0, 0), (32, 3, .ifCond .ne (25), 57, 0, 0), (35, 1, .iload_n 2, 2, 0, 0), (36, 3, .ifCond .ne (21), 57, 0, 0), (39, 1, .iload_n 3, 3, 0, 0), (40, 3, .ifCond .ne (17), 57, 0, 0), (43, 1, .aload_n 0, 0, 0, 0), (44, 2, .bipush (61), 0, 0, 61), (46, 3, .invokevirtual 220, 1, 0, 0), (49, 3, .ifCond .ne (8), 57, 0, 0), (52, 1, .aload_n 0, 0, 0, 0), (53, 3, .invokevirtual 202, 2, 0, 0), (56, 1, .return_, 0, 0, 0), (57, 1, .aload_n 0, 0, 0, 0), (58, 3, .invokevirtual 205, 3, 0, 0), (61, 1, .iload_n 1, 1, 0, 0), (62, 3, .ifCond .eq (10), 72, 0, 0), (65, 1, .aload_n 0, 0, 0, 0), (66, 1, .iconst (5), 0, 0, 5), (67, 1, .iconst (0), 0, 0, 0), (68, 3, .invokevirtual 229, 4, 0, 0), (71, 1, .return_, 0, 0, 0), (72, 1, .iload_n 2, 2, 0, 0), (73, 3, .ifCond .eq (7), 80, 0, 0), (76, 1, .iconst (0), 0, 0, 0), (77, 3, .goto (12), 89, 0, 0), (80, 1, .iload_n 3, 3, 0, 0), (81, 3, .ifCond .eq (7), 88, 0, 0), (84, 1, .iconst (2), 0, 0, 2), (85, 3, .goto (4), 89, 0, 0), (88, 1, .iconst (4), 0, 0, 4), (89, 2, .istore 4, 4, 0, 0), (91, 2, .iload 4, 4, 0, 0), (93, 1, .iconst (4), 0, 0, 4), (94, 3, .if_icmp .ge (19), 113, 0, 0), (97, 1, .aload_n 0, 0, 0, 0), (98, 2, .bipush (61), 0, 0, 61), (100, 3, .invokevirtual 220, 1, 0, 0), (103, 3, .ifCond .eq (10), 113, 0, 0), (106, 3, .iinc 4 (1), 4, 0, 1), (109, 1, .aload_n 0, 0, 0, 0), (110, 3, .invokevirtual 205, 3, 0, 0), (113, 1, .aload_n 0, 0, 0, 0), (114, 2, .iload 4, 4, 0, 0), (116, 1, .aload_n 0, 0, 0, 0), (117, 3, .invokevirtual 233, 5, 0, 0), (120, 3, .invokevirtual 229, 4, 0, 0), (123, 1, .return_, 0, 0, 0)]
def t_X12_test : mo_T := (cX12_test, RX12, 5, 0, { frames := 4, cells := 0, slots := 0, locals := 89 })
theorem ok_X12_test : mo_good t_X12_test p_X12_test = true ∧ mo_chain 0 p_X12_test = true := by decide +kernel
def p_X12_warning : List mo_I := [(0, 1, .aload_n 0, 0, 0, 0), (1, 1, .aload_n 0, 0, 0, 0), (2, 3, .getfield 176, 12, 30, 0), (5, 3, .putfield 179, 12, 31, 0), (8, 1, .aload_n 0, 0, 0, 0), (9, 1, .iconst (0), 0, 0, 0), (10, 3, .putfield 176, 12, 30, 0), (13, 1, .aload_n 0, 0, 0, 0), (14, 3, .getfield 208, 12, 36, 0), (17, 2, .bipush (20), 0, 0, 20), (19, 3, .if_icmp .ne (10), 29, 0, 0), (22, 1, .aload_n 0, 0, 0, 0), (23, 2, .bipush (-5), 0, 0, -5), (25, 3, .invokevirtual 122, 0, 0, 0), (28, 1, .ireturn, 0, 0, 0), (29, 1, .aload_n 0, 0, 0, 0), (30, 1, .iconst (0), 0, 0, 0), (31, 3, .putfield 182, 12, 33, 0), (34, 1, .aload_n 0, 0, 0, 0), (35, 1, .iconst (-1), 0, 0, -1), (36, 3, .putfield 195, 12, 35, 0), (39, 1, .aload_n 0, 0, 0, 0), (40, 1, .iconst (0), 0, 0, 0), (41, 3, .putfield 211, 12, 43, 0), (44, 1, .aload_n 0, 0, 0, 0), (45, 1, .iconst (0), 0, 0, 0), (46, 3, .putfield 214, 12, 44, 0), (49, 1, .aload_n 0, 0, 0, 0), (50, 3, .invokevirtual 205, 1, 0, 0), (53, 1, .aload_n 0, 0, 0, 0), (54, 3, .ldc2_w 237, 0, 0, 4130), (57, 3, .invokevirtual 225, 2, 0, 0), (60, 3, .ifCond .eq (10), 70, 0, 0), (63, 1, .aload_n 0, 0, 0, 0), (64, 3, .invokevirtual 205, 1, 0, 0), (67, 3, .goto (7), 74, 0, 0), (70, 1, .aload_n 0, 0, 0, 0), (71, 3, .invokevirtual 202, 3, 0, 0), (74, 1, .aload_n 0, 0, 0, 0), (75, 3, .invokevirtual 198, 4, 0, 0), (78, 3, .ifCond .eq (27), 105, 0, 0), (81, 1, .aload_n 0, 0, 0, 0), (82, 3, .getfield 116, 12, 1, 0), (85, 3, .ifCond .ne (7), 92, 0, 0), (88, 1, .iconst (-1), 0, 0, -1), (89, 3, .goto (17), 106, 0, 0), (92, 1, .aload_n 0, 0, 0, 0), (93, 1, .aload_n 0, 0, 0, 0), (94, 3, .getfield 116, 12, 1, 0), (97, 1, .iconst (1), 0, 0, 1), (98, 1, .isub, 0, 0, 0), (99, 3, .invokevirtual 217, 5, 0, 0), (102, 3, .goto (4), 106, 0, 0), (105, 1, .iconst (0), 0, 0, 0), (106, 1, .istore_n 1, 1, 0, 0), (107, 1, .iload_n 1, 1, 0, 0), (108, 1, .iconst (-1), 0, 0, -1), (109, 3, .if_icmp .ne (7), 116, 0, 0), (112, 1, .aload_n 0, 0, 0, 0), (113, 3, .invokevirtual 202, 3, 0, 0), (116, 1, .aload_n 0, 0, 0, 0), (117, 3, .invokevirtual 198, 4, 0, 0), (120, 3, .ifCond .eq (7), 127, 0, 0), (123, 1, .aload_n 0, 0, 0, 0), (124, 3, .invokevirtual 239, 6, 0, 0), (127, 1, .aload_n 0, 0, 0, 0), (128, 3, .invokevirtual 198, 4, 0, 0), (131, 3, .ifCond .eq (54), 185, 0, 0), (134, 1, .aload_n 0, 0, 0, 0), (135, 3, .ldc2_w 242, 0, 0, 4545), (138, 3, .invokevirtual 225, 2, 0, 0), (141, 3, .ifCond .ne (13), 154, 0, 0), (144, 1, .aload_n 0, 0, 0, 0), (145, 3, .ldc2_w 244, 0, 0, 591), (148, 3, .invokevirtual 225, 2, 0, 0), (151, 3, .ifCond .eq (34), 185, 0, 0), (154, 1, .aload_n 0, 0, 0, 0), (155, 3, .ldc2_w 244, 0, 0, 591), (158, 3, .invokevirtual 225, 2, 0, 0), (161, 3, .ifCond .eq (13), 174, 0, 0), (164, 1, .aload_n 0, 0, 0, 0), (165, 1, .dup, 0, 0, 0), (166, 3, .getfield 214, 12, 44, 0), (169, 1, .iconst (1), 0, 0, 1), (170, 1, .iadd, 0, 0, 0), (171, 3, .putfield 214, 12, 44, 0), (174, 1, .aload_n 0, 0, 0, 0), (175, 3, .invokevirtual 205, 1, 0, 0), (178, 1, .aload_n 0, 0, 0, 0), (179, 3, .invokevirtual 239, 6, 0, 0), (182, 3, .goto (-55), 127, 0, 0), (185, 1, .aload_n 0, 0, 0, 0), (186, 3, .invokevirtual 198, 4, 0, 0), (189, 3, .ifCond .eq (18), 207, 0, 0), (192, 1, .aload_n 0, 0, 0, 0), (193, 3, .getfield 185, 12, 32, 0), (196, 1, .aload_n 0, 0, 0, 0), (197, 3, .getfield 179, 12, 31, 0), (200, 3, .if_icmp .ge (7), 207, 0, 0), (203, 1, .aload_n 0, 0, 0, 0), (204, 3, .invokevirtual 202, 3, 0, 0), (207, 1, .aload_n 0, 0, 0, 0), (208, 1, .aload_n 0, 0, 0, 0), (209, 3, .getfield 195, 12, 35, 0), (212, 3, .putfield 78, 12, 34, 0), (215, 1, .aload_n 0, 0, 0, 0), (216, 3, .invokevirtual 198, 4, 0, 0), (219, 3, .ifCond .ne (10), 229, 0, 0), (222, 1, .aload_n 0, 0, 0, 0), (223, 2, .bipush (-6), 0, 0, -6), (225, 3, .invokevirtual 122, 0, 0, 0), (228, 1, .ireturn, 0, 0, 0), (229, 1, .aload_n 0, 0, 0, 0), (230, 3, .getfield 82, 12, 37, 0), (233, 1, .aload_n 0, 0, 0, 0), (234, 3, .getfield 208, 12, 36, 0), (237, 1, .iload_n 1, 1, 0, 0), (238, 1, .iastore, 0, 0, 0), (239, 1, .aload_n 0, 0, 0, 0), (240, 3, .getfield 85, 12, 38, 0), (243, 1, .aload_n 0, 0, 0, 0), (244, 3, .getfield 208, 12, 36, 0), (247, 1, .aload_n 0, 0, 0, 0), (248, 3, .getfield 211, 12, 43, 0), (251, 1, .iastore, 0, 0, 0), (252, 1, .aload_n 0, 0, 0, 0), (253, 3, .getfield 97, 12, 42, 0), (256, 1, .aload_n 0, 0, 0, 0), (257, 3, .getfield 208, 12, 36, 0), (260, 1, .iconst (0), 0, 0, 0), (261, 1, .iastore, 0, 0, 0), (262, 1, .aload_n 0, 0, 0, 0), (263, 1, .dup, 0, 0, 0), (264, 3, .getfield 208, 12, 36, 0), (267, 1, .iconst (1), 0, 0, 1), (268, 1, .iadd, 0, 0, 0), (269, 3, .putfield 208, 12, 36, 0), (272, 1, .aload_n 0, 0, 0, 0), (273, 1, .aload_n 0, 0, 0, 0), (274, 3, .getfield 208, 12, 36, 0), (277, 1, .iconst (1), 0, 0, 1), (278, 1, .isub, 0, 0, 0), (279, 3, .invokevirtual 122, 0, 0, 0), (282, 1, .ireturn, 0, 0, 0)]
def t_X12_warning : mo_T := (cX12_warning, RX12, 2, 1, { frames := 5, cells := 0, slots := 0, locals := 113 })
theorem ok_X12_warning : mo_good t_X12_warning p_X12_warning = true ∧ mo_chain 0 p_X12_warning = true := by decide +kernel
def p_X12_fault : List mo_I := [(0, 1, .aload_n 0, 0, 0, 0), (1, 3, .getfield 78, 12, 34, 0), (4, 1, .ireturn, 0, 0, 0)]
def t_X12_fault : mo_T := (cX12_fault, RX12, 1, 1, { frames := 0, cells := 0, slots := 0, locals := 0 })
theorem ok_X12_fault : mo_good t_X12_fault p_X12_fault = true ∧ mo_chain 0 p_X12_fault = true := by decide +kernel
def p_X12_isWarning : List mo_I := [(0, 1, .iload_n 1, 1, 0, 0), (1, 1, .iconst (0), 0, 0, 0), (2, 1, .aload_n 0, 0, 0, 0), (3, 3, .getfield 208, 12, 36, 0), (6, 1, .iconst (1), 0, 0, 1), (7, 1, .isub, 0, 0, 0), (8, 3, .invokestatic 109, 0, 0, 0), (11, 1, .ireturn, 0, 0, 0)]
def t_X12_isWarning : mo_T := (cX12_isWarning, RX12, 2, 3, { frames := 1, cells := 0, slots := 0, locals := 22 })
theorem ok_X12_isWarning : mo_good t_X12_isWarning p_X12_isWarning = true ∧ mo_chain 0 p_X12_isWarning = true := by decide +kernel
def p_X12_holds : List mo_I := [(0, 1, .aload_n 0, 0, 0, 0), (1, 3, .getfield 91, 12, 40, 0), (4, 1, .iload_n 1, 1, 0, 0), (5, 1, .iaload, 0, 0, 0), (6, 1, .istore_n 3, 3, 0, 0), (7, 1, .aload_n 0, 0, 0, 0), (8, 3, .getfield 88, 12, 39, 0), (11, 1, .iload_n 1, 1, 0, 0), (12, 1, .iaload, 0, 0, 0), (13, 35, .tableswitch (90) (0) (4) #[35, 46, 57, 68, 79], 0, 0, 0), (48, 1, .iload_n 2, 2, 0, 0), (49, 1, .iload_n 3, 3, 0, 0), (50, 3, .if_icmp .ge (7), 57, 0, 0), (53, 1, .iconst (1), 0, 0, 1), (54, 3, .goto (4), 58, 0, 0), (57, 1, .iconst (0), 0, 0, 0), (58, 1, .ireturn, 0, 0, 0), (59, 1, .iload_n 2, 2, 0, 0), (60, 1, .iload_n 3, 3, 0, 0), (61, 3, .if_icmp .gt (7), 68, 0, 0), (64, 1, .iconst (1), 0, 0, 1), (65, 3, .goto (4), 69, 0, 0), (68, 1, .iconst (0), 0, 0, 0), (69, 1, .ireturn, 0, 0, 0), (70, 1, .iload_n 2, 2, 0, 0), (71, 1, .iload_n 3, 3, 0, 0), (72, 3, .if_icmp .le (7), 79, 0, 0), (75, 1, .iconst (1), 0, 0, 1), (76, 3, .goto (4), 80, 0, 0), (79, 1, .iconst (0), 0, 0, 0), (80, 1, .ireturn, 0, 0, 0), (81, 1, .iload_n 2, 2, 0, 0), (82, 1, .iload_n 3, 3, 0, 0), (83, 3, .if_icmp .lt (7), 90, 0, 0), (86, 1, .iconst (1), 0, 0, 1), (87, 3, .goto (4), 91, 0, 0), (90, 1, .iconst (0), 0, 0, 0), (91, 1, .ireturn, 0, 0, 0), (92, 1, .iload_n 2, 2, 0, 0), (93, 1, .iload_n 3, 3, 0, 0), (94, 3, .if_icmp .ne (7), 101, 0, 0), (97, 1, .iconst (1), 0, 0, 1), (98, 3, .goto (4), 102, 0, 0), (101, 1, .iconst (0), 0, 0, 0), (102, 1, .ireturn, 0, 0, 0), (103, 1, .iconst (1), 0, 0, 1), (104, 1, .ireturn, 0, 0, 0)]
def t_X12_holds : mo_T := (cX12_holds, RX12, 4, 3, { frames := 0, cells := 0, slots := 0, locals := 0 })
theorem ok_X12_holds : mo_good t_X12_holds p_X12_holds = true ∧ mo_chain 0 p_X12_holds = true := by decide +kernel
def p_X12_isBad : List mo_I := [(0, 1, .aload_n 0, 0, 0, 0), (1, 3, .getfield 71, 12, 27, 0), (4, 1, .aload_n 0, 0, 0, 0), (5, 3, .getfield 13, 12, 4, 0), (8, 1, .iload_n 2, 2, 0, 0), (9, 1, .iaload, 0, 0, 0), (10, 1, .iaload, 0, 0, 0), (11, 1, .aload_n 0, 0, 0, 0), (12, 3, .getfield 71, 12, 27, 0), (15, 1, .aload_n 0, 0, 0, 0), (16, 3, .getfield 82, 12, 37, 0), (19, 1, .iload_n 1, 1, 0, 0), (20, 1, .iaload, 0, 0, 0), (21, 1, .iaload, 0, 0, 0), (22, 3, .if_icmp .eq (5), 27, 0, 0), (25, 1, .iconst (0), 0, 0, 0), (26, 1, .ireturn, 0, 0, 0), (27, 1, .iconst (0), 0, 0, 0), (28, 1, .istore_n 3, 3, 0, 0), (29, 1, .iconst (1), 0, 0, 1), (30, 2, .istore 4, 4, 0, 0), (32, 1, .iconst (0), 0, 0, 0), (33, 2, .istore 5, 5, 0, 0), (35, 2, .iload 5, 5, 0, 0), (37, 1, .aload_n 0, 0, 0, 0), (38, 3, .getfield 85, 12, 38, 0), (41, 1, .iload_n 1, 1, 0, 0), (42, 1, .iaload, 0, 0, 0), (43, 3, .if_icmp .ge (87), 130, 0, 0), (46, 2, .bipush (30), 0, 0, 30), (48, 1, .iload_n 1, 1, 0, 0), (49, 1, .imul, 0, 0, 0), (50, 2, .iload 5, 5, 0, 0), (52, 1, .iadd, 0, 0, 0), (53, 2, .istore 6, 6, 0, 0), (55, 2, .iload 5, 5, 0, 0), (57, 3, .ifCond .le (40), 97, 0, 0), (60, 1, .aload_n 0, 0, 0, 0), (61, 3, .getfield 94, 12, 41, 0), (64, 2, .iload 6, 6, 0, 0), (66, 1, .iaload, 0, 0, 0), (67, 1, .aload_n 0, 0, 0, 0), (68, 3, .getfield 94, 12, 41, 0), (71, 2, .iload 6, 6, 0, 0), (73, 1, .iconst (1), 0, 0, 1), (74, 1, .isub, 0, 0, 0), (75, 1, .iaload, 0, 0, 0), (76, 3, .if_icmp .eq (21), 97, 0, 0), (79, 1, .iload_n 3, 3, 0, 0), (80, 3, .ifCond .ne (8), 88, 0, 0), (83, 2, .iload 4, 4, 0, 0), (85, 3, .ifCond .eq (7), 92, 0, 0), (88, 1, .iconst (1), 0, 0, 1), (89, 3, .goto (4), 93, 0, 0), (92, 1, .iconst (0), 0, 0, 0), (93, 1, .istore_n 3, 3, 0, 0), (94, 1, .iconst (1), 0, 0, 1), (95, 2, .istore 4, 4, 0, 0), (97, 2, .iload 4, 4, 0, 0), (99, 3, .ifCond .eq (22), 121, 0, 0), (102, 1, .aload_n 0, 0, 0, 0), (103, 2, .iload 6, 6, 0, 0), (105, 1, .aload_n 0, 0, 0, 0), (106, 3, .getfield 16, 12, 5, 0), (109, 1, .iload_n 2, 2, 0, 0), (110, 1, .iaload, 0, 0, 0), (111, 3, .invokevirtual 246, 0, 0, 0), (114, 3, .ifCond .eq (7), 121, 0, 0), (117, 1, .iconst (1), 0, 0, 1), (118, 3, .goto (4), 122, 0, 0), (121, 1, .iconst (0), 0, 0, 0), (122, 2, .istore 4, 4, 0, 0), (124, 3, .iinc 5 (1), 5, 0, 1), (127, 3, .goto (-92), 35, 0, 0), (130, 1, .iload_n 3, 3, 0, 0), (131, 3, .ifCond .ne (8), 139, 0, 0), (134, 2, .iload 4, 4, 0, 0), (136, 3, .ifCond .eq (7), 143, 0, 0), (139, 1, .iconst (1), 0, 0, 1), (140, 3, .goto (4), 144, 0, 0), (143, 1, .iconst (0), 0, 0, 0), (144, 1, .ireturn, 0, 0, 0)]
def t_X12_isBad : mo_T := (cX12_isBad, RX12, 7, 3, { frames := 1, cells := 0, slots := 0, locals := 23 })
theorem ok_X12_isBad : mo_good t_X12_isBad p_X12_isBad = true ∧ mo_chain 0 p_X12_isBad = true := by decide +kernel
def p_X12_bad : List mo_I := [(0, 1, .aload_n 0, 0, 0, 0), (1, 1, .iload_n 1, 1, 0, 0), (2, 3, .invokevirtual 249, 0, 0, 0), (5, 3, .ifCond .eq (18), 23, 0, 0), (8, 1, .aload_n 0, 0, 0, 0), (9, 1, .iload_n 2, 2, 0, 0), (10, 3, .invokevirtual 144, 1, 0, 0), (13, 3, .ifCond .eq (10), 23, 0, 0), (16, 1, .iload_n 3, 3, 0, 0), (17, 3, .invokestatic 141, 2, 0, 0), (20, 3, .ifCond .ne (5), 25, 0, 0), (23, 1, .iconst (-1), 0, 0, -1), (24, 1, .ireturn, 0, 0, 0), (25, 1, .aload_n 0, 0, 0, 0), (26, 1, .iload_n 3, 3, 0, 0), (27, 3, .invokevirtual 172, 3, 0, 0), (30, 1, .aload_n 0, 0, 0, 0), (31, 1, .iload_n 1, 1, 0, 0), (32, 1, .iload_n 2, 2, 0, 0), (33, 3, .invokevirtual 252, 4, 0, 0), (36, 3, .ifCond .eq (7), 43, 0, 0), (39, 1, .iconst (1), 0, 0, 1), (40, 3, .goto (4), 44, 0, 0), (43, 1, .iconst (0), 0, 0, 0), (44, 1, .ireturn, 0, 0, 0)]
def t_X12_bad : mo_T := (cX12_bad, RX12, 4, 1, { frames := 2, cells := 0, slots := 0, locals := 52 })
theorem ok_X12_bad : mo_good t_X12_bad p_X12_bad = true ∧ mo_chain 0 p_X12_bad = true := by decide +kernel
def p_X12_spreads : List mo_I := [(0, 1, .iconst (1), 0, 0, 1), (1, 2, .istore 4, 4, 0, 0), (3, 2, .iload 4, 4, 0, 0), (5, 3, .ifCond .eq (125), 130, 0, 0), (8, 1, .iconst (0), 0, 0, 0), (9, 2, .istore 4, 4, 0, 0), (11, 1, .iconst (0), 0, 0, 0), (12, 2, .istore 5, 5, 0, 0), (14, 2, .iload 5, 5, 0, 0), (16, 1, .aload_n 0, 0, 0, 0), (17, 3, .getfield 147, 12, 6, 0), (20, 3, .if_icmp .ge (107), 127, 0, 0), (23, 1, .aload_n 0, 0, 0, 0), (24, 2, .iload 5, 5, 0, 0), (26, 1, .iload_n 2, 2, 0, 0), (27, 3, .invokevirtual 150, 0, 0, 0), (30, 3, .ifCond .eq (91), 121, 0, 0), (33, 1, .aload_n 0, 0, 0, 0), (34, 3, .getfield 25, 12, 9, 0), (37, 2, .iload 5, 5, 0, 0), (39, 1, .iaload, 0, 0, 0), (40, 1, .iconst (3), 0, 0, 3), (41, 3, .if_icmp .ne (7), 48, 0, 0), (44, 1, .iload_n 3, 3, 0, 0), (45, 3, .ifCond .eq (76), 121, 0, 0), (48, 1, .aload_n 1, 1, 0, 0), (49, 1, .aload_n 0, 0, 0, 0), (50, 3, .getfield 22, 12, 8, 0), (53, 2, .iload 5, 5, 0, 0), (55, 1, .iaload, 0, 0, 0), (56, 1, .iaload, 0, 0, 0), (57, 1, .iconst (-1), 0, 0, -1), (58, 3, .if_icmp .ne (6), 64, 0, 0), (61, 3, .goto (60), 121, 0, 0), (64, 1, .aload_n 1, 1, 0, 0), (65, 1, .aload_n 0, 0, 0, 0), (66, 3, .getfield 22, 12, 8, 0), (69, 2, .iload 5, 5, 0, 0), (71, 1, .iaload, 0, 0, 0), (72, 1, .iaload, 0, 0, 0), (73, 1, .iconst (1), 0, 0, 1), (74, 1, .iadd, 0, 0, 0), (75, 2, .istore 6, 6, 0, 0), (77, 1, .aload_n 1, 1, 0, 0), (78, 1, .aload_n 0, 0, 0, 0), (79, 3, .getfield 19, 12, 7, 0), (82, 2, .iload 5, 5, 0, 0), (84, 1, .iaload, 0, 0, 0), (85, 1, .iaload, 0, 0, 0), (86, 1, .iconst (-1), 0, 0, -1), (87, 3, .if_icmp .eq (20), 107, 0, 0), (90, 1, .aload_n 1, 1, 0, 0), (91, 1, .aload_n 0, 0, 0, 0), (92, 3, .getfield 19, 12, 7, 0), (95, 2, .iload 5, 5, 0, 0), (97, 1, .iaload, 0, 0, 0), (98, 1, .iaload, 0, 0, 0), (99, 2, .iload 6, 6, 0, 0), (101, 3, .if_icmp .gt (6), 107, 0, 0), (104, 3, .goto (17), 121, 0, 0), (107, 1, .aload_n 1, 1, 0, 0), (108, 1, .aload_n 0, 0, 0, 0), (109, 3, .getfield 19, 12, 7, 0), (112, 2, .iload 5, 5, 0, 0), (114, 1, .iaload, 0, 0, 0), (115, 2, .iload 6, 6, 0, 0), (117, 1, .iastore, 0, 0, 0), (118, 1, .iconst (1), 0, 0, 1), (119, 2, .istore 4, 4, 0, 0), (121, 3, .iinc 5 (1), 5, 0, 1), (124, 3, .goto (-110), 14, 0, 0), (127, 3, .goto (-124), 3, 0, 0), (130, 1, .return_, 0, 0, 0)]
def t_X12_spreads : mo_T := (cX12_spreads, RX12, 7, 0, { frames := 1, cells := 0, slots := 0, locals := 22 })
theorem ok_X12_spreads : mo_good t_X12_spreads p_X12_spreads = true ∧ mo_chain 0 p_X12_spreads = true := by decide +kernel
def p_X12_hits : List mo_I := [(0, 1, .aload_n 0, 0, 0, 0), (1, 1, .iload_n 2, 2, 0, 0), (2, 3, .invokevirtual 172, 0, 0, 0), (5, 1, .iconst (0), 0, 0, 0), (6, 1, .istore_n 3, 3, 0, 0), (7, 1, .iload_n 3, 3, 0, 0), (8, 1, .aload_n 0, 0, 0, 0), (9, 3, .getfield 119, 12, 2, 0), (12, 3, .if_icmp .ge (41), 53, 0, 0), (15, 1, .aload_n 0, 0, 0, 0), (16, 3, .getfield 103, 12, 46, 0), (19, 1, .iload_n 3, 3, 0, 0), (20, 1, .aload_n 0, 0, 0, 0), (21, 1, .iload_n 1, 1, 0, 0), (22, 1, .iload_n 3, 3, 0, 0), (23, 3, .invokevirtual 252, 1, 0, 0), (26, 3, .ifCond .eq (7), 33, 0, 0), (29, 1, .iconst (0), 0, 0, 0), (30, 3, .goto (4), 34, 0, 0), (33, 1, .iconst (-1), 0, 0, -1), (34, 1, .iastore, 0, 0, 0), (35, 1, .aload_n 0, 0, 0, 0), (36, 3, .getfield 106, 12, 47, 0), (39, 1, .iload_n 3, 3, 0, 0), (40, 1, .aload_n 0, 0, 0, 0), (41, 3, .getfield 103, 12, 46, 0), (44, 1, .iload_n 3, 3, 0, 0), (45, 1, .iaload, 0, 0, 0), (46, 1, .iastore, 0, 0, 0), (47, 3, .iinc 3 (1), 3, 0, 1), (50, 3, .goto (-43), 7, 0, 0), (53, 1, .aload_n 0, 0, 0, 0), (54, 1, .aload_n 0, 0, 0, 0), (55, 3, .getfield 103, 12, 46, 0), (58, 1, .iload_n 2, 2, 0, 0), (59, 1, .iconst (0), 0, 0, 0), (60, 3, .invokevirtual 255, 2, 0, 0), (63, 1, .aload_n 0, 0, 0, 0), (64, 1, .aload_n 0, 0, 0, 0), (65, 3, .getfield 106, 12, 47, 0), (68, 1, .iload_n 2, 2, 0, 0), (69, 1, .iconst (1), 0, 0, 1), (70, 3, .invokevirtual 255, 2, 0, 0), (73, 1, .return_, 0, 0, 0)]
def t_X12_hits : mo_T := (cX12_hits, RX12, 4, 0, { frames := 2, cells := 0, slots := 0, locals := 52 })
theorem ok_X12_hits : mo_good t_X12_hits p_X12_hits = true ∧ mo_chain 0 p_X12_hits = true := by decide +kernel
def p_X12_hitOf : List mo_I := [(0, 1, .aload_n 0, 0, 0, 0), (1, 3, .getfield 103, 12, 46, 0), (4, 1, .iload_n 1, 1, 0, 0), (5, 1, .iaload, 0, 0, 0), (6, 1, .iconst (-1), 0, 0, -1), (7, 3, .if_icmp .eq (7), 14, 0, 0), (10, 1, .iconst (2), 0, 0, 2), (11, 3, .goto (18), 29, 0, 0), (14, 1, .aload_n 0, 0, 0, 0), (15, 3, .getfield 106, 12, 47, 0), (18, 1, .iload_n 1, 1, 0, 0), (19, 1, .iaload, 0, 0, 0), (20, 1, .iconst (-1), 0, 0, -1), (21, 3, .if_icmp .eq (7), 28, 0, 0), (24, 1, .iconst (1), 0, 0, 1), (25, 3, .goto (4), 29, 0, 0), (28, 1, .iconst (0), 0, 0, 0), (29, 1, .ireturn, 0, 0, 0)]
def t_X12_hitOf : mo_T := (cX12_hitOf, RX12, 2, 1, { frames := 0, cells := 0, slots := 0, locals := 0 })
theorem ok_X12_hitOf : mo_good t_X12_hitOf p_X12_hitOf = true ∧ mo_chain 0 p_X12_hitOf = true := by decide +kernel
def p_X12_hit : List mo_I := [(0, 1, .aload_n 0, 0, 0, 0), (1, 1, .iload_n 1, 1, 0, 0), (2, 3, .invokevirtual 249, 0, 0, 0), (5, 3, .ifCond .eq (18), 23, 0, 0), (8, 1, .aload_n 0, 0, 0, 0), (9, 1, .iload_n 2, 2, 0, 0), (10, 3, .invokevirtual 144, 1, 0, 0), (13, 3, .ifCond .eq (10), 23, 0, 0), (16, 1, .iload_n 3, 3, 0, 0), (17, 3, .invokestatic 141, 2, 0, 0), (20, 3, .ifCond .ne (5), 25, 0, 0), (23, 1, .iconst (-1), 0, 0, -1), (24, 1, .ireturn, 0, 0, 0), (25, 1, .aload_n 0, 0, 0, 0), (26, 1, .iload_n 1, 1, 0, 0), (27, 1, .iload_n 3, 3, 0, 0), (28, 3, .invokevirtual 259, 3, 0, 0), (31, 1, .aload_n 0, 0, 0, 0), (32, 1, .iload_n 2, 2, 0, 0), (33, 3, .invokevirtual 262, 4, 0, 0), (36, 1, .ireturn, 0, 0, 0)]
def t_X12_hit : mo_T := (cX12_hit, RX12, 4, 1, { frames := 3, cells := 0, slots := 0, locals := 75 })
theorem ok_X12_hit : mo_good t_X12_hit p_X12_hit = true ∧ mo_chain 0 p_X12_hit = true := by decide +kernel
def p_X12_way : List mo_I := [(0, 1, .aload_n 0, 0, 0, 0), (1, 1, .iload_n 1, 1, 0, 0), (2, 3, .invokevirtual 249, 0, 0, 0), (5, 3, .ifCond .eq (24), 29, 0, 0), (8, 1, .aload_n 0, 0, 0, 0), (9, 1, .iload_n 2, 2, 0, 0), (10, 3, .invokevirtual 144, 1, 0, 0), (13, 3, .ifCond .eq (16), 29, 0, 0), (16, 1, .iload_n 3, 3, 0, 0), (17, 3, .invokestatic 141, 2, 0, 0), (20, 3, .ifCond .eq (9), 29, 0, 0), (23, 2, .iload 4, 4, 0, 0), (25, 1, .iconst (-1), 0, 0, -1), (26, 3, .if_icmp .ge (5), 31, 0, 0), (29, 1, .iconst (-1), 0, 0, -1), (30, 1, .ireturn, 0, 0, 0), (31, 1, .aload_n 0, 0, 0, 0), (32, 1, .iload_n 1, 1, 0, 0), (33, 1, .iload_n 3, 3, 0, 0), (34, 3, .invokevirtual 259, 3, 0, 0), (37, 1, .aload_n 0, 0, 0, 0), (38, 1, .iload_n 2, 2, 0, 0), (39, 3, .invokevirtual 262, 4, 0, 0), (42, 2, .istore 5, 5, 0, 0), (44, 2, .iload 4, 4, 0, 0), (46, 1, .iconst (-1), 0, 0, -1), (47, 3, .if_icmp .ne (36), 83, 0, 0), (50, 2, .iload 5, 5, 0, 0), (52, 3, .ifCond .ne (7), 59, 0, 0), (55, 1, .iconst (0), 0, 0, 0), (56, 3, .goto (26), 82, 0, 0), (59, 1, .iconst (1), 0, 0, 1), (60, 2, .iload 5, 5, 0, 0), (62, 1, .iconst (2), 0, 0, 2), (63, 3, .if_icmp .ne (12), 75, 0, 0), (66, 1, .aload_n 0, 0, 0, 0), (67, 3, .getfield 103, 12, 46, 0), (70, 1, .iload_n 2, 2, 0, 0), (71, 1, .iaload, 0, 0, 0), (72, 3, .goto (9), 81, 0, 0), (75, 1, .aload_n 0, 0, 0, 0), (76, 3, .getfield 106, 12, 47, 0), (79, 1, .iload_n 2, 2, 0, 0), (80, 1, .iaload, 0, 0, 0), (81, 1, .iadd, 0, 0, 0), (82, 1, .ireturn, 0, 0, 0), (83, 2, .iload 5, 5, 0, 0), (85, 3, .ifCond .ne (5), 90, 0, 0), (88, 1, .iconst (-1), 0, 0, -1), (89, 1, .ireturn, 0, 0, 0), (90, 2, .iload 5, 5, 0, 0), (92, 1, .iconst (2), 0, 0, 2), (93, 3, .if_icmp .ne (10), 103, 0, 0), (96, 1, .aload_n 0, 0, 0, 0), (97, 3, .getfield 103, 12, 46, 0), (100, 3, .goto (7), 107, 0, 0), (103, 1, .aload_n 0, 0, 0, 0), (104, 3, .getfield 106, 12, 47, 0), (107, 2, .astore 6, 6, 0, 0), (109, 2, .iload 4, 4, 0, 0), (111, 2, .aload 6, 6, 0, 0), (113, 1, .iload_n 2, 2, 0, 0), (114, 1, .iaload, 0, 0, 0), (115, 3, .if_icmp .le (5), 120, 0, 0), (118, 1, .iconst (-1), 0, 0, -1), (119, 1, .ireturn, 0, 0, 0), (120, 1, .iload_n 2, 2, 0, 0), (121, 2, .istore 7, 7, 0, 0), (123, 1, .iconst (0), 0, 0, 0), (124, 2, .istore 8, 8, 0, 0), (126, 2, .iload 8, 8, 0, 0), (128, 2, .iload 4, 4, 0, 0), (130, 3, .if_icmp .ge (31), 161, 0, 0), (133, 1, .aload_n 0, 0, 0, 0), (134, 2, .iload 7, 7, 0, 0), (136, 1, .iload_n 3, 3, 0, 0), (137, 2, .aload 6, 6, 0, 0), (139, 2, .iload 5, 5, 0, 0), (141, 1, .iconst (1), 0, 0, 1), (142, 3, .if_icmp .ne (7), 149, 0, 0), (145, 1, .iconst (1), 0, 0, 1), (146, 3, .goto (4), 150, 0, 0), (149, 1, .iconst (0), 0, 0, 0), (150, 3, .invokevirtual 265, 5, 0, 0), (153, 2, .istore 7, 7, 0, 0), (155, 3, .iinc 8 (1), 8, 0, 1), (158, 3, .goto (-32), 126, 0, 0), (161, 2, .iload 7, 7, 0, 0), (163, 1, .ireturn, 0, 0, 0)]
def t_X12_way : mo_T := (cX12_way, RX12, 9, 1, { frames := 3, cells := 0, slots := 0, locals := 75 })
theorem ok_X12_way : mo_good t_X12_way p_X12_way = true ∧ mo_chain 0 p_X12_way = true := by decide +kernel
def p_X12_nextOf : List mo_I := [(0, 1, .iconst (-1), 0, 0, -1), (1, 2, .istore 5, 5, 0, 0), (3, 1, .iconst (0), 0, 0, 0), (4, 2, .istore 6, 6, 0, 0), (6, 2, .iload 6, 6, 0, 0), (8, 1, .aload_n 0, 0, 0, 0), (9, 3, .getfield 147, 12, 6, 0), (12, 3, .if_icmp .ge (93), 105, 0, 0), (15, 1, .aload_n 0, 0, 0, 0), (16, 2, .iload 6, 6, 0, 0), (18, 1, .iload_n 2, 2, 0, 0), (19, 3, .invokevirtual 150, 0, 0, 0), (22, 3, .ifCond .eq (77), 99, 0, 0), (25, 1, .aload_n 0, 0, 0, 0), (26, 3, .getfield 19, 12, 7, 0), (29, 2, .iload 6, 6, 0, 0), (31, 1, .iaload, 0, 0, 0), (32, 1, .iload_n 1, 1, 0, 0), (33, 3, .if_icmp .ne (66), 99, 0, 0), (36, 1, .aload_n 0, 0, 0, 0), (37, 3, .getfield 25, 12, 9, 0), (40, 2, .iload 6, 6, 0, 0), (42, 1, .iaload, 0, 0, 0), (43, 1, .iconst (3), 0, 0, 3), (44, 3, .if_icmp .ne (8), 52, 0, 0), (47, 2, .iload 4, 4, 0, 0), (49, 3, .ifCond .eq (50), 99, 0, 0), (52, 1, .aload_n 3, 3, 0, 0), (53, 1, .aload_n 0, 0, 0, 0), (54, 3, .getfield 22, 12, 8, 0), (57, 2, .iload 6, 6, 0, 0), (59, 1, .iaload, 0, 0, 0), (60, 1, .iaload, 0, 0, 0), (61, 1, .aload_n 3, 3, 0, 0), (62, 1, .iload_n 1, 1, 0, 0), (63, 1, .iaload, 0, 0, 0), (64, 1, .iconst (1), 0, 0, 1), (65, 1, .isub, 0, 0, 0), (66, 3, .if_icmp .eq (6), 72, 0, 0), (69, 3, .goto (30), 99, 0, 0), (72, 2, .iload 5, 5, 0, 0), (74, 1, .iconst (-1), 0, 0, -1), (75, 3, .if_icmp .eq (15), 90, 0, 0), (78, 1, .aload_n 0, 0, 0, 0), (79, 3, .getfield 22, 12, 8, 0), (82, 2, .iload 6, 6, 0, 0), (84, 1, .iaload, 0, 0, 0), (85, 2, .iload 5, 5, 0, 0), (87, 3, .if_icmp .ge (12), 99, 0, 0), (90, 1, .aload_n 0, 0, 0, 0), (91, 3, .getfield 22, 12, 8, 0), (94, 2, .iload 6, 6, 0, 0), (96, 1, .iaload, 0, 0, 0), (97, 2, .istore 5, 5, 0, 0), (99, 3, .iinc 6 (1), 6, 0, 1), (102, 3, .goto (-96), 6, 0, 0), (105, 2, .iload 5, 5, 0, 0), (107, 1, .ireturn, 0, 0, 0)]
def t_X12_nextOf : mo_T := (cX12_nextOf, RX12, 7, 1, { frames := 1, cells := 0, slots := 0, locals := 22 })
theorem ok_X12_nextOf : mo_good t_X12_nextOf p_X12_nextOf = true ∧ mo_chain 0 p_X12_nextOf = true := by decide +kernel
def p_X12_hasOf : List mo_I := [(0, 1, .iconst (0), 0, 0, 0), (1, 2, .istore 4, 4, 0, 0), (3, 1, .iconst (0), 0, 0, 0), (4, 2, .istore 5, 5, 0, 0), (6, 2, .iload 5, 5, 0, 0), (8, 1, .aload_n 0, 0, 0, 0), (9, 3, .getfield 154, 12, 12, 0), (12, 3, .if_icmp .ge (84), 96, 0, 0), (15, 1, .aload_n 0, 0, 0, 0), (16, 3, .getfield 34, 12, 13, 0), (19, 2, .iload 5, 5, 0, 0), (21, 1, .iaload, 0, 0, 0), (22, 1, .iload_n 1, 1, 0, 0), (23, 3, .if_icmp .ne (67), 90, 0, 0), (26, 1, .aload_n 0, 0, 0, 0), (27, 3, .getfield 46, 12, 17, 0), (30, 2, .iload 5, 5, 0, 0), (32, 1, .iaload, 0, 0, 0), (33, 1, .iload_n 3, 3, 0, 0), (34, 3, .if_icmp .gt (56), 90, 0, 0), (37, 1, .iload_n 2, 2, 0, 0), (38, 1, .aload_n 0, 0, 0, 0), (39, 3, .getfield 40, 12, 15, 0), (42, 2, .iload 5, 5, 0, 0), (44, 1, .iaload, 0, 0, 0), (45, 1, .aload_n 0, 0, 0, 0), (46, 3, .getfield 43, 12, 16, 0), (49, 2, .iload 5, 5, 0, 0), (51, 1, .iaload, 0, 0, 0), (52, 3, .invokestatic 109, 0, 0, 0), (55, 3, .ifCond .ne (6), 61, 0, 0), (58, 3, .goto (32), 90, 0, 0), (61, 1, .aload_n 0, 0, 0, 0), (62, 1, .aload_n 0, 0, 0, 0), (63, 3, .getfield 37, 12, 14, 0), (66, 2, .iload 5, 5, 0, 0), (68, 1, .iaload, 0, 0, 0), (69, 3, .invokevirtual 262, 1, 0, 0), (72, 2, .istore 6, 6, 0, 0), (74, 2, .iload 6, 6, 0, 0), (76, 2, .iload 4, 4, 0, 0), (78, 3, .if_icmp .le (8), 86, 0, 0), (81, 2, .iload 6, 6, 0, 0), (83, 3, .goto (5), 88, 0, 0), (86, 2, .iload 4, 4, 0, 0), (88, 2, .istore 4, 4, 0, 0), (90, 3, .iinc 5 (1), 5, 0, 1), (93, 3, .goto (-87), 6, 0, 0), (96, 2, .iload 4, 4, 0, 0), (98, 1, .ireturn, 0, 0, 0)]
def t_X12_hasOf : mo_T := (cX12_hasOf, RX12, 7, 1, { frames := 1, cells := 0, slots := 0, locals := 22 })
theorem ok_X12_hasOf : mo_good t_X12_hasOf p_X12_hasOf = true ∧ mo_chain 0 p_X12_hasOf = true := by decide +kernel
def p_X12_isSite : List mo_I := [(0, 1, .iload_n 0, 0, 0, 0), (1, 1, .iconst (0), 0, 0, 0), (2, 2, .bipush (29), 0, 0, 29), (4, 3, .invokestatic 109, 0, 0, 0), (7, 1, .ireturn, 0, 0, 0)]
def t_X12_isSite : mo_T := (cX12_isSite, RX12, 1, 3, { frames := 1, cells := 0, slots := 0, locals := 22 })
theorem ok_X12_isSite : mo_good t_X12_isSite p_X12_isSite = true ∧ mo_chain 0 p_X12_isSite = true := by decide +kernel
def p_X12_has : List mo_I := [(0, 1, .aload_n 0, 0, 0, 0), (1, 1, .iload_n 1, 1, 0, 0), (2, 3, .invokevirtual 249, 0, 0, 0), (5, 3, .ifCond .eq (25), 30, 0, 0), (8, 1, .iload_n 2, 2, 0, 0), (9, 3, .invokestatic 269, 1, 0, 0), (12, 3, .ifCond .eq (18), 30, 0, 0), (15, 1, .iload_n 3, 3, 0, 0), (16, 3, .invokestatic 141, 2, 0, 0), (19, 3, .ifCond .eq (11), 30, 0, 0), (22, 2, .iload 4, 4, 0, 0), (24, 3, .invokestatic 141, 2, 0, 0), (27, 3, .ifCond .ne (5), 32, 0, 0), (30, 1, .iconst (-1), 0, 0, -1), (31, 1, .ireturn, 0, 0, 0), (32, 1, .aload_n 0, 0, 0, 0), (33, 1, .iload_n 1, 1, 0, 0), (34, 2, .iload 4, 4, 0, 0), (36, 3, .invokevirtual 259, 3, 0, 0), (39, 1, .aload_n 0, 0, 0, 0), (40, 1, .iload_n 2, 2, 0, 0), (41, 1, .iload_n 3, 3, 0, 0), (42, 2, .iload 4, 4, 0, 0), (44, 3, .invokevirtual 272, 4, 0, 0), (47, 1, .ireturn, 0, 0, 0)]
def t_X12_has : mo_T := (cX12_has, RX12, 5, 1, { frames := 3, cells := 0, slots := 0, locals := 75 })
theorem ok_X12_has : mo_good t_X12_has p_X12_has = true ∧ mo_chain 0 p_X12_has = true := by decide +kernel
def p_X12_since : List mo_I := [(0, 1, .aload_n 0, 0, 0, 0), (1, 1, .iload_n 1, 1, 0, 0), (2, 3, .invokevirtual 249, 0, 0, 0), (5, 3, .ifCond .eq (17), 22, 0, 0), (8, 1, .iload_n 2, 2, 0, 0), (9, 3, .invokestatic 269, 1, 0, 0), (12, 3, .ifCond .eq (10), 22, 0, 0), (15, 1, .iload_n 3, 3, 0, 0), (16, 3, .invokestatic 141, 2, 0, 0), (19, 3, .ifCond .ne (5), 24, 0, 0), (22, 1, .iconst (-1), 0, 0, -1), (23, 1, .ireturn, 0, 0, 0), (24, 1, .aload_n 0, 0, 0, 0), (25, 1, .iload_n 1, 1, 0, 0), (26, 1, .iload_n 3, 3, 0, 0), (27, 3, .invokevirtual 259, 3, 0, 0), (30, 1, .iconst (-1), 0, 0, -1), (31, 2, .istore 4, 4, 0, 0), (33, 1, .iconst (0), 0, 0, 0), (34, 2, .istore 5, 5, 0, 0), (36, 2, .iload 5, 5, 0, 0), (38, 1, .aload_n 0, 0, 0, 0), (39, 3, .getfield 154, 12, 12, 0), (42, 3, .if_icmp .ge (75), 117, 0, 0), (45, 1, .aload_n 0, 0, 0, 0), (46, 3, .getfield 34, 12, 13, 0), (49, 2, .iload 5, 5, 0, 0), (51, 1, .iaload, 0, 0, 0), (52, 1, .iload_n 2, 2, 0, 0), (53, 3, .if_icmp .ne (58), 111, 0, 0), (56, 1, .aload_n 0, 0, 0, 0), (57, 3, .getfield 46, 12, 17, 0), (60, 2, .iload 5, 5, 0, 0), (62, 1, .iaload, 0, 0, 0), (63, 1, .iload_n 3, 3, 0, 0), (64, 3, .if_icmp .gt (47), 111, 0, 0), (67, 1, .aload_n 0, 0, 0, 0), (68, 1, .aload_n 0, 0, 0, 0), (69, 3, .getfield 37, 12, 14, 0), (72, 2, .iload 5, 5, 0, 0), (74, 1, .iaload, 0, 0, 0), (75, 3, .invokevirtual 262, 4, 0, 0), (78, 3, .ifCond .ne (6), 84, 0, 0), (81, 3, .goto (30), 111, 0, 0), (84, 2, .iload 4, 4, 0, 0), (86, 1, .iconst (-1), 0, 0, -1), (87, 3, .if_icmp .eq (15), 102, 0, 0), (90, 1, .aload_n 0, 0, 0, 0), (91, 3, .getfield 40, 12, 15, 0), (94, 2, .iload 5, 5, 0, 0), (96, 1, .iaload, 0, 0, 0), (97, 2, .iload 4, 4, 0, 0), (99, 3, .if_icmp .ge (12), 111, 0, 0), (102, 1, .aload_n 0, 0, 0, 0), (103, 3, .getfield 40, 12, 15, 0), (106, 2, .iload 5, 5, 0, 0), (108, 1, .iaload, 0, 0, 0), (109, 2, .istore 4, 4, 0, 0), (111, 3, .iinc 5 (1), 5, 0, 1), (114, 3, .goto (-78), 36, 0, 0), (117, 2, .iload 4, 4, 0, 0), (119, 1, .ireturn, 0, 0, 0)]
def t_X12_since : mo_T := (cX12_since, RX12, 6, 1, { frames := 3, cells := 0, slots := 0, locals := 75 })
theorem ok_X12_since : mo_good t_X12_since p_X12_since = true ∧ mo_chain 0 p_X12_since = true := by decide +kernel
def p_X12_hasLink : List mo_I := [(0, 1, .iconst (0), 0, 0, 0), (1, 2, .istore 5, 5, 0, 0), (3, 2, .iload 5, 5, 0, 0), (5, 1, .aload_n 0, 0, 0, 0), (6, 3, .getfield 147, 12, 6, 0), (9, 3, .if_icmp .ge (65), 74, 0, 0), (12, 1, .aload_n 0, 0, 0, 0), (13, 2, .iload 5, 5, 0, 0), (15, 2, .iload 4, 4, 0, 0), (17, 3, .invokevirtual 150, 0, 0, 0), (20, 3, .ifCond .eq (48), 68, 0, 0), (23, 1, .aload_n 0, 0, 0, 0), (24, 3, .getfield 19, 12, 7, 0), (27, 2, .iload 5, 5, 0, 0), (29, 1, .iaload, 0, 0, 0), (30, 1, .iload_n 1, 1, 0, 0), (31, 3, .if_icmp .ne (37), 68, 0, 0), (34, 1, .aload_n 0, 0, 0, 0), (35, 3, .getfield 25, 12, 9, 0), (38, 2, .iload 5, 5, 0, 0), (40, 1, .iaload, 0, 0, 0), (41, 1, .iload_n 3, 3, 0, 0), (42, 3, .if_icmp .ne (26), 68, 0, 0), (45, 1, .aload_n 0, 0, 0, 0), (46, 3, .getfield 71, 12, 27, 0), (49, 1, .aload_n 0, 0, 0, 0), (50, 3, .getfield 13, 12, 4, 0), (53, 1, .aload_n 0, 0, 0, 0), (54, 3, .getfield 22, 12, 8, 0), (57, 2, .iload 5, 5, 0, 0), (59, 1, .iaload, 0, 0, 0), (60, 1, .iaload, 0, 0, 0), (61, 1, .iaload, 0, 0, 0), (62, 1, .iload_n 2, 2, 0, 0), (63, 3, .if_icmp .ne (5), 68, 0, 0), (66, 1, .iconst (1), 0, 0, 1), (67, 1, .ireturn, 0, 0, 0), (68, 3, .iinc 5 (1), 5, 0, 1), (71, 3, .goto (-68), 3, 0, 0), (74, 1, .iconst (0), 0, 0, 0), (75, 1, .ireturn, 0, 0, 0)]
def t_X12_hasLink : mo_T := (cX12_hasLink, RX12, 6, 3, { frames := 1, cells := 0, slots := 0, locals := 22 })
theorem ok_X12_hasLink : mo_good t_X12_hasLink p_X12_hasLink = true ∧ mo_chain 0 p_X12_hasLink = true := by decide +kernel
def p_X12_gaps : List mo_I := [(0, 1, .aload_n 0, 0, 0, 0), (1, 1, .iload_n 1, 1, 0, 0), (2, 3, .invokevirtual 144, 0, 0, 0), (5, 3, .ifCond .eq (19), 24, 0, 0), (8, 1, .iload_n 2, 2, 0, 0), (9, 3, .invokestatic 141, 1, 0, 0), (12, 3, .ifCond .eq (12), 24, 0, 0), (15, 1, .iload_n 3, 3, 0, 0), (16, 1, .iconst (0), 0, 0, 0), (17, 1, .iconst (1), 0, 0, 1), (18, 3, .invokestatic 109, 2, 0, 0), (21, 3, .ifCond .ne (5), 26, 0, 0), (24, 1, .iconst (-1), 0, 0, -1), (25, 1, .ireturn, 0, 0, 0), (26, 1, .aload_n 0, 0, 0, 0), (27, 1, .iload_n 2, 2, 0, 0), (28, 3, .invokevirtual 172, 3, 0, 0), (31, 1, .iconst (0), 0, 0, 0), (32, 2, .istore 4, 4, 0, 0), (34, 1, .iconst (0), 0, 0, 0), (35, 2, .istore 5, 5, 0, 0), (37, 2, .iload 5, 5, 0, 0), (39, 1, .aload_n 0, 0, 0, 0), (40, 3, .getfield 116, 12, 1, 0), (43, 3, .if_icmp .ge (38), 81, 0, 0), (46, 1, .aload_n 0, 0, 0, 0), (47, 1, .iload_n 1, 1, 0, 0), (48, 2, .iload 5, 5, 0, 0), (50, 1, .iconst (1), 0, 0, 1), (51, 1, .iload_n 3, 3, 0, 0), (52, 1, .isub, 0, 0, 0), (53, 1, .iload_n 2, 2, 0, 0), (54, 3, .invokevirtual 275, 4, 0, 0), (57, 3, .ifCond .eq (18), 75, 0, 0), (60, 1, .aload_n 0, 0, 0, 0), (61, 1, .iload_n 1, 1, 0, 0), (62, 2, .iload 5, 5, 0, 0), (64, 1, .iload_n 3, 3, 0, 0), (65, 1, .iload_n 2, 2, 0, 0), (66, 3, .invokevirtual 275, 4, 0, 0), (69, 3, .ifCond .ne (6), 75, 0, 0), (72, 3, .iinc 4 (1), 4, 0, 1), (75, 3, .iinc 5 (1), 5, 0, 1), (78, 3, .goto (-41), 37, 0, 0), (81, 2, .iload 4, 4, 0, 0), (83, 1, .ireturn, 0, 0, 0)]
def t_X12_gaps : mo_T := (cX12_gaps, RX12, 6, 1, { frames := 2, cells := 0, slots := 0, locals := 52 })
theorem ok_X12_gaps : mo_good t_X12_gaps p_X12_gaps = true ∧ mo_chain 0 p_X12_gaps = true := by decide +kernel
def p_X12_ring : List mo_I := [(0, 1, .aload_n 0, 0, 0, 0), (1, 1, .iload_n 1, 1, 0, 0), (2, 3, .invokevirtual 144, 0, 0, 0), (5, 3, .ifCond .eq (10), 15, 0, 0), (8, 1, .iload_n 2, 2, 0, 0), (9, 3, .invokestatic 141, 1, 0, 0), (12, 3, .ifCond .ne (5), 17, 0, 0), (15, 1, .iconst (-1), 0, 0, -1), (16, 1, .ireturn, 0, 0, 0), (17, 1, .iconst (0), 0, 0, 0), (18, 1, .istore_n 3, 3, 0, 0), (19, 1, .iload_n 3, 3, 0, 0), (20, 1, .aload_n 0, 0, 0, 0), (21, 3, .getfield 119, 12, 2, 0), (24, 3, .if_icmp .ge (16), 40, 0, 0), (27, 1, .aload_n 0, 0, 0, 0), (28, 3, .getfield 106, 12, 47, 0), (31, 1, .iload_n 3, 3, 0, 0), (32, 1, .iconst (-1), 0, 0, -1), (33, 1, .iastore, 0, 0, 0), (34, 3, .iinc 3 (1), 3, 0, 1), (37, 3, .goto (-18), 19, 0, 0), (40, 1, .iconst (0), 0, 0, 0), (41, 1, .istore_n 3, 3, 0, 0), (42, 1, .iload_n 3, 3, 0, 0), (43, 1, .aload_n 0, 0, 0, 0), (44, 3, .getfield 147, 12, 6, 0), (47, 3, .if_icmp .ge (40), 87, 0, 0), (50, 1, .aload_n 0, 0, 0, 0), (51, 1, .iload_n 3, 3, 0, 0), (52, 1, .iload_n 2, 2, 0, 0), (53, 3, .invokevirtual 150, 2, 0, 0), (56, 3, .ifCond .eq (25), 81, 0, 0), (59, 1, .aload_n 0, 0, 0, 0), (60, 3, .getfield 19, 12, 7, 0), (63, 1, .iload_n 3, 3, 0, 0), (64, 1, .iaload, 0, 0, 0), (65, 1, .iload_n 1, 1, 0, 0), (66, 3, .if_icmp .ne (15), 81, 0, 0), (69, 1, .aload_n 0, 0, 0, 0), (70, 3, .getfield 106, 12, 47, 0), (73, 1, .aload_n 0, 0, 0, 0), (74, 3, .getfield 22, 12, 8, 0), (77, 1, .iload_n 3, 3, 0, 0), (78, 1, .iaload, 0, 0, 0), (79, 1, .iconst (1), 0, 0, 1), (80, 1, .iastore, 0, 0, 0), (81, 3, .iinc 3 (1), 3, 0, 1), (84, 3, .goto (-42), 42, 0, 0), (87, 1, .iconst (1), 0, 0, 1), (88, 1, .istore_n 3, 3, 0, 0), (89, 1, .iload_n 3, 3, 0, 0), (90, 3, .ifCond .eq (86), 176, 0, 0), (93, 1, .iconst (0), 0, 0, 0), (94, 1, .istore_n 3, 3, 0, 0), (95, 1, .iconst (0), 0, 0, 0), (96, 2, .istore 4, 4, 0, 0), (98, 2, .iload 4, 4, 0, 0), (100, 1, .aload_n 0, 0, 0, 0), (101, 3, .getfield 147, 12, 6, 0), (104, 3, .if_icmp .ge (69), 173, 0, 0), (107, 1, .aload_n 0, 0, 0, 0), (108, 2, .iload 4, 4, 0, 0), (110, 1, .iload_n 2, 2, 0, 0), (111, 3, .invokevirtual 150, 2, 0, 0), (114, 3, .ifCond .eq (53), 167, 0, 0), (117, 1, .aload_n 0, 0, 0, 0), (118, 3, .getfield 106, 12, 47, 0), (121, 1, .aload_n 0, 0, 0, 0), (122, 3, .getfield 19, 12, 7, 0), (125, 2, .iload 4, 4, 0, 0), (127, 1, .iaload, 0, 0, 0), (128, 1, .iaload, 0, 0, 0), (129, 1, .iconst (-1), 0, 0, -1), (130, 3, .if_icmp .eq (37), 167, 0, 0), (133, 1, .aload_n 0, 0, 0, 0), (134, 3, .getfield 106, 12, 47, 0), (137, 1, .aload_n 0, 0, 0, 0), (138, 3, .getfield 22, 12, 8, 0), (141, 2, .iload 4, 4, 0, 0), (143, 1, .iaload, 0, 0, 0), (144, 1, .iaload, 0, 0, 0), (145, 1, .iconst (-1), 0, 0, -1), (146, 3, .if_icmp .eq (6), 152, 0, 0), (149, 3, .goto (18), 167, 0, 0), (152, 1, .aload_n 0, 0, 0, 0), (153, 3, .getfield 106, 12, 47, 0), (156, 1, .aload_n 0, 0, 0, 0), (157, 3, .getfield 22, 12, 8, 0), (160, 2, .iload 4, 4, 0, 0), (162, 1, .iaload, 0, 0, 0), (163, 1, .iconst (1), 0, 0, 1), (164, 1, .iastore, 0, 0, 0), (165, 1, .iconst (1), 0, 0, 1), (166, 1, .istore_n 3, 3, 0, 0), (167, 3, .iinc 4 (1), 4, 0, 1), (170, 3, .goto (-72), 98, 0, 0), (173, 3, .goto (-84), 89, 0, 0), (176, 1, .aload_n 0, 0, 0, 0), (177, 3, .getfield 106, 12, 47, 0), (180, 1, .iload_n 1, 1, 0, 0), (181, 1, .iaload, 0, 0, 0), (182, 1, .iconst (-1), 0, 0, -1), (183, 3, .if_icmp .ne (7), 190, 0, 0), (186, 1, .iconst (0), 0, 0, 0), (187, 3, .goto (4), 191, 0, 0), (190, 1, .iconst (1), 0, 0, 1), (191, 1, .ireturn, 0, 0, 0)]
def t_X12_ring : mo_T := (cX12_ring, RX12, 5, 1, { frames := 2, cells := 0, slots := 0, locals := 43 })
theorem ok_X12_ring : mo_good t_X12_ring p_X12_ring = true ∧ mo_chain 0 p_X12_ring = true := by decide +kernel
def p_X12_settles : List mo_I := [(0, 1, .iconst (0), 0, 0, 0), (1, 1, .istore_n 3, 3, 0, 0), (2, 1, .iload_n 3, 3, 0, 0), (3, 1, .aload_n 0, 0, 0, 0), (4, 3, .getfield 147, 12, 6, 0), (7, 3, .if_icmp .ge (79), 86, 0, 0), (10, 1, .aload_n 0, 0, 0, 0), (11, 1, .iload_n 3, 3, 0, 0), (12, 1, .iload_n 2, 2, 0, 0), (13, 3, .invokevirtual 150, 0, 0, 0), (16, 3, .ifCond .eq (64), 80, 0, 0), (19, 1, .aload_n 0, 0, 0, 0), (20, 3, .getfield 25, 12, 9, 0), (23, 1, .iload_n 3, 3, 0, 0), (24, 1, .iaload, 0, 0, 0), (25, 1, .iconst (3), 0, 0, 3), (26, 3, .if_icmp .eq (6), 32, 0, 0), (29, 3, .goto (51), 80, 0, 0), (32, 1, .iload_n 1, 1, 0, 0), (33, 1, .aload_n 0, 0, 0, 0), (34, 3, .getfield 7, 12, 3, 0), (37, 1, .aload_n 0, 0, 0, 0), (38, 3, .getfield 13, 12, 4, 0), (41, 1, .aload_n 0, 0, 0, 0), (42, 3, .getfield 19, 12, 7, 0), (45, 1, .iload_n 3, 3, 0, 0), (46, 1, .iaload, 0, 0, 0), (47, 1, .iaload, 0, 0, 0), (48, 1, .iaload, 0, 0, 0), (49, 1, .ishr, 0, 0, 0), (50, 1, .iconst (1), 0, 0, 1), (51, 1, .iand, 0, 0, 0), (52, 3, .ifCond .ne (28), 80, 0, 0), (55, 1, .iload_n 1, 1, 0, 0), (56, 1, .aload_n 0, 0, 0, 0), (57, 3, .getfield 7, 12, 3, 0), (60, 1, .aload_n 0, 0, 0, 0), (61, 3, .getfield 13, 12, 4, 0), (64, 1, .aload_n 0, 0, 0, 0), (65, 3, .getfield 22, 12, 8, 0), (68, 1, .iload_n 3, 3, 0, 0), (69, 1, .iaload, 0, 0, 0), (70, 1, .iaload, 0, 0, 0), (71, 1, .iaload, 0, 0, 0), (72, 1, .ishr, 0, 0, 0), (73, 1, .iconst (1), 0, 0, 1), (74, 1, .iand, 0, 0, 0), (75, 3, .ifCond .ne (5), 80, 0, 0), (78, 1, .iconst (0), 0, 0, 0), (79, 1, .ireturn, 0, 0, 0), (80, 3, .iinc 3 (1), 3, 0, 1), (83, 3, .goto (-81), 2, 0, 0), (86, 1, .iconst (1), 0, 0, 1), (87, 1, .ireturn, 0, 0, 0)]
def t_X12_settles : mo_T := (cX12_settles, RX12, 4, 3, { frames := 1, cells := 0, slots := 0, locals := 22 })
theorem ok_X12_settles : mo_good t_X12_settles p_X12_settles = true ∧ mo_chain 0 p_X12_settles = true := by decide +kernel
def p_X12_many : List mo_I := [(0, 1, .iconst (0), 0, 0, 0), (1, 1, .istore_n 1, 1, 0, 0), (2, 1, .iconst (0), 0, 0, 0), (3, 1, .istore_n 2, 2, 0, 0), (4, 1, .iload_n 2, 2, 0, 0), (5, 2, .bipush (10), 0, 0, 10), (7, 3, .if_icmp .ge (17), 24, 0, 0), (10, 1, .iload_n 1, 1, 0, 0), (11, 1, .iload_n 0, 0, 0, 0), (12, 1, .iload_n 2, 2, 0, 0), (13, 1, .ishr, 0, 0, 0), (14, 1, .iconst (1), 0, 0, 1), (15, 1, .iand, 0, 0, 0), (16, 1, .iadd, 0, 0, 0), (17, 1, .istore_n 1, 1, 0, 0), (18, 3, .iinc 2 (1), 2, 0, 1), (21, 3, .goto (-17), 4, 0, 0), (24, 1, .iload_n 1, 1, 0, 0), (25, 1, .ireturn, 0, 0, 0)]
def t_X12_many : mo_T := (cX12_many, RX12, 3, 1, { frames := 0, cells := 0, slots := 0, locals := 0 })
theorem ok_X12_many : mo_good t_X12_many p_X12_many = true ∧ mo_chain 0 p_X12_many = true := by decide +kernel
def p_X12_calls : List mo_I := [(0, 1, .iload_n 1, 1, 0, 0), (1, 3, .invokestatic 141, 0, 0, 0), (4, 3, .ifCond .ne (5), 9, 0, 0), (7, 1, .iconst (-1), 0, 0, -1), (8, 1, .ireturn, 0, 0, 0), (9, 3, .sipush (1023), 0, 0, 1023), (12, 1, .istore_n 2, 2, 0, 0), (13, 1, .iconst (0), 0, 0, 0), (14, 1, .istore_n 3, 3, 0, 0), (15, 1, .iload_n 3, 3, 0, 0), (16, 3, .sipush (1024), 0, 0, 1024), (19, 3, .if_icmp .ge (31), 50, 0, 0), (22, 1, .aload_n 0, 0, 0, 0), (23, 1, .iload_n 3, 3, 0, 0), (24, 1, .iload_n 1, 1, 0, 0), (25, 3, .invokevirtual 279, 1, 0, 0), (28, 3, .ifCond .eq (16), 44, 0, 0), (31, 1, .iload_n 3, 3, 0, 0), (32, 3, .invokestatic 282, 2, 0, 0), (35, 1, .iload_n 2, 2, 0, 0), (36, 3, .invokestatic 282, 2, 0, 0), (39, 3, .if_icmp .ge (5), 44, 0, 0), (42, 1, .iload_n 3, 3, 0, 0), (43, 1, .istore_n 2, 2, 0, 0), (44, 3, .iinc 3 (1), 3, 0, 1), (47, 3, .goto (-32), 15, 0, 0), (50, 1, .iload_n 2, 2, 0, 0), (51, 1, .ireturn, 0, 0, 0)]
def t_X12_calls : mo_T := (cX12_calls, RX12, 4, 1, { frames := 2, cells := 0, slots := 0, locals := 45 })
theorem ok_X12_calls : mo_good t_X12_calls p_X12_calls = true ∧ mo_chain 0 p_X12_calls = true := by decide +kernel
def p_X12_recall : List mo_I := [(0, 1, .iload_n 2, 2, 0, 0), (1, 3, .invokestatic 141, 0, 0, 0), (4, 3, .ifCond .eq (10), 14, 0, 0), (7, 1, .iload_n 3, 3, 0, 0), (8, 3, .invokestatic 141, 0, 0, 0), (11, 3, .ifCond .ne (9), 20, 0, 0), (14, 1, .aload_n 0, 0, 0, 0), (15, 1, .iconst (-1), 0, 0, -1), (16, 3, .invokevirtual 122, 1, 0, 0), (19, 1, .ireturn, 0, 0, 0), (20, 1, .aload_n 0, 0, 0, 0), (21, 1, .iload_n 1, 1, 0, 0), (22, 3, .invokevirtual 249, 2, 0, 0), (25, 3, .ifCond .ne (10), 35, 0, 0), (28, 1, .aload_n 0, 0, 0, 0), (29, 2, .bipush (-2), 0, 0, -2), (31, 3, .invokevirtual 122, 1, 0, 0), (34, 1, .ireturn, 0, 0, 0), (35, 1, .aload_n 0, 0, 0, 0), (36, 1, .iload_n 1, 1, 0, 0), (37, 1, .iload_n 3, 3, 0, 0), (38, 3, .invokevirtual 259, 3, 0, 0), (41, 1, .iconst (0), 0, 0, 0), (42, 2, .istore 4, 4, 0, 0), (44, 1, .iconst (0), 0, 0, 0), (45, 2, .istore 5, 5, 0, 0), (47, 2, .iload 5, 5, 0, 0), (49, 2, .bipush (30), 0, 0, 30), (51, 3, .if_icmp .ge (54), 105, 0, 0), (54, 1, .aload_n 0, 0, 0, 0), (55, 2, .iload 5, 5, 0, 0), (57, 1, .iload_n 2, 2, 0, 0), (58, 1, .iload_n 3, 3, 0, 0), (59, 3, .invokevirtual 272, 4, 0, 0), (62, 3, .ifCond .eq (37), 99, 0, 0), (65, 1, .aload_n 0, 0, 0, 0), (66, 3, .getfield 97, 12, 42, 0), (69, 1, .iload_n 1, 1, 0, 0), (70, 1, .iaload, 0, 0, 0), (71, 2, .iload 5, 5, 0, 0), (73, 1, .ishr, 0, 0, 0), (74, 1, .iconst (1), 0, 0, 1), (75, 1, .iand, 0, 0, 0), (76, 1, .iconst (1), 0, 0, 1), (77, 3, .if_icmp .ne (6), 83, 0, 0), (80, 3, .goto (19), 99, 0, 0), (83, 1, .aload_n 0, 0, 0, 0), (84, 3, .getfield 97, 12, 42, 0), (87, 1, .iload_n 1, 1, 0, 0), (88, 1, .dup2, 0, 0, 0), (89, 1, .iaload, 0, 0, 0), (90, 1, .iconst (1), 0, 0, 1), (91, 2, .iload 5, 5, 0, 0), (93, 1, .ishl, 0, 0, 0), (94, 1, .ior, 0, 0, 0), (95, 1, .iastore, 0, 0, 0), (96, 3, .iinc 4 (1), 4, 0, 1), (99, 3, .iinc 5 (1), 5, 0, 1), (102, 3, .goto (-55), 47, 0, 0), (105, 1, .aload_n 0, 0, 0, 0), (106, 2, .iload 4, 4, 0, 0), (108, 3, .invokevirtual 122, 1, 0, 0), (111, 1, .ireturn, 0, 0, 0)]
def t_X12_recall : mo_T := (cX12_recall, RX12, 6, 1, { frames := 3, cells := 0, slots := 0, locals := 75 })
theorem ok_X12_recall : mo_good t_X12_recall p_X12_recall = true ∧ mo_chain 0 p_X12_recall = true := by decide +kernel
def p_X12_told : List mo_I := [(0, 1, .aload_n 0, 0, 0, 0), (1, 1, .iload_n 1, 1, 0, 0), (2, 3, .invokevirtual 249, 0, 0, 0), (5, 3, .ifCond .eq (12), 17, 0, 0), (8, 1, .aload_n 0, 0, 0, 0), (9, 3, .getfield 97, 12, 42, 0), (12, 1, .iload_n 1, 1, 0, 0), (13, 1, .iaload, 0, 0, 0), (14, 3, .goto (4), 18, 0, 0), (17, 1, .iconst (0), 0, 0, 0), (18, 1, .ireturn, 0, 0, 0)]
def t_X12_told : mo_T := (cX12_told, RX12, 2, 1, { frames := 2, cells := 0, slots := 0, locals := 43 })
theorem ok_X12_told : mo_good t_X12_told p_X12_told = true ∧ mo_chain 0 p_X12_told = true := by decide +kernel
def p_X12_count : List mo_I := [(0, 1, .iload_n 1, 1, 0, 0), (1, 47, .tableswitch (87) (0) (7) #[47, 52, 57, 62, 67, 72, 77, 82], 0, 0, 0), (48, 1, .aload_n 0, 0, 0, 0), (49, 3, .getfield 116, 12, 1, 0), (52, 1, .ireturn, 0, 0, 0), (53, 1, .aload_n 0, 0, 0, 0), (54, 3, .getfield 119, 12, 2, 0), (57, 1, .ireturn, 0, 0, 0), (58, 1, .aload_n 0, 0, 0, 0), (59, 3, .getfield 147, 12, 6, 0), (62, 1, .ireturn, 0, 0, 0), (63, 1, .aload_n 0, 0, 0, 0), (64, 3, .getfield 154, 12, 12, 0), (67, 1, .ireturn, 0, 0, 0), (68, 1, .aload_n 0, 0, 0, 0), (69, 3, .getfield 160, 12, 18, 0), (72, 1, .ireturn, 0, 0, 0), (73, 1, .aload_n 0, 0, 0, 0), (74, 3, .getfield 163, 12, 19, 0), (77, 1, .ireturn, 0, 0, 0), (78, 1, .aload_n 0, 0, 0, 0), (79, 3, .getfield 208, 12, 36, 0), (82, 1, .ireturn, 0, 0, 0), (83, 1, .aload_n 0, 0, 0, 0), (84, 3, .getfield 176, 12, 30, 0), (87, 1, .ireturn, 0, 0, 0), (88, 1, .iconst (-1), 0, 0, -1), (89, 1, .ireturn, 0, 0, 0)]
def t_X12_count : mo_T := (cX12_count, RX12, 2, 1, { frames := 0, cells := 0, slots := 0, locals := 0 })
theorem ok_X12_count : mo_good t_X12_count p_X12_count = true ∧ mo_chain 0 p_X12_count = true := by decide +kernel
def p_X12_status : List mo_I := [(0, 1, .aload_n 0, 0, 0, 0), (1, 3, .getfield 113, 12, 0, 0), (4, 1, .ireturn, 0, 0, 0)]
def t_X12_status : mo_T := (cX12_status, RX12, 1, 1, { frames := 0, cells := 0, slots := 0, locals := 0 })
theorem ok_X12_status : mo_good t_X12_status p_X12_status = true ∧ mo_chain 0 p_X12_status = true := by decide +kernel
end
section
/-! from one place of a method on, over jumps ahead, until a place of sp or a jump back -/
def mo_seek : List mo_I → Nat → List mo_I
  | [], _ => []
  | q :: r, t => bif Nat.beq q.1 t then q :: r else mo_seek r t
def mo_fw (ex : Nat × (Nat → Int32)) (ml rt : Nat) (cs : Nat → mo_C) (K : mo_K) (Q : mo_Q) (sp : List Nat) : Nat → List mo_I → mo_K
  | 0, _, pc, ls, st, σ => K pc ls st σ
  | _ + 1, [], pc, ls, st, σ => K pc ls st σ
  | n + 1, q :: r, _, ls, st, σ => mo_op ex ml rt cs (fun t ls st σ => bif Nat.blt q.1 t && !(mo_hs sp t) then mo_fw ex ml rt cs K Q sp n (mo_seek r t) t ls st σ else K t ls st σ) Q q (fun ls st σ => bif mo_hs sp (q.1 + q.2.1) then K (q.1 + q.2.1) ls st σ else mo_fw ex ml rt cs K Q sp n r (q.1 + q.2.1) ls st σ) ls st σ
theorem mo_seek_chain : ∀ (r : List mo_I) (p t : Nat), mo_chain p r = true → mo_chain t (mo_seek r t) = true
  | [], p, t, _ => rfl
  | q :: r, p, t, h => by
    unfold mo_chain at h
    rw [Bool.and_eq_true] at h
    unfold mo_seek
    cases hq : Nat.beq q.1 t with
    | true =>
      have e := Nat.eq_of_beq_eq_true hq
      show mo_chain t (q :: r) = true
      unfold mo_chain
      rw [Bool.and_eq_true]
      exact ⟨by rw [e]; exact Nat.beq_refl t, h.2⟩
    | false => exact mo_seek_chain r _ t h.2
theorem mo_seek_good {mt : mo_T} : ∀ (r : List mo_I) (t : Nat), mo_good mt r = true → mo_good mt (mo_seek r t) = true
  | [], t, _ => rfl
  | q :: r, t, h => by
    unfold mo_seek
    cases hq : Nat.beq q.1 t with
    | true => exact h
    | false =>
      refine mo_seek_good r t ?_
      unfold mo_good at h ⊢
      rw [List.all_cons, Bool.and_eq_true] at h
      exact h.2
theorem mo_fw_ok {g : mo_E} {mt : mo_T} {Q : mo_Q} {cs : Nat → mo_C} {K : mo_K} {sp : List Nat} (hK : ∀ pc ls st σ, K pc ls st σ → mo_X g mt Q pc ls st σ) (hcs : ∀ j, mo_cok g mt (cs j) ∧ mo_mon (cs j)) : ∀ (n : Nat) (is : List mo_I) (pc : Nat), mo_chain pc is = true → mo_good mt is = true → ∀ ls st σ, mo_fw g.2.2.2.2 mt.2.2.1 mt.2.2.2.1 cs K Q sp n is pc ls st σ → mo_X g mt Q pc ls st σ
  | 0, is, pc, _, _, ls, st, σ, h => hK pc ls st σ h
  | n + 1, [], pc, _, _, ls, st, σ, h => hK pc ls st σ h
  | n + 1, q :: r, pc, h1, h2, ls, st, σ, h => by
    unfold mo_chain at h1
    rw [Bool.and_eq_true] at h1
    have e := Nat.eq_of_beq_eq_true h1.1
    subst e
    unfold mo_good at h2
    rw [List.all_cons, Bool.and_eq_true, Bool.and_eq_true] at h2
    refine mo_op_ok q (of_decide_eq_true h2.1.1) h2.1.2 hcs ?_ ?_ h
    · intro t ls st σ ht
      cases hb : (Nat.blt q.1 t && !(mo_hs sp t)) with
      | true =>
        rw [hb] at ht
        exact mo_fw_ok hK hcs n _ t (mo_seek_chain r _ t h1.2) (mo_seek_good r t h2.2) ls st σ ht
      | false =>
        rw [hb] at ht
        exact hK t ls st σ ht
    · intro ls st σ ht
      cases hb : mo_hs sp (q.1 + q.2.1) with
      | true =>
        rw [hb] at ht
        exact hK _ ls st σ ht
      | false =>
        rw [hb] at ht
        exact mo_fw_ok hK hcs n r _ h1.2 h2.2 ls st σ ht
theorem mo_go {g : mo_E} {mt : mo_T} {Q : mo_Q} {cs : Nat → mo_C} {p : List mo_I} (hok : mo_good mt p = true ∧ mo_chain 0 p = true) (hcs : ∀ j, mo_cok g mt (cs j) ∧ mo_mon (cs j)) (sp : List Nat) (n : Nat) {pc : Nat} {ls : mo_L} {st : List mo_V} {σ : mo_M} (h : ∀ K : mo_K, (∀ a b c d, mo_X g mt Q a b c d → K a b c d) → mo_fw g.2.2.2.2 mt.2.2.1 mt.2.2.2.1 cs K Q sp n (mo_seek p pc) pc ls st σ) : mo_X g mt Q pc ls st σ :=
  mo_fw_ok (fun _ _ _ _ h => h) hcs n _ pc (mo_seek_chain p 0 pc hok.2) (mo_seek_good p pc hok.1) ls st σ (h _ (fun _ _ _ _ h => h))
/-- no calls -/
def mo_no : Nat → mo_C := fun _ => (0, false, 0, 50, fun _ _ _ => False)
theorem mo_no_ok (g : mo_E) (mt : mo_T) : ∀ j, mo_cok g mt (mo_no j) ∧ mo_mon (mo_no j) := fun _ => ⟨mo_cok0 g mt, mo_mon0⟩
-- Int32 by its number
theorem mo_ti {c : Int} (h : -2147483648 ≤ c) (h2 : c < 2147483648) : (Int32.ofInt c).toInt = c := by
  rw [Int32.toInt_ofInt]
  exact Int.bmod_eq_of_le (by simpa using h) (by simpa using h2)
/-- a truth as an int -/
noncomputable def mo_bl (c : Prop) : Int32 := @ite _ c (Classical.propDecidable c) 1 0
theorem mo_bl_t {c : Prop} (h : c) : mo_bl c = 1 := by unfold mo_bl; exact if_pos h
theorem mo_bl_f {c : Prop} (h : ¬ c) : mo_bl c = 0 := by unfold mo_bl; exact if_neg h
theorem mo_bl01 (c : Prop) : mo_bl c = 0 ∨ mo_bl c = 1 := by
  by_cases h : c
  · exact Or.inr (mo_bl_t h)
  · exact Or.inl (mo_bl_f h)
theorem mo_bl0 {c : Prop} : mo_bl c = 0 ↔ ¬ c := by
  by_cases h : c
  · rw [mo_bl_t h]; simp [h]
  · rw [mo_bl_f h]; simp [h]
theorem mo_blc {c d : Prop} (h : c ↔ d) : mo_bl c = mo_bl d := by rw [propext h]
theorem mo_r1 {c : Prop} (h : c) : (some (.inl (Int32.ofInt 1)) : Option mo_V) = some (.inl (mo_bl c)) := by rw [mo_bl_t h]; rfl
theorem mo_r0 {c : Prop} (h : ¬ c) : (some (.inl (Int32.ofInt 0)) : Option mo_V) = some (.inl (mo_bl c)) := by rw [mo_bl_f h]; rfl
theorem mo_q {Q : mo_Q} {r r' : Option mo_V} {τ τ' : mo_M} (h : Q r' τ') (e : r = r') (e2 : τ = τ') : Q r τ := by rw [e, e2]; exact h
theorem mo_ieq {x y : Int32} : x = y ↔ x.toInt = y.toInt := Int32.toInt_inj.symm
theorem mo_rng (x : Int32) : -2147483648 ≤ x.toInt ∧ x.toInt < 2147483648 := by
  have h1 := Int32.le_toInt x
  have h2 := Int32.toInt_lt x
  constructor <;> simpa using by assumption
theorem mo_n1 : (-1 : Int32).toInt = -1 := by decide
end
section
/-- a bit of a set -/
def mo_bt (s : Int64) (n : Int32) : Prop := ¬ ((s.toUInt64 >>> (n.toInt64.toUInt64 &&& Int64.toUInt64 63)).toInt64 &&& 1) = 0
def S_X11_isWithin : mo_S := fun as σ Q => ∃ n : Int32, ∃ most : Int32, as = [.inl n, .inl most] ∧ (True) ∧ Q (some (.inl (mo_bl (0 ≤ n ∧ n ≤ most)))) (σ)
theorem m_X11_isWithin : ∀ (as : List mo_V) (σ : mo_M) (P P' : mo_Q), (∀ x τ, P x τ → P' x τ) → S_X11_isWithin as σ P → S_X11_isWithin as σ P' := by
  rintro as σ P P' h ⟨n, most, e, hp, hq⟩
  exact ⟨n, most, e, hp, h _ _ hq⟩
set_option maxRecDepth 20000 in
set_option maxHeartbeats 2000000 in
theorem ct_X11_isWithin : mo_ct yX11_isWithin t_X11_isWithin S_X11_isWithin := by
  refine mo_ct_of (by decide) rfl ?_
  rintro g as σ Q ⟨n, most, rfl, hpre, hQ⟩
  refine ⟨Nat.le_of_ble_eq_true rfl, mo_go ok_X11_isWithin (mo_no_ok g _) [] 10 ?_⟩
  intro K hK
  refine And.intro (fun (c1 : n < 0) => ?_) (fun (c1 : ¬ n < 0) => ?_)
  · refine And.intro (by first | decide | exact mo_bl01 _) ?_
    exact mo_q hQ (mo_r0 (by ((try simp only [mo_bl0, Classical.not_not] at c1); (try simp only [Int32.lt_iff_toInt_lt, Int32.le_iff_toInt_le, mo_ieq, Int32.toInt_zero, mo_n1, Nat.reduceAdd] at c1 ⊢); omega))) rfl
  · refine And.intro (fun (c2 : most < n) => ?_) (fun (c2 : ¬ most < n) => ?_)
    · refine And.intro (by first | decide | exact mo_bl01 _) ?_
      exact mo_q hQ (mo_r0 (by ((try simp only [mo_bl0, Classical.not_not] at c1 c2); (try simp only [Int32.lt_iff_toInt_lt, Int32.le_iff_toInt_le, mo_ieq, Int32.toInt_zero, mo_n1, Nat.reduceAdd] at c1 c2 ⊢); omega))) rfl
    · refine And.intro (by first | decide | exact mo_bl01 _) ?_
      exact mo_q hQ (mo_r1 (by ((try simp only [mo_bl0, Classical.not_not] at c1 c2); (try simp only [Int32.lt_iff_toInt_lt, Int32.le_iff_toInt_le, mo_ieq, Int32.toInt_zero, mo_n1, Nat.reduceAdd] at c1 c2 ⊢); omega))) rfl
def S_X11_isDay : mo_S := fun as σ Q => ∃ n : Int32, as = [.inl n] ∧ (True) ∧ Q (some (.inl (mo_bl (0 ≤ n ∧ n ≤ (10000 : Int32))))) (σ)
theorem m_X11_isDay : ∀ (as : List mo_V) (σ : mo_M) (P P' : mo_Q), (∀ x τ, P x τ → P' x τ) → S_X11_isDay as σ P → S_X11_isDay as σ P' := by
  rintro as σ P P' h ⟨n, e, hp, hq⟩
  exact ⟨n, e, hp, h _ _ hq⟩
def cs_X11_isDay : Nat → mo_C := fun j => match j with
  | 0 => (2, false, 101, 50, S_X11_isWithin)
  | _ => (0, false, 0, 50, fun _ _ _ => False)
theorem cs_X11_isDay_ok (g : mo_E) : ∀ j, mo_cok g t_X11_isDay (cs_X11_isDay j) ∧ mo_mon (cs_X11_isDay j) := by
  intro j
  unfold cs_X11_isDay
  split
  · exact ⟨mo_cokS ct_X11_isWithin (by decide +kernel), m_X11_isWithin⟩
  · exact ⟨mo_cok0 g _, mo_mon0⟩
set_option maxRecDepth 20000 in
set_option maxHeartbeats 2000000 in
theorem ct_X11_isDay : mo_ct yX11_isDay t_X11_isDay S_X11_isDay := by
  refine mo_ct_of (by decide) rfl ?_
  rintro g as σ Q ⟨n, rfl, hpre, hQ⟩
  refine ⟨Nat.le_of_ble_eq_true rfl, mo_go ok_X11_isDay (cs_X11_isDay_ok g) [] 5 ?_⟩
  intro K hK
  refine Exists.intro n (Exists.intro (10000 : Int32) (And.intro rfl (And.intro (show True by trivial) ?_)))
  refine And.intro (by first | decide | exact mo_bl01 _) ?_
  exact hQ
def S_X11_refuse : mo_S := fun as σ Q => ∃ n : Int32, as = [.inr (.inr (0, 0)), .inl n] ∧ (True) ∧ Q (some (.inl (n))) (mo_wI σ 0 0 14 n)
theorem m_X11_refuse : ∀ (as : List mo_V) (σ : mo_M) (P P' : mo_Q), (∀ x τ, P x τ → P' x τ) → S_X11_refuse as σ P → S_X11_refuse as σ P' := by
  rintro as σ P P' h ⟨n, e, hp, hq⟩
  exact ⟨n, e, hp, h _ _ hq⟩
set_option maxRecDepth 20000 in
set_option maxHeartbeats 2000000 in
theorem ct_X11_refuse : mo_ct yX11_refuse t_X11_refuse S_X11_refuse := by
  refine mo_ct_of (by decide) rfl ?_
  rintro g as σ Q ⟨n, rfl, hpre, hQ⟩
  refine ⟨Nat.le_of_ble_eq_true rfl, mo_go ok_X11_refuse (mo_no_ok g _) [] 6 ?_⟩
  intro K hK
  exact hQ
def S_X11_accept : mo_S := fun as σ Q => ∃ n : Int32, as = [.inr (.inr (0, 0)), .inl n] ∧ (True) ∧ Q (some (.inl (n))) (mo_wI σ 0 0 14 0)
theorem m_X11_accept : ∀ (as : List mo_V) (σ : mo_M) (P P' : mo_Q), (∀ x τ, P x τ → P' x τ) → S_X11_accept as σ P → S_X11_accept as σ P' := by
  rintro as σ P P' h ⟨n, e, hp, hq⟩
  exact ⟨n, e, hp, h _ _ hq⟩
set_option maxRecDepth 20000 in
set_option maxHeartbeats 2000000 in
theorem ct_X11_accept : mo_ct yX11_accept t_X11_accept S_X11_accept := by
  refine mo_ct_of (by decide) rfl ?_
  rintro g as σ Q ⟨n, rfl, hpre, hQ⟩
  refine ⟨Nat.le_of_ble_eq_true rfl, mo_go ok_X11_accept (mo_no_ok g _) [] 6 ?_⟩
  intro K hK
  exact hQ
def S_X11_isPart : mo_S := fun as σ Q => ∃ n : Int32, as = [.inr (.inr (0, 0)), .inl n] ∧ (True) ∧ Q (some (.inl (mo_bl (0 ≤ n ∧ n < σ.1 1 0 1)))) (σ)
theorem m_X11_isPart : ∀ (as : List mo_V) (σ : mo_M) (P P' : mo_Q), (∀ x τ, P x τ → P' x τ) → S_X11_isPart as σ P → S_X11_isPart as σ P' := by
  rintro as σ P P' h ⟨n, e, hp, hq⟩
  exact ⟨n, e, hp, h _ _ hq⟩
set_option maxRecDepth 20000 in
set_option maxHeartbeats 2000000 in
theorem ct_X11_isPart : mo_ct yX11_isPart t_X11_isPart S_X11_isPart := by
  refine mo_ct_of (by decide) rfl ?_
  rintro g as σ Q ⟨n, rfl, hpre, hQ⟩
  refine ⟨Nat.le_of_ble_eq_true rfl, mo_go ok_X11_isPart (mo_no_ok g _) [] 12 ?_⟩
  intro K hK
  refine And.intro (fun (c1 : n < 0) => ?_) (fun (c1 : ¬ n < 0) => ?_)
  · refine And.intro (by first | decide | exact mo_bl01 _) ?_
    exact mo_q hQ (mo_r0 (by ((try simp only [mo_bl0, Classical.not_not] at c1); (try simp only [Int32.lt_iff_toInt_lt, Int32.le_iff_toInt_le, mo_ieq, Int32.toInt_zero, mo_n1, Nat.reduceAdd] at c1 ⊢); omega))) rfl
  · refine And.intro (fun (c2 : (σ.1 1 0 1) ≤ n) => ?_) (fun (c2 : ¬ (σ.1 1 0 1) ≤ n) => ?_)
    · refine And.intro (by first | decide | exact mo_bl01 _) ?_
      exact mo_q hQ (mo_r0 (by ((try simp only [mo_bl0, Classical.not_not] at c1 c2); (try simp only [Int32.lt_iff_toInt_lt, Int32.le_iff_toInt_le, mo_ieq, Int32.toInt_zero, mo_n1, Nat.reduceAdd] at c1 c2 ⊢); omega))) rfl
    · refine And.intro (by first | decide | exact mo_bl01 _) ?_
      exact mo_q hQ (mo_r1 (by ((try simp only [mo_bl0, Classical.not_not] at c1 c2); (try simp only [Int32.lt_iff_toInt_lt, Int32.le_iff_toInt_le, mo_ieq, Int32.toInt_zero, mo_n1, Nat.reduceAdd] at c1 c2 ⊢); omega))) rfl
def S_X11_isMake : mo_S := fun as σ Q => ∃ n : Int32, as = [.inr (.inr (0, 0)), .inl n] ∧ (True) ∧ Q (some (.inl (mo_bl (0 ≤ n ∧ n < σ.1 3 0 2)))) (σ)
theorem m_X11_isMake : ∀ (as : List mo_V) (σ : mo_M) (P P' : mo_Q), (∀ x τ, P x τ → P' x τ) → S_X11_isMake as σ P → S_X11_isMake as σ P' := by
  rintro as σ P P' h ⟨n, e, hp, hq⟩
  exact ⟨n, e, hp, h _ _ hq⟩
set_option maxRecDepth 20000 in
set_option maxHeartbeats 2000000 in
theorem ct_X11_isMake : mo_ct yX11_isMake t_X11_isMake S_X11_isMake := by
  refine mo_ct_of (by decide) rfl ?_
  rintro g as σ Q ⟨n, rfl, hpre, hQ⟩
  refine ⟨Nat.le_of_ble_eq_true rfl, mo_go ok_X11_isMake (mo_no_ok g _) [] 12 ?_⟩
  intro K hK
  refine And.intro (fun (c1 : n < 0) => ?_) (fun (c1 : ¬ n < 0) => ?_)
  · refine And.intro (by first | decide | exact mo_bl01 _) ?_
    exact mo_q hQ (mo_r0 (by ((try simp only [mo_bl0, Classical.not_not] at c1); (try simp only [Int32.lt_iff_toInt_lt, Int32.le_iff_toInt_le, mo_ieq, Int32.toInt_zero, mo_n1, Nat.reduceAdd] at c1 ⊢); omega))) rfl
  · refine And.intro (fun (c2 : (σ.1 3 0 2) ≤ n) => ?_) (fun (c2 : ¬ (σ.1 3 0 2) ≤ n) => ?_)
    · refine And.intro (by first | decide | exact mo_bl01 _) ?_
      exact mo_q hQ (mo_r0 (by ((try simp only [mo_bl0, Classical.not_not] at c1 c2); (try simp only [Int32.lt_iff_toInt_lt, Int32.le_iff_toInt_le, mo_ieq, Int32.toInt_zero, mo_n1, Nat.reduceAdd] at c1 c2 ⊢); omega))) rfl
    · refine And.intro (by first | decide | exact mo_bl01 _) ?_
      exact mo_q hQ (mo_r1 (by ((try simp only [mo_bl0, Classical.not_not] at c1 c2); (try simp only [Int32.lt_iff_toInt_lt, Int32.le_iff_toInt_le, mo_ieq, Int32.toInt_zero, mo_n1, Nat.reduceAdd] at c1 c2 ⊢); omega))) rfl
def S_X11_isLink : mo_S := fun as σ Q => ∃ n : Int32, as = [.inr (.inr (0, 0)), .inl n] ∧ (True) ∧ Q (some (.inl (mo_bl (0 ≤ n ∧ n < σ.1 6 0 5)))) (σ)
theorem m_X11_isLink : ∀ (as : List mo_V) (σ : mo_M) (P P' : mo_Q), (∀ x τ, P x τ → P' x τ) → S_X11_isLink as σ P → S_X11_isLink as σ P' := by
  rintro as σ P P' h ⟨n, e, hp, hq⟩
  exact ⟨n, e, hp, h _ _ hq⟩
set_option maxRecDepth 20000 in
set_option maxHeartbeats 2000000 in
theorem ct_X11_isLink : mo_ct yX11_isLink t_X11_isLink S_X11_isLink := by
  refine mo_ct_of (by decide) rfl ?_
  rintro g as σ Q ⟨n, rfl, hpre, hQ⟩
  refine ⟨Nat.le_of_ble_eq_true rfl, mo_go ok_X11_isLink (mo_no_ok g _) [] 12 ?_⟩
  intro K hK
  refine And.intro (fun (c1 : n < 0) => ?_) (fun (c1 : ¬ n < 0) => ?_)
  · refine And.intro (by first | decide | exact mo_bl01 _) ?_
    exact mo_q hQ (mo_r0 (by ((try simp only [mo_bl0, Classical.not_not] at c1); (try simp only [Int32.lt_iff_toInt_lt, Int32.le_iff_toInt_le, mo_ieq, Int32.toInt_zero, mo_n1, Nat.reduceAdd] at c1 ⊢); omega))) rfl
  · refine And.intro (fun (c2 : (σ.1 6 0 5) ≤ n) => ?_) (fun (c2 : ¬ (σ.1 6 0 5) ≤ n) => ?_)
    · refine And.intro (by first | decide | exact mo_bl01 _) ?_
      exact mo_q hQ (mo_r0 (by ((try simp only [mo_bl0, Classical.not_not] at c1 c2); (try simp only [Int32.lt_iff_toInt_lt, Int32.le_iff_toInt_le, mo_ieq, Int32.toInt_zero, mo_n1, Nat.reduceAdd] at c1 c2 ⊢); omega))) rfl
    · refine And.intro (by first | decide | exact mo_bl01 _) ?_
      exact mo_q hQ (mo_r1 (by ((try simp only [mo_bl0, Classical.not_not] at c1 c2); (try simp only [Int32.lt_iff_toInt_lt, Int32.le_iff_toInt_le, mo_ieq, Int32.toInt_zero, mo_n1, Nat.reduceAdd] at c1 c2 ⊢); omega))) rfl
def S_X11_isWarning : mo_S := fun as σ Q => ∃ n : Int32, as = [.inr (.inr (0, 0)), .inl n] ∧ (True) ∧ Q (some (.inl (mo_bl (0 ≤ n ∧ n < σ.1 0 0 12)))) (σ)
theorem m_X11_isWarning : ∀ (as : List mo_V) (σ : mo_M) (P P' : mo_Q), (∀ x τ, P x τ → P' x τ) → S_X11_isWarning as σ P → S_X11_isWarning as σ P' := by
  rintro as σ P P' h ⟨n, e, hp, hq⟩
  exact ⟨n, e, hp, h _ _ hq⟩
set_option maxRecDepth 20000 in
set_option maxHeartbeats 2000000 in
theorem ct_X11_isWarning : mo_ct yX11_isWarning t_X11_isWarning S_X11_isWarning := by
  refine mo_ct_of (by decide) rfl ?_
  rintro g as σ Q ⟨n, rfl, hpre, hQ⟩
  refine ⟨Nat.le_of_ble_eq_true rfl, mo_go ok_X11_isWarning (mo_no_ok g _) [] 11 ?_⟩
  intro K hK
  refine And.intro (fun (c1 : n < 0) => ?_) (fun (c1 : ¬ n < 0) => ?_)
  · refine And.intro (by first | decide | exact mo_bl01 _) ?_
    exact mo_q hQ (mo_r0 (by ((try simp only [mo_bl0, Classical.not_not] at c1); (try simp only [Int32.lt_iff_toInt_lt, Int32.le_iff_toInt_le, mo_ieq, Int32.toInt_zero, mo_n1, Nat.reduceAdd] at c1 ⊢); omega))) rfl
  · refine And.intro (fun (c2 : (σ.1 0 0 12) ≤ n) => ?_) (fun (c2 : ¬ (σ.1 0 0 12) ≤ n) => ?_)
    · refine And.intro (by first | decide | exact mo_bl01 _) ?_
      exact mo_q hQ (mo_r0 (by ((try simp only [mo_bl0, Classical.not_not] at c1 c2); (try simp only [Int32.lt_iff_toInt_lt, Int32.le_iff_toInt_le, mo_ieq, Int32.toInt_zero, mo_n1, Nat.reduceAdd] at c1 c2 ⊢); omega))) rfl
    · refine And.intro (by first | decide | exact mo_bl01 _) ?_
      exact mo_q hQ (mo_r1 (by ((try simp only [mo_bl0, Classical.not_not] at c1 c2); (try simp only [Int32.lt_iff_toInt_lt, Int32.le_iff_toInt_le, mo_ieq, Int32.toInt_zero, mo_n1, Nat.reduceAdd] at c1 c2 ⊢); omega))) rfl
def S_X11_status : mo_S := fun as σ Q => as = [.inr (.inr (0, 0))] ∧ (True) ∧ Q (some (.inl (σ.1 0 0 14))) (σ)
theorem m_X11_status : ∀ (as : List mo_V) (σ : mo_M) (P P' : mo_Q), (∀ x τ, P x τ → P' x τ) → S_X11_status as σ P → S_X11_status as σ P' := by
  rintro as σ P P' h ⟨e, hp, hq⟩
  exact ⟨e, hp, h _ _ hq⟩
set_option maxRecDepth 20000 in
set_option maxHeartbeats 2000000 in
theorem ct_X11_status : mo_ct yX11_status t_X11_status S_X11_status := by
  refine mo_ct_of (by decide) rfl ?_
  rintro g as σ Q ⟨rfl, hpre, hQ⟩
  refine ⟨Nat.le_of_ble_eq_true rfl, mo_go ok_X11_status (mo_no_ok g _) [] 4 ?_⟩
  intro K hK
  exact hQ
def S_X11_fault : mo_S := fun as σ Q => as = [.inr (.inr (0, 0))] ∧ (True) ∧ Q (some (.inl (σ.1 0 0 13))) (σ)
theorem m_X11_fault : ∀ (as : List mo_V) (σ : mo_M) (P P' : mo_Q), (∀ x τ, P x τ → P' x τ) → S_X11_fault as σ P → S_X11_fault as σ P' := by
  rintro as σ P P' h ⟨e, hp, hq⟩
  exact ⟨e, hp, h _ _ hq⟩
set_option maxRecDepth 20000 in
set_option maxHeartbeats 2000000 in
theorem ct_X11_fault : mo_ct yX11_fault t_X11_fault S_X11_fault := by
  refine mo_ct_of (by decide) rfl ?_
  rintro g as σ Q ⟨rfl, hpre, hQ⟩
  refine ⟨Nat.le_of_ble_eq_true rfl, mo_go ok_X11_fault (mo_no_ok g _) [] 4 ?_⟩
  intro K hK
  exact hQ
def S_X11_isVersion : mo_S := fun as σ Q => ∃ a : Int32, ∃ b : Int32, ∃ c : Int32, as = [.inl a, .inl b, .inl c] ∧ (True) ∧ Q (some (.inl (mo_bl ((0 ≤ a ∧ a ≤ (999 : Int32)) ∧ (0 ≤ b ∧ b ≤ (999 : Int32)) ∧ (0 ≤ c ∧ c ≤ (999 : Int32)))))) (σ)
theorem m_X11_isVersion : ∀ (as : List mo_V) (σ : mo_M) (P P' : mo_Q), (∀ x τ, P x τ → P' x τ) → S_X11_isVersion as σ P → S_X11_isVersion as σ P' := by
  rintro as σ P P' h ⟨a, b, c, e, hp, hq⟩
  exact ⟨a, b, c, e, hp, h _ _ hq⟩
def cs_X11_isVersion : Nat → mo_C := fun j => match j with
  | 0 => (2, false, 101, 50, S_X11_isWithin)
  | _ => (0, false, 0, 50, fun _ _ _ => False)
theorem cs_X11_isVersion_ok (g : mo_E) : ∀ j, mo_cok g t_X11_isVersion (cs_X11_isVersion j) ∧ mo_mon (cs_X11_isVersion j) := by
  intro j
  unfold cs_X11_isVersion
  split
  · exact ⟨mo_cokS ct_X11_isWithin (by decide +kernel), m_X11_isWithin⟩
  · exact ⟨mo_cok0 g _, mo_mon0⟩
set_option maxRecDepth 20000 in
set_option maxHeartbeats 2000000 in
theorem ct_X11_isVersion : mo_ct yX11_isVersion t_X11_isVersion S_X11_isVersion := by
  refine mo_ct_of (by decide) rfl ?_
  rintro g as σ Q ⟨a, b, c, rfl, hpre, hQ⟩
  refine ⟨Nat.le_of_ble_eq_true rfl, mo_go ok_X11_isVersion (cs_X11_isVersion_ok g) [] 17 ?_⟩
  intro K hK
  refine Exists.intro a (Exists.intro (999 : Int32) (And.intro rfl (And.intro (show True by trivial) ?_)))
  refine And.intro (fun (c1 : (mo_bl (0 ≤ a ∧ a ≤ (999 : Int32))) = 0) => ?_) (fun (c1 : ¬ (mo_bl (0 ≤ a ∧ a ≤ (999 : Int32))) = 0) => ?_)
  · refine And.intro (by first | decide | exact mo_bl01 _) ?_
    exact mo_q hQ (mo_r0 (by ((try simp only [mo_bl0, Classical.not_not] at c1); (try simp only [Int32.lt_iff_toInt_lt, Int32.le_iff_toInt_le, mo_ieq, Int32.toInt_zero, mo_n1, Nat.reduceAdd] at c1 ⊢); omega))) rfl
  · refine Exists.intro b (Exists.intro (999 : Int32) (And.intro rfl (And.intro (show True by trivial) ?_)))
    refine And.intro (fun (c2 : (mo_bl (0 ≤ b ∧ b ≤ (999 : Int32))) = 0) => ?_) (fun (c2 : ¬ (mo_bl (0 ≤ b ∧ b ≤ (999 : Int32))) = 0) => ?_)
    · refine And.intro (by first | decide | exact mo_bl01 _) ?_
      exact mo_q hQ (mo_r0 (by ((try simp only [mo_bl0, Classical.not_not] at c1 c2); (try simp only [Int32.lt_iff_toInt_lt, Int32.le_iff_toInt_le, mo_ieq, Int32.toInt_zero, mo_n1, Nat.reduceAdd] at c1 c2 ⊢); omega))) rfl
    · refine Exists.intro c (Exists.intro (999 : Int32) (And.intro rfl (And.intro (show True by trivial) ?_)))
      refine And.intro (fun (c3 : (mo_bl (0 ≤ c ∧ c ≤ (999 : Int32))) = 0) => ?_) (fun (c3 : ¬ (mo_bl (0 ≤ c ∧ c ≤ (999 : Int32))) = 0) => ?_)
      · refine And.intro (by first | decide | exact mo_bl01 _) ?_
        exact mo_q hQ (mo_r0 (by ((try simp only [mo_bl0, Classical.not_not] at c1 c2 c3); (try simp only [Int32.lt_iff_toInt_lt, Int32.le_iff_toInt_le, mo_ieq, Int32.toInt_zero, mo_n1, Nat.reduceAdd] at c1 c2 c3 ⊢); omega))) rfl
      · refine And.intro (by first | decide | exact mo_bl01 _) ?_
        exact mo_q hQ (mo_r1 (by ((try simp only [mo_bl0, Classical.not_not] at c1 c2 c3); (try simp only [Int32.lt_iff_toInt_lt, Int32.le_iff_toInt_le, mo_ieq, Int32.toInt_zero, mo_n1, Nat.reduceAdd] at c1 c2 c3 ⊢); omega))) rfl
def S_X12_in : mo_S := fun as σ Q => ∃ v : Int32, ∃ low : Int32, ∃ high : Int32, as = [.inl v, .inl low, .inl high] ∧ (True) ∧ Q (some (.inl (mo_bl (low ≤ v ∧ v ≤ high)))) (σ)
theorem m_X12_in : ∀ (as : List mo_V) (σ : mo_M) (P P' : mo_Q), (∀ x τ, P x τ → P' x τ) → S_X12_in as σ P → S_X12_in as σ P' := by
  rintro as σ P P' h ⟨v, low, high, e, hp, hq⟩
  exact ⟨v, low, high, e, hp, h _ _ hq⟩
set_option maxRecDepth 20000 in
set_option maxHeartbeats 2000000 in
theorem ct_X12_in : mo_ct yX12_in t_X12_in S_X12_in := by
  refine mo_ct_of (by decide) rfl ?_
  rintro g as σ Q ⟨v, low, high, rfl, hpre, hQ⟩
  refine ⟨Nat.le_of_ble_eq_true rfl, mo_go ok_X12_in (mo_no_ok g _) [] 11 ?_⟩
  intro K hK
  refine And.intro (fun (c1 : v < low) => ?_) (fun (c1 : ¬ v < low) => ?_)
  · refine And.intro (by first | decide | exact mo_bl01 _) ?_
    exact mo_q hQ (mo_r0 (by ((try simp only [mo_bl0, Classical.not_not] at c1); (try simp only [Int32.lt_iff_toInt_lt, Int32.le_iff_toInt_le, mo_ieq, Int32.toInt_zero, mo_n1, Nat.reduceAdd] at c1 ⊢); omega))) rfl
  · refine And.intro (fun (c2 : high < v) => ?_) (fun (c2 : ¬ high < v) => ?_)
    · refine And.intro (by first | decide | exact mo_bl01 _) ?_
      exact mo_q hQ (mo_r0 (by ((try simp only [mo_bl0, Classical.not_not] at c1 c2); (try simp only [Int32.lt_iff_toInt_lt, Int32.le_iff_toInt_le, mo_ieq, Int32.toInt_zero, mo_n1, Nat.reduceAdd] at c1 c2 ⊢); omega))) rfl
    · refine And.intro (by first | decide | exact mo_bl01 _) ?_
      exact mo_q hQ (mo_r1 (by ((try simp only [mo_bl0, Classical.not_not] at c1 c2); (try simp only [Int32.lt_iff_toInt_lt, Int32.le_iff_toInt_le, mo_ieq, Int32.toInt_zero, mo_n1, Nat.reduceAdd] at c1 c2 ⊢); omega))) rfl
def S_X12_isDay : mo_S := fun as σ Q => ∃ n : Int32, as = [.inl n] ∧ (True) ∧ Q (some (.inl (mo_bl (0 ≤ n ∧ n ≤ (10000 : Int32))))) (σ)
theorem m_X12_isDay : ∀ (as : List mo_V) (σ : mo_M) (P P' : mo_Q), (∀ x τ, P x τ → P' x τ) → S_X12_isDay as σ P → S_X12_isDay as σ P' := by
  rintro as σ P P' h ⟨n, e, hp, hq⟩
  exact ⟨n, e, hp, h _ _ hq⟩
def cs_X12_isDay : Nat → mo_C := fun j => match j with
  | 0 => (3, false, 109, 50, S_X12_in)
  | _ => (0, false, 0, 50, fun _ _ _ => False)
theorem cs_X12_isDay_ok (g : mo_E) : ∀ j, mo_cok g t_X12_isDay (cs_X12_isDay j) ∧ mo_mon (cs_X12_isDay j) := by
  intro j
  unfold cs_X12_isDay
  split
  · exact ⟨mo_cokS ct_X12_in (by decide +kernel), m_X12_in⟩
  · exact ⟨mo_cok0 g _, mo_mon0⟩
set_option maxRecDepth 20000 in
set_option maxHeartbeats 2000000 in
theorem ct_X12_isDay : mo_ct yX12_isDay t_X12_isDay S_X12_isDay := by
  refine mo_ct_of (by decide) rfl ?_
  rintro g as σ Q ⟨n, rfl, hpre, hQ⟩
  refine ⟨Nat.le_of_ble_eq_true rfl, mo_go ok_X12_isDay (cs_X12_isDay_ok g) [] 6 ?_⟩
  intro K hK
  refine Exists.intro n (Exists.intro (0 : Int32) (Exists.intro (10000 : Int32) (And.intro rfl (And.intro (show True by trivial) ?_))))
  refine And.intro (by first | decide | exact mo_bl01 _) ?_
  exact hQ
def S_X12_status : mo_S := fun as σ Q => as = [.inr (.inr (50, 0))] ∧ (True) ∧ Q (some (.inl (σ.1 50 0 0))) (σ)
theorem m_X12_status : ∀ (as : List mo_V) (σ : mo_M) (P P' : mo_Q), (∀ x τ, P x τ → P' x τ) → S_X12_status as σ P → S_X12_status as σ P' := by
  rintro as σ P P' h ⟨e, hp, hq⟩
  exact ⟨e, hp, h _ _ hq⟩
set_option maxRecDepth 20000 in
set_option maxHeartbeats 2000000 in
theorem ct_X12_status : mo_ct yX12_status t_X12_status S_X12_status := by
  refine mo_ct_of (by decide) rfl ?_
  rintro g as σ Q ⟨rfl, hpre, hQ⟩
  refine ⟨Nat.le_of_ble_eq_true rfl, mo_go ok_X12_status (mo_no_ok g _) [] 4 ?_⟩
  intro K hK
  exact hQ
def S_X12_fault : mo_S := fun as σ Q => as = [.inr (.inr (50, 0))] ∧ (True) ∧ Q (some (.inl (σ.1 50 0 34))) (σ)
theorem m_X12_fault : ∀ (as : List mo_V) (σ : mo_M) (P P' : mo_Q), (∀ x τ, P x τ → P' x τ) → S_X12_fault as σ P → S_X12_fault as σ P' := by
  rintro as σ P P' h ⟨e, hp, hq⟩
  exact ⟨e, hp, h _ _ hq⟩
set_option maxRecDepth 20000 in
set_option maxHeartbeats 2000000 in
theorem ct_X12_fault : mo_ct yX12_fault t_X12_fault S_X12_fault := by
  refine mo_ct_of (by decide) rfl ?_
  rintro g as σ Q ⟨rfl, hpre, hQ⟩
  refine ⟨Nat.le_of_ble_eq_true rfl, mo_go ok_X12_fault (mo_no_ok g _) [] 4 ?_⟩
  intro K hK
  exact hQ
def S_X12_isPart : mo_S := fun as σ Q => ∃ n : Int32, as = [.inr (.inr (50, 0)), .inl n] ∧ (True) ∧ Q (some (.inl (mo_bl (0 ≤ n ∧ n ≤ σ.1 50 0 1 - 1)))) (σ)
theorem m_X12_isPart : ∀ (as : List mo_V) (σ : mo_M) (P P' : mo_Q), (∀ x τ, P x τ → P' x τ) → S_X12_isPart as σ P → S_X12_isPart as σ P' := by
  rintro as σ P P' h ⟨n, e, hp, hq⟩
  exact ⟨n, e, hp, h _ _ hq⟩
def cs_X12_isPart : Nat → mo_C := fun j => match j with
  | 0 => (3, false, 109, 50, S_X12_in)
  | _ => (0, false, 0, 50, fun _ _ _ => False)
theorem cs_X12_isPart_ok (g : mo_E) : ∀ j, mo_cok g t_X12_isPart (cs_X12_isPart j) ∧ mo_mon (cs_X12_isPart j) := by
  intro j
  unfold cs_X12_isPart
  split
  · exact ⟨mo_cokS ct_X12_in (by decide +kernel), m_X12_in⟩
  · exact ⟨mo_cok0 g _, mo_mon0⟩
set_option maxRecDepth 20000 in
set_option maxHeartbeats 2000000 in
theorem ct_X12_isPart : mo_ct yX12_isPart t_X12_isPart S_X12_isPart := by
  refine mo_ct_of (by decide) rfl ?_
  rintro g as σ Q ⟨n, rfl, hpre, hQ⟩
  refine ⟨Nat.le_of_ble_eq_true rfl, mo_go ok_X12_isPart (cs_X12_isPart_ok g) [] 9 ?_⟩
  intro K hK
  refine Exists.intro n (Exists.intro (0 : Int32) (Exists.intro ((σ.1 50 0 1) - (1 : Int32)) (And.intro rfl (And.intro (show True by trivial) ?_))))
  refine And.intro (by first | decide | exact mo_bl01 _) ?_
  exact hQ
def S_X12_isMake : mo_S := fun as σ Q => ∃ n : Int32, as = [.inr (.inr (50, 0)), .inl n] ∧ (True) ∧ Q (some (.inl (mo_bl (0 ≤ n ∧ n ≤ σ.1 50 0 2 - 1)))) (σ)
theorem m_X12_isMake : ∀ (as : List mo_V) (σ : mo_M) (P P' : mo_Q), (∀ x τ, P x τ → P' x τ) → S_X12_isMake as σ P → S_X12_isMake as σ P' := by
  rintro as σ P P' h ⟨n, e, hp, hq⟩
  exact ⟨n, e, hp, h _ _ hq⟩
def cs_X12_isMake : Nat → mo_C := fun j => match j with
  | 0 => (3, false, 109, 50, S_X12_in)
  | _ => (0, false, 0, 50, fun _ _ _ => False)
theorem cs_X12_isMake_ok (g : mo_E) : ∀ j, mo_cok g t_X12_isMake (cs_X12_isMake j) ∧ mo_mon (cs_X12_isMake j) := by
  intro j
  unfold cs_X12_isMake
  split
  · exact ⟨mo_cokS ct_X12_in (by decide +kernel), m_X12_in⟩
  · exact ⟨mo_cok0 g _, mo_mon0⟩
set_option maxRecDepth 20000 in
set_option maxHeartbeats 2000000 in
theorem ct_X12_isMake : mo_ct yX12_isMake t_X12_isMake S_X12_isMake := by
  refine mo_ct_of (by decide) rfl ?_
  rintro g as σ Q ⟨n, rfl, hpre, hQ⟩
  refine ⟨Nat.le_of_ble_eq_true rfl, mo_go ok_X12_isMake (cs_X12_isMake_ok g) [] 9 ?_⟩
  intro K hK
  refine Exists.intro n (Exists.intro (0 : Int32) (Exists.intro ((σ.1 50 0 2) - (1 : Int32)) (And.intro rfl (And.intro (show True by trivial) ?_))))
  refine And.intro (by first | decide | exact mo_bl01 _) ?_
  exact hQ
def S_X12_isWarning : mo_S := fun as σ Q => ∃ n : Int32, as = [.inr (.inr (50, 0)), .inl n] ∧ (True) ∧ Q (some (.inl (mo_bl (0 ≤ n ∧ n ≤ σ.1 50 0 36 - 1)))) (σ)
theorem m_X12_isWarning : ∀ (as : List mo_V) (σ : mo_M) (P P' : mo_Q), (∀ x τ, P x τ → P' x τ) → S_X12_isWarning as σ P → S_X12_isWarning as σ P' := by
  rintro as σ P P' h ⟨n, e, hp, hq⟩
  exact ⟨n, e, hp, h _ _ hq⟩
def cs_X12_isWarning : Nat → mo_C := fun j => match j with
  | 0 => (3, false, 109, 50, S_X12_in)
  | _ => (0, false, 0, 50, fun _ _ _ => False)
theorem cs_X12_isWarning_ok (g : mo_E) : ∀ j, mo_cok g t_X12_isWarning (cs_X12_isWarning j) ∧ mo_mon (cs_X12_isWarning j) := by
  intro j
  unfold cs_X12_isWarning
  split
  · exact ⟨mo_cokS ct_X12_in (by decide +kernel), m_X12_in⟩
  · exact ⟨mo_cok0 g _, mo_mon0⟩
set_option maxRecDepth 20000 in
set_option maxHeartbeats 2000000 in
theorem ct_X12_isWarning : mo_ct yX12_isWarning t_X12_isWarning S_X12_isWarning := by
  refine mo_ct_of (by decide) rfl ?_
  rintro g as σ Q ⟨n, rfl, hpre, hQ⟩
  refine ⟨Nat.le_of_ble_eq_true rfl, mo_go ok_X12_isWarning (cs_X12_isWarning_ok g) [] 9 ?_⟩
  intro K hK
  refine Exists.intro n (Exists.intro (0 : Int32) (Exists.intro ((σ.1 50 0 36) - (1 : Int32)) (And.intro rfl (And.intro (show True by trivial) ?_))))
  refine And.intro (by first | decide | exact mo_bl01 _) ?_
  exact hQ
def S_X12_isSite : mo_S := fun as σ Q => ∃ n : Int32, as = [.inl n] ∧ (True) ∧ Q (some (.inl (mo_bl (0 ≤ n ∧ n ≤ (29 : Int32))))) (σ)
theorem m_X12_isSite : ∀ (as : List mo_V) (σ : mo_M) (P P' : mo_Q), (∀ x τ, P x τ → P' x τ) → S_X12_isSite as σ P → S_X12_isSite as σ P' := by
  rintro as σ P P' h ⟨n, e, hp, hq⟩
  exact ⟨n, e, hp, h _ _ hq⟩
def cs_X12_isSite : Nat → mo_C := fun j => match j with
  | 0 => (3, false, 109, 50, S_X12_in)
  | _ => (0, false, 0, 50, fun _ _ _ => False)
theorem cs_X12_isSite_ok (g : mo_E) : ∀ j, mo_cok g t_X12_isSite (cs_X12_isSite j) ∧ mo_mon (cs_X12_isSite j) := by
  intro j
  unfold cs_X12_isSite
  split
  · exact ⟨mo_cokS ct_X12_in (by decide +kernel), m_X12_in⟩
  · exact ⟨mo_cok0 g _, mo_mon0⟩
set_option maxRecDepth 20000 in
set_option maxHeartbeats 2000000 in
theorem ct_X12_isSite : mo_ct yX12_isSite t_X12_isSite S_X12_isSite := by
  refine mo_ct_of (by decide) rfl ?_
  rintro g as σ Q ⟨n, rfl, hpre, hQ⟩
  refine ⟨Nat.le_of_ble_eq_true rfl, mo_go ok_X12_isSite (cs_X12_isSite_ok g) [] 6 ?_⟩
  intro K hK
  refine Exists.intro n (Exists.intro (0 : Int32) (Exists.intro (29 : Int32) (And.intro rfl (And.intro (show True by trivial) ?_))))
  refine And.intro (by first | decide | exact mo_bl01 _) ?_
  exact hQ
def S_X12_versionOf : mo_S := fun as σ Q => ∃ a : Int32, ∃ b : Int32, ∃ c : Int32, as = [.inl a, .inl b, .inl c] ∧ (True) ∧ Q (some (.inl ((a * (1000 : Int32) + b) * (1000 : Int32) + c))) (σ)
theorem m_X12_versionOf : ∀ (as : List mo_V) (σ : mo_M) (P P' : mo_Q), (∀ x τ, P x τ → P' x τ) → S_X12_versionOf as σ P → S_X12_versionOf as σ P' := by
  rintro as σ P P' h ⟨a, b, c, e, hp, hq⟩
  exact ⟨a, b, c, e, hp, h _ _ hq⟩
set_option maxRecDepth 20000 in
set_option maxHeartbeats 2000000 in
theorem ct_X12_versionOf : mo_ct yX12_versionOf t_X12_versionOf S_X12_versionOf := by
  refine mo_ct_of (by decide) rfl ?_
  rintro g as σ Q ⟨a, b, c, rfl, hpre, hQ⟩
  refine ⟨Nat.le_of_ble_eq_true rfl, mo_go ok_X12_versionOf (mo_no_ok g _) [] 11 ?_⟩
  intro K hK
  exact hQ
def S_X12_areGood : mo_S := fun as σ Q => ∃ a : Int32, ∃ b : Int32, ∃ c : Int32, as = [.inl a, .inl b, .inl c] ∧ (True) ∧ Q (some (.inl (mo_bl ((0 ≤ a ∧ a ≤ (999 : Int32)) ∧ (0 ≤ b ∧ b ≤ (999 : Int32)) ∧ (0 ≤ c ∧ c ≤ (999 : Int32)))))) (σ)
theorem m_X12_areGood : ∀ (as : List mo_V) (σ : mo_M) (P P' : mo_Q), (∀ x τ, P x τ → P' x τ) → S_X12_areGood as σ P → S_X12_areGood as σ P' := by
  rintro as σ P P' h ⟨a, b, c, e, hp, hq⟩
  exact ⟨a, b, c, e, hp, h _ _ hq⟩
def cs_X12_areGood : Nat → mo_C := fun j => match j with
  | 0 => (3, false, 109, 50, S_X12_in)
  | _ => (0, false, 0, 50, fun _ _ _ => False)
theorem cs_X12_areGood_ok (g : mo_E) : ∀ j, mo_cok g t_X12_areGood (cs_X12_areGood j) ∧ mo_mon (cs_X12_areGood j) := by
  intro j
  unfold cs_X12_areGood
  split
  · exact ⟨mo_cokS ct_X12_in (by decide +kernel), m_X12_in⟩
  · exact ⟨mo_cok0 g _, mo_mon0⟩
set_option maxRecDepth 20000 in
set_option maxHeartbeats 2000000 in
theorem ct_X12_areGood : mo_ct yX12_areGood t_X12_areGood S_X12_areGood := by
  refine mo_ct_of (by decide) rfl ?_
  rintro g as σ Q ⟨a, b, c, rfl, hpre, hQ⟩
  refine ⟨Nat.le_of_ble_eq_true rfl, mo_go ok_X12_areGood (cs_X12_areGood_ok g) [] 20 ?_⟩
  intro K hK
  refine Exists.intro a (Exists.intro (0 : Int32) (Exists.intro (999 : Int32) (And.intro rfl (And.intro (show True by trivial) ?_))))
  refine And.intro (fun (c1 : (mo_bl ((0 : Int32) ≤ a ∧ a ≤ (999 : Int32))) = 0) => ?_) (fun (c1 : ¬ (mo_bl ((0 : Int32) ≤ a ∧ a ≤ (999 : Int32))) = 0) => ?_)
  · refine And.intro (by first | decide | exact mo_bl01 _) ?_
    exact mo_q hQ (mo_r0 (by ((try simp only [mo_bl0, Classical.not_not] at c1); (try simp only [Int32.lt_iff_toInt_lt, Int32.le_iff_toInt_le, mo_ieq, Int32.toInt_zero, mo_n1, Nat.reduceAdd] at c1 ⊢); omega))) rfl
  · refine Exists.intro b (Exists.intro (0 : Int32) (Exists.intro (999 : Int32) (And.intro rfl (And.intro (show True by trivial) ?_))))
    refine And.intro (fun (c2 : (mo_bl ((0 : Int32) ≤ b ∧ b ≤ (999 : Int32))) = 0) => ?_) (fun (c2 : ¬ (mo_bl ((0 : Int32) ≤ b ∧ b ≤ (999 : Int32))) = 0) => ?_)
    · refine And.intro (by first | decide | exact mo_bl01 _) ?_
      exact mo_q hQ (mo_r0 (by ((try simp only [mo_bl0, Classical.not_not] at c1 c2); (try simp only [Int32.lt_iff_toInt_lt, Int32.le_iff_toInt_le, mo_ieq, Int32.toInt_zero, mo_n1, Nat.reduceAdd] at c1 c2 ⊢); omega))) rfl
    · refine Exists.intro c (Exists.intro (0 : Int32) (Exists.intro (999 : Int32) (And.intro rfl (And.intro (show True by trivial) ?_))))
      refine And.intro (fun (c3 : (mo_bl ((0 : Int32) ≤ c ∧ c ≤ (999 : Int32))) = 0) => ?_) (fun (c3 : ¬ (mo_bl ((0 : Int32) ≤ c ∧ c ≤ (999 : Int32))) = 0) => ?_)
      · refine And.intro (by first | decide | exact mo_bl01 _) ?_
        exact mo_q hQ (mo_r0 (by ((try simp only [mo_bl0, Classical.not_not] at c1 c2 c3); (try simp only [Int32.lt_iff_toInt_lt, Int32.le_iff_toInt_le, mo_ieq, Int32.toInt_zero, mo_n1, Nat.reduceAdd] at c1 c2 c3 ⊢); omega))) rfl
      · refine And.intro (by first | decide | exact mo_bl01 _) ?_
        exact mo_q hQ (mo_r1 (by ((try simp only [mo_bl0, Classical.not_not] at c1 c2 c3); (try simp only [Int32.lt_iff_toInt_lt, Int32.le_iff_toInt_le, mo_ieq, Int32.toInt_zero, mo_n1, Nat.reduceAdd] at c1 c2 c3 ⊢); omega))) rfl
def S_X12_good : mo_S := fun as σ Q => as = [.inr (.inr (50, 0))] ∧ (True) ∧ Q (some (.inl (mo_bl (σ.1 50 0 35 = (-1 : Int32))))) (σ)
theorem m_X12_good : ∀ (as : List mo_V) (σ : mo_M) (P P' : mo_Q), (∀ x τ, P x τ → P' x τ) → S_X12_good as σ P → S_X12_good as σ P' := by
  rintro as σ P P' h ⟨e, hp, hq⟩
  exact ⟨e, hp, h _ _ hq⟩
set_option maxRecDepth 20000 in
set_option maxHeartbeats 2000000 in
theorem ct_X12_good : mo_ct yX12_good t_X12_good S_X12_good := by
  refine mo_ct_of (by decide) rfl ?_
  rintro g as σ Q ⟨rfl, hpre, hQ⟩
  refine ⟨Nat.le_of_ble_eq_true rfl, mo_go ok_X12_good (mo_no_ok g _) [] 9 ?_⟩
  intro K hK
  refine And.intro (fun (c1 : ¬ (σ.1 50 0 35) = (-1 : Int32)) => ?_) (fun (c1 : (σ.1 50 0 35) = (-1 : Int32)) => ?_)
  · refine And.intro (by first | decide | exact mo_bl01 _) ?_
    exact mo_q hQ (mo_r0 (by ((try simp only [mo_bl0, Classical.not_not] at c1); (try simp only [Int32.lt_iff_toInt_lt, Int32.le_iff_toInt_le, mo_ieq, Int32.toInt_zero, mo_n1, Nat.reduceAdd] at c1 ⊢); omega))) rfl
  · refine And.intro (by first | decide | exact mo_bl01 _) ?_
    exact mo_q hQ (mo_r1 (by ((try simp only [mo_bl0, Classical.not_not] at c1); (try simp only [Int32.lt_iff_toInt_lt, Int32.le_iff_toInt_le, mo_ieq, Int32.toInt_zero, mo_n1, Nat.reduceAdd] at c1 ⊢); omega))) rfl
def S_X2_isCut : mo_S := fun as σ Q => ∃ n : Int32, as = [.inr (.inr (6, 0)), .inl n] ∧ (vp_in n 200) ∧ Q (some (.inl (mo_bl (¬ σ.1 11 0 n.toNatClampNeg = (10001 : Int32))))) (σ)
theorem m_X2_isCut : ∀ (as : List mo_V) (σ : mo_M) (P P' : mo_Q), (∀ x τ, P x τ → P' x τ) → S_X2_isCut as σ P → S_X2_isCut as σ P' := by
  rintro as σ P P' h ⟨n, e, hp, hq⟩
  exact ⟨n, e, hp, h _ _ hq⟩
set_option maxRecDepth 20000 in
set_option maxHeartbeats 2000000 in
theorem ct_X2_isCut : mo_ct yX2_isCut t_X2_isCut S_X2_isCut := by
  refine mo_ct_of (by decide) rfl ?_
  rintro g as σ Q ⟨n, rfl, hpre, hQ⟩
  refine ⟨Nat.le_of_ble_eq_true rfl, mo_go ok_X2_isCut (mo_no_ok g _) [] 11 ?_⟩
  intro K hK
  refine And.intro (show vp_in n 200 by exact hpre) ?_
  refine And.intro (fun (c1 : (σ.1 11 0 n.toNatClampNeg) = (10001 : Int32)) => ?_) (fun (c1 : ¬ (σ.1 11 0 n.toNatClampNeg) = (10001 : Int32)) => ?_)
  · refine And.intro (by first | decide | exact mo_bl01 _) ?_
    exact mo_q hQ (mo_r0 (by ((try simp only [mo_bl0, Classical.not_not] at c1); (try simp only [Int32.lt_iff_toInt_lt, Int32.le_iff_toInt_le, mo_ieq, Int32.toInt_zero, mo_n1, Nat.reduceAdd] at c1 ⊢); omega))) rfl
  · refine And.intro (by first | decide | exact mo_bl01 _) ?_
    exact mo_q hQ (mo_r1 (by ((try simp only [mo_bl0, Classical.not_not] at c1); (try simp only [Int32.lt_iff_toInt_lt, Int32.le_iff_toInt_le, mo_ieq, Int32.toInt_zero, mo_n1, Nat.reduceAdd] at c1 ⊢); omega))) rfl
def S_X2_isLive : mo_S := fun as σ Q => ∃ n : Int32, ∃ day : Int32, as = [.inr (.inr (6, 0)), .inl n, .inl day] ∧ (vp_in n 200) ∧ Q (some (.inl (mo_bl (σ.1 10 0 n.toNatClampNeg ≤ day ∧ day < σ.1 11 0 n.toNatClampNeg)))) (σ)
theorem m_X2_isLive : ∀ (as : List mo_V) (σ : mo_M) (P P' : mo_Q), (∀ x τ, P x τ → P' x τ) → S_X2_isLive as σ P → S_X2_isLive as σ P' := by
  rintro as σ P P' h ⟨n, day, e, hp, hq⟩
  exact ⟨n, day, e, hp, h _ _ hq⟩
set_option maxRecDepth 20000 in
set_option maxHeartbeats 2000000 in
theorem ct_X2_isLive : mo_ct yX2_isLive t_X2_isLive S_X2_isLive := by
  refine mo_ct_of (by decide) rfl ?_
  rintro g as σ Q ⟨n, day, rfl, hpre, hQ⟩
  refine ⟨Nat.le_of_ble_eq_true rfl, mo_go ok_X2_isLive (mo_no_ok g _) [] 17 ?_⟩
  intro K hK
  refine And.intro (show vp_in n 200 by exact hpre) ?_
  refine And.intro (fun (c1 : day < (σ.1 10 0 n.toNatClampNeg)) => ?_) (fun (c1 : ¬ day < (σ.1 10 0 n.toNatClampNeg)) => ?_)
  · refine And.intro (by first | decide | exact mo_bl01 _) ?_
    exact mo_q hQ (mo_r0 (by ((try simp only [mo_bl0, Classical.not_not] at c1); (try simp only [Int32.lt_iff_toInt_lt, Int32.le_iff_toInt_le, mo_ieq, Int32.toInt_zero, mo_n1, Nat.reduceAdd] at c1 ⊢); omega))) rfl
  · refine And.intro (show vp_in n 200 by exact hpre) ?_
    refine And.intro (fun (c2 : (σ.1 11 0 n.toNatClampNeg) ≤ day) => ?_) (fun (c2 : ¬ (σ.1 11 0 n.toNatClampNeg) ≤ day) => ?_)
    · refine And.intro (by first | decide | exact mo_bl01 _) ?_
      exact mo_q hQ (mo_r0 (by ((try simp only [mo_bl0, Classical.not_not] at c1 c2); (try simp only [Int32.lt_iff_toInt_lt, Int32.le_iff_toInt_le, mo_ieq, Int32.toInt_zero, mo_n1, Nat.reduceAdd] at c1 c2 ⊢); omega))) rfl
    · refine And.intro (by first | decide | exact mo_bl01 _) ?_
      exact mo_q hQ (mo_r1 (by ((try simp only [mo_bl0, Classical.not_not] at c1 c2); (try simp only [Int32.lt_iff_toInt_lt, Int32.le_iff_toInt_le, mo_ieq, Int32.toInt_zero, mo_n1, Nat.reduceAdd] at c1 c2 ⊢); omega))) rfl
def S_X12_is : mo_S := fun as σ Q => ∃ n : Int32, ∃ day : Int32, as = [.inr (.inr (50, 0)), .inl n, .inl day] ∧ (vp_in n 200) ∧ Q (some (.inl (mo_bl (σ.1 57 0 n.toNatClampNeg ≤ day ∧ day < σ.1 58 0 n.toNatClampNeg)))) (σ)
theorem m_X12_is : ∀ (as : List mo_V) (σ : mo_M) (P P' : mo_Q), (∀ x τ, P x τ → P' x τ) → S_X12_is as σ P → S_X12_is as σ P' := by
  rintro as σ P P' h ⟨n, day, e, hp, hq⟩
  exact ⟨n, day, e, hp, h _ _ hq⟩
set_option maxRecDepth 20000 in
set_option maxHeartbeats 2000000 in
theorem ct_X12_is : mo_ct yX12_is t_X12_is S_X12_is := by
  refine mo_ct_of (by decide) rfl ?_
  rintro g as σ Q ⟨n, day, rfl, hpre, hQ⟩
  refine ⟨Nat.le_of_ble_eq_true rfl, mo_go ok_X12_is (mo_no_ok g _) [] 17 ?_⟩
  intro K hK
  refine And.intro (show vp_in n 200 by exact hpre) ?_
  refine And.intro (fun (c1 : day < (σ.1 57 0 n.toNatClampNeg)) => ?_) (fun (c1 : ¬ day < (σ.1 57 0 n.toNatClampNeg)) => ?_)
  · refine And.intro (by first | decide | exact mo_bl01 _) ?_
    exact mo_q hQ (mo_r0 (by ((try simp only [mo_bl0, Classical.not_not] at c1); (try simp only [Int32.lt_iff_toInt_lt, Int32.le_iff_toInt_le, mo_ieq, Int32.toInt_zero, mo_n1, Nat.reduceAdd] at c1 ⊢); omega))) rfl
  · refine And.intro (show vp_in n 200 by exact hpre) ?_
    refine And.intro (fun (c2 : (σ.1 58 0 n.toNatClampNeg) ≤ day) => ?_) (fun (c2 : ¬ (σ.1 58 0 n.toNatClampNeg) ≤ day) => ?_)
    · refine And.intro (by first | decide | exact mo_bl01 _) ?_
      exact mo_q hQ (mo_r0 (by ((try simp only [mo_bl0, Classical.not_not] at c1 c2); (try simp only [Int32.lt_iff_toInt_lt, Int32.le_iff_toInt_le, mo_ieq, Int32.toInt_zero, mo_n1, Nat.reduceAdd] at c1 c2 ⊢); omega))) rfl
    · refine And.intro (by first | decide | exact mo_bl01 _) ?_
      exact mo_q hQ (mo_r1 (by ((try simp only [mo_bl0, Classical.not_not] at c1 c2); (try simp only [Int32.lt_iff_toInt_lt, Int32.le_iff_toInt_le, mo_ieq, Int32.toInt_zero, mo_n1, Nat.reduceAdd] at c1 c2 ⊢); omega))) rfl
def S_X5_add : mo_S := fun as σ Q => ∃ v : Int32, as = [.inr (.inr (1, 0)), .inl v] ∧ (vp_in (σ.1 1 0 1) 30) ∧ Q (some (.inl (σ.1 1 0 1 + 1 - 1))) (mo_wI (mo_wI σ 2 0 (σ.1 1 0 1).toNatClampNeg v) 1 0 1 (σ.1 1 0 1 + 1))
theorem m_X5_add : ∀ (as : List mo_V) (σ : mo_M) (P P' : mo_Q), (∀ x τ, P x τ → P' x τ) → S_X5_add as σ P → S_X5_add as σ P' := by
  rintro as σ P P' h ⟨v, e, hp, hq⟩
  exact ⟨v, e, hp, h _ _ hq⟩
set_option maxRecDepth 20000 in
set_option maxHeartbeats 2000000 in
theorem ct_X5_add : mo_ct yX5_add t_X5_add S_X5_add := by
  refine mo_ct_of (by decide) rfl ?_
  rintro g as σ Q ⟨v, rfl, hpre, hQ⟩
  refine ⟨Nat.le_of_ble_eq_true rfl, mo_go ok_X5_add (mo_no_ok g _) [] 18 ?_⟩
  intro K hK
  refine And.intro (show vp_in (σ.1 1 0 1) 30 by exact hpre) ?_
  exact hQ
def S_X3_add : mo_S := fun as σ Q => ∃ v : Int32, ∃ u : Int32, as = [.inr (.inr (3, 0)), .inl v, .inl u] ∧ (vp_in (σ.1 3 0 2) 60) ∧ Q (some (.inl (σ.1 3 0 2 + 1 - 1))) (mo_wI (mo_wI (mo_wI σ 4 0 (σ.1 3 0 2).toNatClampNeg v) 5 0 (σ.1 3 0 2).toNatClampNeg u) 3 0 2 (σ.1 3 0 2 + 1))
theorem m_X3_add : ∀ (as : List mo_V) (σ : mo_M) (P P' : mo_Q), (∀ x τ, P x τ → P' x τ) → S_X3_add as σ P → S_X3_add as σ P' := by
  rintro as σ P P' h ⟨v, u, e, hp, hq⟩
  exact ⟨v, u, e, hp, h _ _ hq⟩
set_option maxRecDepth 20000 in
set_option maxHeartbeats 2000000 in
theorem ct_X3_add : mo_ct yX3_add t_X3_add S_X3_add := by
  refine mo_ct_of (by decide) rfl ?_
  rintro g as σ Q ⟨v, u, rfl, hpre, hQ⟩
  refine ⟨Nat.le_of_ble_eq_true rfl, mo_go ok_X3_add (mo_no_ok g _) [] 24 ?_⟩
  intro K hK
  refine And.intro (show vp_in (σ.1 3 0 2) 60 by exact hpre) ?_
  refine And.intro (show vp_in (σ.1 3 0 2) 60 by exact hpre) ?_
  exact hQ
def S_X2_add : mo_S := fun as σ Q => ∃ a : Int32, ∃ b : Int32, ∃ c : Int32, ∃ d : Int32, as = [.inr (.inr (6, 0)), .inl a, .inl b, .inl c, .inl d] ∧ (vp_in (σ.1 6 0 5) 200) ∧ Q (some (.inl (σ.1 6 0 5 + 1 - 1))) (mo_wI (mo_wI (mo_wI (mo_wI (mo_wI (mo_wI (σ) 7 0 (σ.1 6 0 5).toNatClampNeg a) 8 0 (σ.1 6 0 5).toNatClampNeg b) 9 0 (σ.1 6 0 5).toNatClampNeg c) 10 0 (σ.1 6 0 5).toNatClampNeg d) 11 0 (σ.1 6 0 5).toNatClampNeg 10001) 6 0 5 (σ.1 6 0 5 + 1))
theorem m_X2_add : ∀ (as : List mo_V) (σ : mo_M) (P P' : mo_Q), (∀ x τ, P x τ → P' x τ) → S_X2_add as σ P → S_X2_add as σ P' := by
  rintro as σ P P' h ⟨a, b, c, d, e, hp, hq⟩
  exact ⟨a, b, c, d, e, hp, h _ _ hq⟩
set_option maxRecDepth 20000 in
set_option maxHeartbeats 2000000 in
theorem ct_X2_add : mo_ct yX2_add t_X2_add S_X2_add := by
  refine mo_ct_of (by decide) rfl ?_
  rintro g as σ Q ⟨a, b, c, d, rfl, hpre, hQ⟩
  refine ⟨Nat.le_of_ble_eq_true rfl, mo_go ok_X2_add (mo_no_ok g _) [] 42 ?_⟩
  intro K hK
  refine And.intro (show vp_in (σ.1 6 0 5) 200 by exact hpre) ?_
  refine And.intro (show vp_in (σ.1 6 0 5) 200 by exact hpre) ?_
  refine And.intro (show vp_in (σ.1 6 0 5) 200 by exact hpre) ?_
  refine And.intro (show vp_in (σ.1 6 0 5) 200 by exact hpre) ?_
  refine And.intro (show vp_in (σ.1 6 0 5) 200 by exact hpre) ?_
  exact hQ
def S_X1_add : mo_S := fun as σ Q => ∃ a : Int32, ∃ b : Int32, ∃ c : Int32, ∃ d : Int32, ∃ f : Int32, as = [.inr (.inr (12, 0)), .inl a, .inl b, .inl c, .inl d, .inl f] ∧ (vp_in (σ.1 12 0 5) 100) ∧ Q (some (.inl (σ.1 12 0 5 + 1))) (mo_wI (mo_wI (mo_wI (mo_wI (mo_wI (mo_wI (σ) 13 0 (σ.1 12 0 5).toNatClampNeg a) 14 0 (σ.1 12 0 5).toNatClampNeg b) 15 0 (σ.1 12 0 5).toNatClampNeg c) 16 0 (σ.1 12 0 5).toNatClampNeg d) 17 0 (σ.1 12 0 5).toNatClampNeg f) 12 0 5 (σ.1 12 0 5 + 1))
theorem m_X1_add : ∀ (as : List mo_V) (σ : mo_M) (P P' : mo_Q), (∀ x τ, P x τ → P' x τ) → S_X1_add as σ P → S_X1_add as σ P' := by
  rintro as σ P P' h ⟨a, b, c, d, f, e, hp, hq⟩
  exact ⟨a, b, c, d, f, e, hp, h _ _ hq⟩
set_option maxRecDepth 20000 in
set_option maxHeartbeats 2000000 in
theorem ct_X1_add : mo_ct yX1_add t_X1_add S_X1_add := by
  refine mo_ct_of (by decide) rfl ?_
  rintro g as σ Q ⟨a, b, c, d, f, rfl, hpre, hQ⟩
  refine ⟨Nat.le_of_ble_eq_true rfl, mo_go ok_X1_add (mo_no_ok g _) [] 40 ?_⟩
  intro K hK
  refine And.intro (show vp_in (σ.1 12 0 5) 100 by exact hpre) ?_
  refine And.intro (show vp_in (σ.1 12 0 5) 100 by exact hpre) ?_
  refine And.intro (show vp_in (σ.1 12 0 5) 100 by exact hpre) ?_
  refine And.intro (show vp_in (σ.1 12 0 5) 100 by exact hpre) ?_
  refine And.intro (show vp_in (σ.1 12 0 5) 100 by exact hpre) ?_
  exact hQ
def S_X12_ends : mo_S := fun as σ Q => ∃ v : Int32, as = [.inr (.inr (50, 0)), .inl v] ∧ (True) ∧ Q (some (.inl (v))) (mo_wI σ 50 0 0 (if v < 0 then v else 0))
theorem m_X12_ends : ∀ (as : List mo_V) (σ : mo_M) (P P' : mo_Q), (∀ x τ, P x τ → P' x τ) → S_X12_ends as σ P → S_X12_ends as σ P' := by
  rintro as σ P P' h ⟨v, e, hp, hq⟩
  exact ⟨v, e, hp, h _ _ hq⟩
set_option maxRecDepth 20000 in
set_option maxHeartbeats 2000000 in
theorem ct_X12_ends : mo_ct yX12_ends t_X12_ends S_X12_ends := by
  refine mo_ct_of (by decide) rfl ?_
  rintro g as σ Q ⟨v, rfl, hpre, hQ⟩
  refine ⟨Nat.le_of_ble_eq_true rfl, mo_go ok_X12_ends (mo_no_ok g _) [] 10 ?_⟩
  intro K hK
  refine And.intro (fun (c1 : 0 ≤ v) => ?_) (fun (c1 : ¬ 0 ≤ v) => ?_)
  · exact mo_q hQ (by first | rfl | (rw [if_pos (by ((try simp only [mo_bl0, Classical.not_not] at c1); (try simp only [Int32.lt_iff_toInt_lt, Int32.le_iff_toInt_le, mo_ieq, Int32.toInt_zero, mo_n1, Nat.reduceAdd] at c1 ⊢); omega))]; try rfl) | (rw [if_neg (by ((try simp only [mo_bl0, Classical.not_not] at c1); (try simp only [Int32.lt_iff_toInt_lt, Int32.le_iff_toInt_le, mo_ieq, Int32.toInt_zero, mo_n1, Nat.reduceAdd] at c1 ⊢); omega))]; try rfl)) (by first | rfl | (rw [if_pos (by ((try simp only [mo_bl0, Classical.not_not] at c1); (try simp only [Int32.lt_iff_toInt_lt, Int32.le_iff_toInt_le, mo_ieq, Int32.toInt_zero, mo_n1, Nat.reduceAdd] at c1 ⊢); omega))]; try rfl) | (rw [if_neg (by ((try simp only [mo_bl0, Classical.not_not] at c1); (try simp only [Int32.lt_iff_toInt_lt, Int32.le_iff_toInt_le, mo_ieq, Int32.toInt_zero, mo_n1, Nat.reduceAdd] at c1 ⊢); omega))]; try rfl))
  · exact mo_q hQ (by first | rfl | (rw [if_pos (by ((try simp only [mo_bl0, Classical.not_not] at c1); (try simp only [Int32.lt_iff_toInt_lt, Int32.le_iff_toInt_le, mo_ieq, Int32.toInt_zero, mo_n1, Nat.reduceAdd] at c1 ⊢); omega))]; try rfl) | (rw [if_neg (by ((try simp only [mo_bl0, Classical.not_not] at c1); (try simp only [Int32.lt_iff_toInt_lt, Int32.le_iff_toInt_le, mo_ieq, Int32.toInt_zero, mo_n1, Nat.reduceAdd] at c1 ⊢); omega))]; try rfl)) (by first | rfl | (rw [if_pos (by ((try simp only [mo_bl0, Classical.not_not] at c1); (try simp only [Int32.lt_iff_toInt_lt, Int32.le_iff_toInt_le, mo_ieq, Int32.toInt_zero, mo_n1, Nat.reduceAdd] at c1 ⊢); omega))]; try rfl) | (rw [if_neg (by ((try simp only [mo_bl0, Classical.not_not] at c1); (try simp only [Int32.lt_iff_toInt_lt, Int32.le_iff_toInt_le, mo_ieq, Int32.toInt_zero, mo_n1, Nat.reduceAdd] at c1 ⊢); omega))]; try rfl))
def S_X12_isIn : mo_S := fun as σ Q => ∃ k : Int32, ∃ low : Int32, ∃ high : Int32, as = [.inr (.inr (50, 0)), .inl k, .inl low, .inl high] ∧ (k < σ.1 50 0 31 → vp_in k 200) ∧ Q (some (.inl (mo_bl (k < σ.1 50 0 31 ∧ low ≤ σ.1 72 0 k.toNatClampNeg ∧ σ.1 72 0 k.toNatClampNeg ≤ high)))) (σ)
theorem m_X12_isIn : ∀ (as : List mo_V) (σ : mo_M) (P P' : mo_Q), (∀ x τ, P x τ → P' x τ) → S_X12_isIn as σ P → S_X12_isIn as σ P' := by
  rintro as σ P P' h ⟨k, low, high, e, hp, hq⟩
  exact ⟨k, low, high, e, hp, h _ _ hq⟩
set_option maxRecDepth 20000 in
set_option maxHeartbeats 2000000 in
theorem ct_X12_isIn : mo_ct yX12_isIn t_X12_isIn S_X12_isIn := by
  refine mo_ct_of (by decide) rfl ?_
  rintro g as σ Q ⟨k, low, high, rfl, hpre, hQ⟩
  refine ⟨Nat.le_of_ble_eq_true rfl, mo_go ok_X12_isIn (mo_no_ok g _) [] 21 ?_⟩
  intro K hK
  refine And.intro (fun (c1 : (σ.1 50 0 31) ≤ k) => ?_) (fun (c1 : ¬ (σ.1 50 0 31) ≤ k) => ?_)
  · refine And.intro (by first | decide | exact mo_bl01 _) ?_
    exact mo_q hQ (mo_r0 (by ((try simp only [mo_bl0, Classical.not_not] at c1); (try simp only [Int32.lt_iff_toInt_lt, Int32.le_iff_toInt_le, mo_ieq, Int32.toInt_zero, mo_n1, Nat.reduceAdd] at c1 ⊢); omega))) rfl
  · refine And.intro (show vp_in k 200 by exact hpre (by ((try simp only [mo_bl0, Classical.not_not] at c1); (try simp only [Int32.lt_iff_toInt_lt, Int32.le_iff_toInt_le, mo_ieq, Int32.toInt_zero, mo_n1, Nat.reduceAdd] at c1 ⊢); omega))) ?_
    refine And.intro (fun (c2 : (σ.1 72 0 k.toNatClampNeg) < low) => ?_) (fun (c2 : ¬ (σ.1 72 0 k.toNatClampNeg) < low) => ?_)
    · refine And.intro (by first | decide | exact mo_bl01 _) ?_
      exact mo_q hQ (mo_r0 (by ((try simp only [mo_bl0, Classical.not_not] at c1 c2); (try simp only [Int32.lt_iff_toInt_lt, Int32.le_iff_toInt_le, mo_ieq, Int32.toInt_zero, mo_n1, Nat.reduceAdd] at c1 c2 ⊢); omega))) rfl
    · refine And.intro (show vp_in k 200 by exact hpre (by ((try simp only [mo_bl0, Classical.not_not] at c1); (try simp only [Int32.lt_iff_toInt_lt, Int32.le_iff_toInt_le, mo_ieq, Int32.toInt_zero, mo_n1, Nat.reduceAdd] at c1 ⊢); omega))) ?_
      refine And.intro (fun (c3 : high < (σ.1 72 0 k.toNatClampNeg)) => ?_) (fun (c3 : ¬ high < (σ.1 72 0 k.toNatClampNeg)) => ?_)
      · refine And.intro (by first | decide | exact mo_bl01 _) ?_
        exact mo_q hQ (mo_r0 (by ((try simp only [mo_bl0, Classical.not_not] at c1 c2 c3); (try simp only [Int32.lt_iff_toInt_lt, Int32.le_iff_toInt_le, mo_ieq, Int32.toInt_zero, mo_n1, Nat.reduceAdd] at c1 c2 c3 ⊢); omega))) rfl
      · refine And.intro (by first | decide | exact mo_bl01 _) ?_
        exact mo_q hQ (mo_r1 (by ((try simp only [mo_bl0, Classical.not_not] at c1 c2 c3); (try simp only [Int32.lt_iff_toInt_lt, Int32.le_iff_toInt_le, mo_ieq, Int32.toInt_zero, mo_n1, Nat.reduceAdd] at c1 c2 c3 ⊢); omega))) rfl
def S_X12_isSign : mo_S := fun as σ Q => ∃ c : Int32, as = [.inr (.inr (50, 0)), .inl c] ∧ (σ.1 50 0 32 < σ.1 50 0 31 → vp_in (σ.1 50 0 32) 200) ∧ Q (some (.inl (mo_bl (σ.1 50 0 32 < σ.1 50 0 31 ∧ σ.1 72 0 (σ.1 50 0 32).toNatClampNeg = c)))) (σ)
theorem m_X12_isSign : ∀ (as : List mo_V) (σ : mo_M) (P P' : mo_Q), (∀ x τ, P x τ → P' x τ) → S_X12_isSign as σ P → S_X12_isSign as σ P' := by
  rintro as σ P P' h ⟨c, e, hp, hq⟩
  exact ⟨c, e, hp, h _ _ hq⟩
set_option maxRecDepth 20000 in
set_option maxHeartbeats 2000000 in
theorem ct_X12_isSign : mo_ct yX12_isSign t_X12_isSign S_X12_isSign := by
  refine mo_ct_of (by decide) rfl ?_
  rintro g as σ Q ⟨c, rfl, hpre, hQ⟩
  refine ⟨Nat.le_of_ble_eq_true rfl, mo_go ok_X12_isSign (mo_no_ok g _) [] 17 ?_⟩
  intro K hK
  refine And.intro (fun (c1 : (σ.1 50 0 31) ≤ (σ.1 50 0 32)) => ?_) (fun (c1 : ¬ (σ.1 50 0 31) ≤ (σ.1 50 0 32)) => ?_)
  · refine And.intro (by first | decide | exact mo_bl01 _) ?_
    exact mo_q hQ (mo_r0 (by ((try simp only [mo_bl0, Classical.not_not] at c1); (try simp only [Int32.lt_iff_toInt_lt, Int32.le_iff_toInt_le, mo_ieq, Int32.toInt_zero, mo_n1, Nat.reduceAdd] at c1 ⊢); omega))) rfl
  · refine And.intro (show vp_in (σ.1 50 0 32) 200 by exact hpre (by ((try simp only [mo_bl0, Classical.not_not] at c1); (try simp only [Int32.lt_iff_toInt_lt, Int32.le_iff_toInt_le, mo_ieq, Int32.toInt_zero, mo_n1, Nat.reduceAdd] at c1 ⊢); omega))) ?_
    refine And.intro (fun (c2 : ¬ (σ.1 72 0 ((σ.1 50 0 32).toNatClampNeg)) = c) => ?_) (fun (c2 : (σ.1 72 0 ((σ.1 50 0 32).toNatClampNeg)) = c) => ?_)
    · refine And.intro (by first | decide | exact mo_bl01 _) ?_
      exact mo_q hQ (mo_r0 (by ((try simp only [mo_bl0, Classical.not_not] at c1 c2); (try simp only [Int32.lt_iff_toInt_lt, Int32.le_iff_toInt_le, mo_ieq, Int32.toInt_zero, mo_n1, Nat.reduceAdd] at c1 c2 ⊢); omega))) rfl
    · refine And.intro (by first | decide | exact mo_bl01 _) ?_
      exact mo_q hQ (mo_r1 (by ((try simp only [mo_bl0, Classical.not_not] at c1 c2); (try simp only [Int32.lt_iff_toInt_lt, Int32.le_iff_toInt_le, mo_ieq, Int32.toInt_zero, mo_n1, Nat.reduceAdd] at c1 c2 ⊢); omega))) rfl
def S_X12_hitOf : mo_S := fun as σ Q => ∃ m : Int32, as = [.inr (.inr (50, 0)), .inl m] ∧ (vp_in m 60) ∧ Q (some (.inl (if ¬ σ.1 80 0 m.toNatClampNeg = (-1 : Int32) then 2 else if ¬ σ.1 81 0 m.toNatClampNeg = (-1 : Int32) then 1 else 0))) (σ)
theorem m_X12_hitOf : ∀ (as : List mo_V) (σ : mo_M) (P P' : mo_Q), (∀ x τ, P x τ → P' x τ) → S_X12_hitOf as σ P → S_X12_hitOf as σ P' := by
  rintro as σ P P' h ⟨m, e, hp, hq⟩
  exact ⟨m, e, hp, h _ _ hq⟩
set_option maxRecDepth 20000 in
set_option maxHeartbeats 2000000 in
theorem ct_X12_hitOf : mo_ct yX12_hitOf t_X12_hitOf S_X12_hitOf := by
  refine mo_ct_of (by decide) rfl ?_
  rintro g as σ Q ⟨m, rfl, hpre, hQ⟩
  refine ⟨Nat.le_of_ble_eq_true rfl, mo_go ok_X12_hitOf (mo_no_ok g _) [] 19 ?_⟩
  intro K hK
  refine And.intro (show vp_in m 60 by exact hpre) ?_
  refine And.intro (fun (c1 : (σ.1 80 0 m.toNatClampNeg) = (-1 : Int32)) => ?_) (fun (c1 : ¬ (σ.1 80 0 m.toNatClampNeg) = (-1 : Int32)) => ?_)
  · refine And.intro (show vp_in m 60 by exact hpre) ?_
    refine And.intro (fun (c2 : (σ.1 81 0 m.toNatClampNeg) = (-1 : Int32)) => ?_) (fun (c2 : ¬ (σ.1 81 0 m.toNatClampNeg) = (-1 : Int32)) => ?_)
    · exact mo_q hQ (by simp [c1, c2]; try rfl) rfl
    · exact mo_q hQ (by simp [c1, c2]; try rfl) rfl
  · exact mo_q hQ (by simp [c1]; try rfl) rfl
def S_X11_makerOf : mo_S := fun as σ Q => ∃ m : Int32, as = [.inr (.inr (0, 0)), .inl m] ∧ (vp_in m 60 ∧ vp_in (σ.1 4 0 m.toNatClampNeg) 30) ∧ Q (some (.inl (σ.1 2 0 (σ.1 4 0 m.toNatClampNeg).toNatClampNeg))) (σ)
theorem m_X11_makerOf : ∀ (as : List mo_V) (σ : mo_M) (P P' : mo_Q), (∀ x τ, P x τ → P' x τ) → S_X11_makerOf as σ P → S_X11_makerOf as σ P' := by
  rintro as σ P P' h ⟨m, e, hp, hq⟩
  exact ⟨m, e, hp, h _ _ hq⟩
set_option maxRecDepth 20000 in
set_option maxHeartbeats 2000000 in
theorem ct_X11_makerOf : mo_ct yX11_makerOf t_X11_makerOf S_X11_makerOf := by
  refine mo_ct_of (by decide) rfl ?_
  rintro g as σ Q ⟨m, rfl, hpre, hQ⟩
  refine ⟨Nat.le_of_ble_eq_true rfl, mo_go ok_X11_makerOf (mo_no_ok g _) [] 11 ?_⟩
  intro K hK
  refine And.intro (show vp_in m 60 by exact hpre.1) ?_
  refine And.intro (show vp_in (σ.1 4 0 m.toNatClampNeg) 30 by exact hpre.2) ?_
  exact hQ
def S_X11_contains : mo_S := fun as σ Q => ∃ s : Int64, ∃ n : Int32, as = [.inr (.inl s), .inl n] ∧ (True) ∧ Q (some (.inl (mo_bl (mo_bt s n)))) (σ)
theorem m_X11_contains : ∀ (as : List mo_V) (σ : mo_M) (P P' : mo_Q), (∀ x τ, P x τ → P' x τ) → S_X11_contains as σ P → S_X11_contains as σ P' := by
  rintro as σ P P' h ⟨s, n, e, hp, hq⟩
  exact ⟨s, n, e, hp, h _ _ hq⟩
set_option maxRecDepth 20000 in
set_option maxHeartbeats 2000000 in
theorem ct_X11_contains : mo_ct yX11_contains t_X11_contains S_X11_contains := by
  refine mo_ct_of (by decide) rfl ?_
  rintro g as σ Q ⟨s, n, rfl, hpre, hQ⟩
  refine ⟨Nat.le_of_ble_eq_true rfl, mo_go ok_X11_contains (mo_no_ok g _) [] 13 ?_⟩
  intro K hK
  refine And.intro (fun (c1 : (lg_cmp (((s.toUInt64 >>> (n.toInt64.toUInt64 &&& Int64.toUInt64 63)).toInt64) &&& (1 : Int64)) (0 : Int64)) = 0) => ?_) (fun (c1 : ¬ (lg_cmp (((s.toUInt64 >>> (n.toInt64.toUInt64 &&& Int64.toUInt64 63)).toInt64) &&& (1 : Int64)) (0 : Int64)) = 0) => ?_)
  · refine And.intro (by first | decide | exact mo_bl01 _) ?_
    exact mo_q hQ (mo_r0 (by rw [lg_cmp_eq] at c1; exact fun q => q c1)) rfl
  · refine And.intro (by first | decide | exact mo_bl01 _) ?_
    exact mo_q hQ (mo_r1 (by rw [lg_cmp_eq] at c1; exact c1)) rfl
def S_X11_versionOf : mo_S := fun as σ Q => ∃ a : Int32, ∃ b : Int32, ∃ c : Int32, as = [.inl a, .inl b, .inl c] ∧ (True) ∧ Q (some (.inl (a * (1000000 : Int32) + b * (1000 : Int32) + c * (1 : Int32)))) (σ)
theorem m_X11_versionOf : ∀ (as : List mo_V) (σ : mo_M) (P P' : mo_Q), (∀ x τ, P x τ → P' x τ) → S_X11_versionOf as σ P → S_X11_versionOf as σ P' := by
  rintro as σ P P' h ⟨a, b, c, e, hp, hq⟩
  exact ⟨a, b, c, e, hp, h _ _ hq⟩
set_option maxRecDepth 20000 in
set_option maxHeartbeats 2000000 in
theorem ct_X11_versionOf : mo_ct yX11_versionOf t_X11_versionOf S_X11_versionOf := by
  refine mo_ct_of (by decide) rfl ?_
  rintro g as σ Q ⟨a, b, c, rfl, hpre, hQ⟩
  refine ⟨Nat.le_of_ble_eq_true rfl, mo_go ok_X11_versionOf (mo_no_ok g _) [] 19 ?_⟩
  intro K hK
  refine And.intro (show vp_in (0 : Int32) 3 by exact vp_in_nI (n := 0) (by decide) (by decide)) ?_
  refine And.intro (show vp_in (1 : Int32) 3 by exact vp_in_nI (n := 1) (by decide) (by decide)) ?_
  refine And.intro (show vp_in (2 : Int32) 3 by exact vp_in_nI (n := 2) (by decide) (by decide)) ?_
  exact hQ
def S_X11_end : mo_S := fun as σ Q => ∃ n : Int32, as = [.inr (.inr (0, 0)), .inl n] ∧ (True) ∧ Q (some (.inl (if n < 0 ∨ σ.1 30 0 1 < n then (-1 : Int32) else n))) (if n < 0 ∨ σ.1 30 0 1 < n then σ else mo_wI σ 30 0 1 n)
theorem m_X11_end : ∀ (as : List mo_V) (σ : mo_M) (P P' : mo_Q), (∀ x τ, P x τ → P' x τ) → S_X11_end as σ P → S_X11_end as σ P' := by
  rintro as σ P P' h ⟨n, e, hp, hq⟩
  exact ⟨n, e, hp, h _ _ hq⟩
set_option maxRecDepth 20000 in
set_option maxHeartbeats 2000000 in
theorem ct_X11_end : mo_ct yX11_end t_X11_end S_X11_end := by
  refine mo_ct_of (by decide) rfl ?_
  rintro g as σ Q ⟨n, rfl, hpre, hQ⟩
  refine ⟨Nat.le_of_ble_eq_true rfl, mo_go ok_X11_end (mo_no_ok g _) [] 16 ?_⟩
  intro K hK
  refine And.intro (fun (c1 : n < 0) => ?_) (fun (c1 : ¬ n < 0) => ?_)
  · exact mo_q hQ (by first | rfl | (rw [if_pos (by ((try simp only [mo_bl0, Classical.not_not] at c1); (try simp only [Int32.lt_iff_toInt_lt, Int32.le_iff_toInt_le, mo_ieq, Int32.toInt_zero, mo_n1, Nat.reduceAdd] at c1 ⊢); omega))]; try rfl) | (rw [if_neg (by ((try simp only [mo_bl0, Classical.not_not] at c1); (try simp only [Int32.lt_iff_toInt_lt, Int32.le_iff_toInt_le, mo_ieq, Int32.toInt_zero, mo_n1, Nat.reduceAdd] at c1 ⊢); omega))]; try rfl)) (by first | rfl | (rw [if_pos (by ((try simp only [mo_bl0, Classical.not_not] at c1); (try simp only [Int32.lt_iff_toInt_lt, Int32.le_iff_toInt_le, mo_ieq, Int32.toInt_zero, mo_n1, Nat.reduceAdd] at c1 ⊢); omega))]; try rfl) | (rw [if_neg (by ((try simp only [mo_bl0, Classical.not_not] at c1); (try simp only [Int32.lt_iff_toInt_lt, Int32.le_iff_toInt_le, mo_ieq, Int32.toInt_zero, mo_n1, Nat.reduceAdd] at c1 ⊢); omega))]; try rfl))
  · refine And.intro (fun (c2 : n ≤ (σ.1 30 0 1)) => ?_) (fun (c2 : ¬ n ≤ (σ.1 30 0 1)) => ?_)
    · exact mo_q hQ (by first | rfl | (rw [if_pos (by ((try simp only [mo_bl0, Classical.not_not] at c1 c2); (try simp only [Int32.lt_iff_toInt_lt, Int32.le_iff_toInt_le, mo_ieq, Int32.toInt_zero, mo_n1, Nat.reduceAdd] at c1 c2 ⊢); omega))]; try rfl) | (rw [if_neg (by ((try simp only [mo_bl0, Classical.not_not] at c1 c2); (try simp only [Int32.lt_iff_toInt_lt, Int32.le_iff_toInt_le, mo_ieq, Int32.toInt_zero, mo_n1, Nat.reduceAdd] at c1 c2 ⊢); omega))]; try rfl)) (by first | rfl | (rw [if_pos (by ((try simp only [mo_bl0, Classical.not_not] at c1 c2); (try simp only [Int32.lt_iff_toInt_lt, Int32.le_iff_toInt_le, mo_ieq, Int32.toInt_zero, mo_n1, Nat.reduceAdd] at c1 c2 ⊢); omega))]; try rfl) | (rw [if_neg (by ((try simp only [mo_bl0, Classical.not_not] at c1 c2); (try simp only [Int32.lt_iff_toInt_lt, Int32.le_iff_toInt_le, mo_ieq, Int32.toInt_zero, mo_n1, Nat.reduceAdd] at c1 c2 ⊢); omega))]; try rfl))
    · exact mo_q hQ (by first | rfl | (rw [if_pos (by ((try simp only [mo_bl0, Classical.not_not] at c1 c2); (try simp only [Int32.lt_iff_toInt_lt, Int32.le_iff_toInt_le, mo_ieq, Int32.toInt_zero, mo_n1, Nat.reduceAdd] at c1 c2 ⊢); omega))]; try rfl) | (rw [if_neg (by ((try simp only [mo_bl0, Classical.not_not] at c1 c2); (try simp only [Int32.lt_iff_toInt_lt, Int32.le_iff_toInt_le, mo_ieq, Int32.toInt_zero, mo_n1, Nat.reduceAdd] at c1 c2 ⊢); omega))]; try rfl)) (by first | rfl | (rw [if_pos (by ((try simp only [mo_bl0, Classical.not_not] at c1 c2); (try simp only [Int32.lt_iff_toInt_lt, Int32.le_iff_toInt_le, mo_ieq, Int32.toInt_zero, mo_n1, Nat.reduceAdd] at c1 c2 ⊢); omega))]; try rfl) | (rw [if_neg (by ((try simp only [mo_bl0, Classical.not_not] at c1 c2); (try simp only [Int32.lt_iff_toInt_lt, Int32.le_iff_toInt_le, mo_ieq, Int32.toInt_zero, mo_n1, Nat.reduceAdd] at c1 c2 ⊢); omega))]; try rfl))
def S_X12_end : mo_S := fun as σ Q => ∃ n : Int32, as = [.inr (.inr (50, 0)), .inl n] ∧ (True) ∧ Q (some (.inl (if 0 ≤ n ∧ n ≤ σ.1 50 0 30 then n else (-1 : Int32)))) (if 0 ≤ n ∧ n ≤ σ.1 50 0 30 then mo_wI σ 50 0 30 n else σ)
theorem m_X12_end : ∀ (as : List mo_V) (σ : mo_M) (P P' : mo_Q), (∀ x τ, P x τ → P' x τ) → S_X12_end as σ P → S_X12_end as σ P' := by
  rintro as σ P P' h ⟨n, e, hp, hq⟩
  exact ⟨n, e, hp, h _ _ hq⟩
def cs_X12_end : Nat → mo_C := fun j => match j with
  | 0 => (3, false, 109, 50, S_X12_in)
  | _ => (0, false, 0, 50, fun _ _ _ => False)
theorem cs_X12_end_ok (g : mo_E) : ∀ j, mo_cok g t_X12_end (cs_X12_end j) ∧ mo_mon (cs_X12_end j) := by
  intro j
  unfold cs_X12_end
  split
  · exact ⟨mo_cokS ct_X12_in (by decide +kernel), m_X12_in⟩
  · exact ⟨mo_cok0 g _, mo_mon0⟩
set_option maxRecDepth 20000 in
set_option maxHeartbeats 2000000 in
theorem ct_X12_end : mo_ct yX12_end t_X12_end S_X12_end := by
  refine mo_ct_of (by decide) rfl ?_
  rintro g as σ Q ⟨n, rfl, hpre, hQ⟩
  refine ⟨Nat.le_of_ble_eq_true rfl, mo_go ok_X12_end (cs_X12_end_ok g) [] 14 ?_⟩
  intro K hK
  refine Exists.intro n (Exists.intro (0 : Int32) (Exists.intro (σ.1 50 0 30) (And.intro rfl (And.intro (show True by trivial) ?_))))
  refine And.intro (fun (c1 : ¬ (mo_bl ((0 : Int32) ≤ n ∧ n ≤ (σ.1 50 0 30))) = 0) => ?_) (fun (c1 : (mo_bl ((0 : Int32) ≤ n ∧ n ≤ (σ.1 50 0 30))) = 0) => ?_)
  · exact mo_q hQ (by first | rfl | (rw [if_pos (by ((try simp only [mo_bl0, Classical.not_not] at c1); (try simp only [Int32.lt_iff_toInt_lt, Int32.le_iff_toInt_le, mo_ieq, Int32.toInt_zero, mo_n1, Nat.reduceAdd] at c1 ⊢); omega))]; try rfl) | (rw [if_neg (by ((try simp only [mo_bl0, Classical.not_not] at c1); (try simp only [Int32.lt_iff_toInt_lt, Int32.le_iff_toInt_le, mo_ieq, Int32.toInt_zero, mo_n1, Nat.reduceAdd] at c1 ⊢); omega))]; try rfl)) (by first | rfl | (rw [if_pos (by ((try simp only [mo_bl0, Classical.not_not] at c1); (try simp only [Int32.lt_iff_toInt_lt, Int32.le_iff_toInt_le, mo_ieq, Int32.toInt_zero, mo_n1, Nat.reduceAdd] at c1 ⊢); omega))]; try rfl) | (rw [if_neg (by ((try simp only [mo_bl0, Classical.not_not] at c1); (try simp only [Int32.lt_iff_toInt_lt, Int32.le_iff_toInt_le, mo_ieq, Int32.toInt_zero, mo_n1, Nat.reduceAdd] at c1 ⊢); omega))]; try rfl))
  · exact mo_q hQ (by first | rfl | (rw [if_pos (by ((try simp only [mo_bl0, Classical.not_not] at c1); (try simp only [Int32.lt_iff_toInt_lt, Int32.le_iff_toInt_le, mo_ieq, Int32.toInt_zero, mo_n1, Nat.reduceAdd] at c1 ⊢); omega))]; try rfl) | (rw [if_neg (by ((try simp only [mo_bl0, Classical.not_not] at c1); (try simp only [Int32.lt_iff_toInt_lt, Int32.le_iff_toInt_le, mo_ieq, Int32.toInt_zero, mo_n1, Nat.reduceAdd] at c1 ⊢); omega))]; try rfl)) (by first | rfl | (rw [if_pos (by ((try simp only [mo_bl0, Classical.not_not] at c1); (try simp only [Int32.lt_iff_toInt_lt, Int32.le_iff_toInt_le, mo_ieq, Int32.toInt_zero, mo_n1, Nat.reduceAdd] at c1 ⊢); omega))]; try rfl) | (rw [if_neg (by ((try simp only [mo_bl0, Classical.not_not] at c1); (try simp only [Int32.lt_iff_toInt_lt, Int32.le_iff_toInt_le, mo_ieq, Int32.toInt_zero, mo_n1, Nat.reduceAdd] at c1 ⊢); omega))]; try rfl))
end
section
/-! the first place below n with P, or none -/
noncomputable def mo_fst (P : Nat → Prop) : Nat → Option Nat
  | 0 => none
  | n + 1 => match mo_fst P n with
    | some k => some k
    | none => @ite _ (P n) (Classical.propDecidable _) (some n) none
theorem mo_fst_none {P : Nat → Prop} : ∀ {n : Nat}, (∀ j, j < n → ¬ P j) → mo_fst P n = none
  | 0, _ => rfl
  | n + 1, h => by
    rw [mo_fst, mo_fst_none (fun j hj => h j (by omega))]
    exact if_neg (h n (by omega))
theorem mo_fst_some {P : Nat → Prop} {k : Nat} (hk : P k) (h : ∀ j, j < k → ¬ P j) : ∀ {n : Nat}, k < n → mo_fst P n = some k
  | 0, hn => absurd hn (by omega)
  | n + 1, hn => by
    rw [mo_fst]
    by_cases e : k < n
    · rw [mo_fst_some hk h e]
    · have e : k = n := by omega
      subst e
      rw [mo_fst_none h]
      exact if_pos hk
noncomputable def mo_fsI (P : Nat → Prop) (n : Nat) : Int32 := match mo_fst P n with
  | some k => nI k
  | none => -1
theorem mo_fsI_no {P : Nat → Prop} {n : Nat} (h : ∀ j, j < n → ¬ P j) : mo_fsI P n = -1 := by unfold mo_fsI; rw [mo_fst_none h]
theorem mo_fsI_at {P : Nat → Prop} {k n : Nat} (hn : k < n) (hk : P k) (h : ∀ j, j < k → ¬ P j) : mo_fsI P n = nI k := by unfold mo_fsI; rw [mo_fst_some hk h hn]
theorem mo_cge {x : Int32} {k n : Nat} (hx : x = nI n) (hn : n < 1000000) (hk : k < 1000000) (c : x ≤ nI k) : n ≤ k := by
  rw [hx, nI_leI (by omega) (by omega)] at c; exact c
theorem mo_clt {x : Int32} {k n : Nat} (hx : x = nI n) (hn : n < 1000000) (hk : k < 1000000) (c : ¬ x ≤ nI k) : k < n := by
  rw [hx, nI_leI (by omega) (by omega)] at c; omega
/-- a number that a row of n has room for -/
def mo_le (x : Int32) (N : Nat) : Prop := x = nI x.toNatClampNeg ∧ x.toNatClampNeg ≤ N
theorem mo_inN {k N : Nat} (h : k < N) (hN : N < 1000000) : vp_in (nI k) N := vp_in_nI h (by omega)
theorem mo_cl {k : Nat} (h : k < 1000000) : (nI k).toNatClampNeg = k := nI_clamp (by omega)
def S_X3_search : mo_S := fun as σ Q => ∃ p : Int32, ∃ v : Int32, as = [.inr (.inr (3, 0)), .inl p, .inl v] ∧ (mo_le (σ.1 3 0 2) 60) ∧ Q (some (.inl (mo_fsI (fun k => σ.1 4 0 k = p ∧ σ.1 5 0 k = v) (σ.1 3 0 2).toNatClampNeg))) (σ)
theorem m_X3_search : ∀ (as : List mo_V) (σ : mo_M) (P P' : mo_Q), (∀ x τ, P x τ → P' x τ) → S_X3_search as σ P → S_X3_search as σ P' := by
  rintro as σ P P' h ⟨p, v, e, hp, hq⟩
  exact ⟨p, v, e, hp, h _ _ hq⟩
set_option maxRecDepth 20000 in
set_option maxHeartbeats 2000000 in
theorem lp_X3_search (g : mo_E) (σ : mo_M) (Q : mo_Q) (p v : Int32) (n : Nat) (hn : σ.1 3 0 2 = nI n) (hle : n ≤ 60) (hQ : Q (some (.inl (mo_fsI (fun k => σ.1 4 0 k = p ∧ σ.1 5 0 k = v) n))) σ) : ∀ (d k : Nat), n < k + d → k ≤ n → (∀ j, j < k → ¬ (fun k => σ.1 4 0 k = p ∧ σ.1 5 0 k = v) j) → mo_X g t_X3_search Q 2 [some (.inr (.inr (3, 0))), some (.inl p), some (.inl v), some (.inl (nI k))] [] σ := by
  intro d
  induction d with
  | zero => intro k h1 h2; omega
  | succ d ih =>
    intro k h1 h2 hinv
    have hkc : (nI k).toNatClampNeg = k := mo_cl (by omega)
    refine mo_go ok_X3_search (mo_no_ok g _) [2] 25 ?_
    intro K hK
    refine And.intro (fun (c1 : (σ.1 3 0 2) ≤ (nI k)) => ?_) (fun (c1 : ¬ (σ.1 3 0 2) ≤ (nI k)) => ?_)
    · have hk : n ≤ k := mo_cge hn (by omega) (by omega) c1
      exact mo_q hQ (by rw [mo_fsI_no (fun j hj => hinv j (by omega))]; rfl) rfl
    · have hk : k < n := mo_clt hn (by omega) (by omega) c1
      refine And.intro (show vp_in (nI k) 60 by exact mo_inN (by omega) (by decide)) ?_
      refine And.intro (fun (c2 : ¬ (σ.1 4 0 ((nI k).toNatClampNeg)) = p) => ?_) (fun (c2 : (σ.1 4 0 ((nI k).toNatClampNeg)) = p) => ?_)
      · (have hih := ih (k + 1) (by omega) (by omega) (lt_s hinv (by rw [hkc] at c2; simp_all)); rw [nI_succ] at hih; exact hK _ _ _ _ hih)
      · refine And.intro (show vp_in (nI k) 60 by exact mo_inN (by omega) (by decide)) ?_
        refine And.intro (fun (c3 : ¬ (σ.1 5 0 ((nI k).toNatClampNeg)) = v) => ?_) (fun (c3 : (σ.1 5 0 ((nI k).toNatClampNeg)) = v) => ?_)
        · (have hih := ih (k + 1) (by omega) (by omega) (lt_s hinv (by rw [hkc] at c2 c3; simp_all)); rw [nI_succ] at hih; exact hK _ _ _ _ hih)
        · (rw [hkc] at c2 c3; exact mo_q hQ (by rw [mo_fsI_at hk (by simp_all) hinv]) rfl)
set_option maxRecDepth 20000 in
set_option maxHeartbeats 2000000 in
theorem ct_X3_search : mo_ct yX3_search t_X3_search S_X3_search := by
  refine mo_ct_of (by decide) rfl ?_
  rintro g as σ Q ⟨p, v, rfl, hpre, hQ⟩
  refine ⟨Nat.le_of_ble_eq_true rfl, mo_go ok_X3_search (mo_no_ok g _) [2] 25 ?_⟩
  intro K hK
  exact hK _ _ _ _ (lp_X3_search g σ Q p v _ hpre.1 hpre.2 hQ ((σ.1 3 0 2).toNatClampNeg + 1) 0 (by omega) (by omega) (fun j hj => by omega))
def S_X12_found : mo_S := fun as σ Q => ∃ p : Int32, ∃ v : Int32, as = [.inr (.inr (50, 0)), .inl p, .inl v] ∧ (mo_le (σ.1 50 0 2) 60) ∧ Q (some (.inl (mo_fsI (fun k => σ.1 52 0 k = p ∧ σ.1 53 0 k = v) (σ.1 50 0 2).toNatClampNeg))) (σ)
theorem m_X12_found : ∀ (as : List mo_V) (σ : mo_M) (P P' : mo_Q), (∀ x τ, P x τ → P' x τ) → S_X12_found as σ P → S_X12_found as σ P' := by
  rintro as σ P P' h ⟨p, v, e, hp, hq⟩
  exact ⟨p, v, e, hp, h _ _ hq⟩
set_option maxRecDepth 20000 in
set_option maxHeartbeats 2000000 in
theorem lp_X12_found (g : mo_E) (σ : mo_M) (Q : mo_Q) (p v : Int32) (n : Nat) (hn : σ.1 50 0 2 = nI n) (hle : n ≤ 60) (hQ : Q (some (.inl (mo_fsI (fun k => σ.1 52 0 k = p ∧ σ.1 53 0 k = v) n))) σ) : ∀ (d k : Nat), n < k + d → k ≤ n → (∀ j, j < k → ¬ (fun k => σ.1 52 0 k = p ∧ σ.1 53 0 k = v) j) → mo_X g t_X12_found Q 2 [some (.inr (.inr (50, 0))), some (.inl p), some (.inl v), some (.inl (nI k))] [] σ := by
  intro d
  induction d with
  | zero => intro k h1 h2; omega
  | succ d ih =>
    intro k h1 h2 hinv
    have hkc : (nI k).toNatClampNeg = k := mo_cl (by omega)
    refine mo_go ok_X12_found (mo_no_ok g _) [2] 25 ?_
    intro K hK
    refine And.intro (fun (c1 : (σ.1 50 0 2) ≤ (nI k)) => ?_) (fun (c1 : ¬ (σ.1 50 0 2) ≤ (nI k)) => ?_)
    · have hk : n ≤ k := mo_cge hn (by omega) (by omega) c1
      exact mo_q hQ (by rw [mo_fsI_no (fun j hj => hinv j (by omega))]; rfl) rfl
    · have hk : k < n := mo_clt hn (by omega) (by omega) c1
      refine And.intro (show vp_in (nI k) 60 by exact mo_inN (by omega) (by decide)) ?_
      refine And.intro (fun (c2 : ¬ (σ.1 52 0 ((nI k).toNatClampNeg)) = p) => ?_) (fun (c2 : (σ.1 52 0 ((nI k).toNatClampNeg)) = p) => ?_)
      · (have hih := ih (k + 1) (by omega) (by omega) (lt_s hinv (by rw [hkc] at c2; simp_all)); rw [nI_succ] at hih; exact hK _ _ _ _ hih)
      · refine And.intro (show vp_in (nI k) 60 by exact mo_inN (by omega) (by decide)) ?_
        refine And.intro (fun (c3 : ¬ (σ.1 53 0 ((nI k).toNatClampNeg)) = v) => ?_) (fun (c3 : (σ.1 53 0 ((nI k).toNatClampNeg)) = v) => ?_)
        · (have hih := ih (k + 1) (by omega) (by omega) (lt_s hinv (by rw [hkc] at c2 c3; simp_all)); rw [nI_succ] at hih; exact hK _ _ _ _ hih)
        · (rw [hkc] at c2 c3; exact mo_q hQ (by rw [mo_fsI_at hk (by simp_all) hinv]) rfl)
set_option maxRecDepth 20000 in
set_option maxHeartbeats 2000000 in
theorem ct_X12_found : mo_ct yX12_found t_X12_found S_X12_found := by
  refine mo_ct_of (by decide) rfl ?_
  rintro g as σ Q ⟨p, v, rfl, hpre, hQ⟩
  refine ⟨Nat.le_of_ble_eq_true rfl, mo_go ok_X12_found (mo_no_ok g _) [2] 25 ?_⟩
  intro K hK
  exact hK _ _ _ _ (lp_X12_found g σ Q p v _ hpre.1 hpre.2 hQ ((σ.1 50 0 2).toNatClampNeg + 1) 0 (by omega) (by omega) (fun j hj => by omega))
end
section
theorem mo_blT {c : Prop} (h : ¬ mo_bl c = 0) : c := Classical.byContradiction fun q => h (mo_bl_f q)
def S_X11_part : mo_S := fun as σ Q => ∃ a : Int32, as = [.inr (.inr (0, 0)), .inl a] ∧ ((0 ≤ a ∧ a ≤ (9 : Int32) → (((σ.1 1 0 1) < (30 : Int32) → ((vp_in (σ.1 1 0 1) 30) ∧ Q (some (.inl (σ.1 1 0 1 + 1 - 1))) (mo_wI (mo_wI (mo_wI σ 2 0 ((σ.1 1 0 1).toNatClampNeg) a) 1 0 1 (σ.1 1 0 1 + 1)) 0 0 14 0))) ∧ (¬ (σ.1 1 0 1) < (30 : Int32) → Q (some (.inl (-5 : Int32))) (mo_wI σ 0 0 14 (-5 : Int32))))) ∧ (¬ (0 ≤ a ∧ a ≤ (9 : Int32)) → Q (some (.inl (-1 : Int32))) (mo_wI σ 0 0 14 (-1 : Int32))))
theorem m_X11_part : ∀ (as : List mo_V) (σ : mo_M) (P P' : mo_Q), (∀ x τ, P x τ → P' x τ) → S_X11_part as σ P → S_X11_part as σ P' := by
  rintro as σ P P' hm ⟨a, e, hq⟩
  exact ⟨a, e, ⟨fun c1 => ⟨fun c2 => ⟨((hq.1 c1).1 c2).1, hm _ _ ((hq.1 c1).1 c2).2⟩, fun c2 => hm _ _ ((hq.1 c1).2 c2)⟩, fun c1 => hm _ _ (hq.2 c1)⟩⟩
def cs_X11_part : Nat → mo_C := fun j => match j with
  | 0 => (2, false, 101, 50, S_X11_isWithin)
  | 1 => (2, true, 105, 11, S_X11_refuse)
  | 2 => (2, true, 112, 5, S_X5_add)
  | 3 => (2, true, 115, 11, S_X11_accept)
  | _ => (0, false, 0, 50, fun _ _ _ => False)
theorem cs_X11_part_ok (g : mo_E) : ∀ j, mo_cok g t_X11_part (cs_X11_part j) ∧ mo_mon (cs_X11_part j) := by
  intro j
  unfold cs_X11_part
  split
  · exact ⟨mo_cokS ct_X11_isWithin (by decide +kernel), m_X11_isWithin⟩
  · exact ⟨mo_cokV ct_X11_refuse (by decide) ⟨_, _, rfl⟩ (by decide +kernel), m_X11_refuse⟩
  · exact ⟨mo_cokV ct_X5_add (by decide) ⟨_, _, rfl⟩ (by decide +kernel), m_X5_add⟩
  · exact ⟨mo_cokV ct_X11_accept (by decide) ⟨_, _, rfl⟩ (by decide +kernel), m_X11_accept⟩
  · exact ⟨mo_cok0 g _, mo_mon0⟩
set_option maxRecDepth 20000 in
set_option maxHeartbeats 2000000 in
theorem ct_X11_part : mo_ct yX11_part t_X11_part S_X11_part := by
  refine mo_ct_of (by decide) rfl ?_
  rintro g as σ Q ⟨a, rfl, hQ⟩
  refine ⟨Nat.le_of_ble_eq_true rfl, mo_go ok_X11_part (cs_X11_part_ok g) [] 25 ?_⟩
  intro K hK
  refine Exists.intro a (Exists.intro (9 : Int32) (And.intro rfl (And.intro trivial ?_)))
  refine And.intro (fun (c1 : ¬ (mo_bl (0 ≤ a ∧ a ≤ (9 : Int32))) = 0) => ?_) (fun (c1 : (mo_bl (0 ≤ a ∧ a ≤ (9 : Int32))) = 0) => ?_)
  · replace c1 : 0 ≤ a ∧ a ≤ (9 : Int32) := mo_blT c1
    refine And.intro (fun (c2 : (σ.1 1 0 1) < (30 : Int32)) => ?_) (fun (c2 : ¬ (σ.1 1 0 1) < (30 : Int32)) => ?_)
    · refine Exists.intro a (And.intro rfl (And.intro (show vp_in (σ.1 1 0 1) 30 from ((hQ.1 c1).1 c2).1) ?_))
      refine Exists.intro (σ.1 1 0 1 + 1 - 1) (And.intro rfl (And.intro trivial ?_))
      exact ((hQ.1 c1).1 c2).2
    · refine Exists.intro (-5 : Int32) (And.intro rfl (And.intro trivial ?_))
      exact ((hQ.1 c1).2 c2)
  · replace c1 : ¬ (0 ≤ a ∧ a ≤ (9 : Int32)) := mo_bl0.mp c1
    refine Exists.intro (-1 : Int32) (And.intro rfl (And.intro trivial ?_))
    exact (hQ.2 c1)
def S_X12_part : mo_S := fun as σ Q => ∃ a : Int32, as = [.inr (.inr (50, 0)), .inl a] ∧ (((0 : Int32) ≤ a ∧ a ≤ (9 : Int32) → ((¬ (σ.1 50 0 1) = (30 : Int32) → (vp_in (σ.1 50 0 1) 30 ∧ Q (some (.inl ((((σ.1 50 0 1) + (1 : Int32)) - (1 : Int32))))) (mo_wI (mo_wI (mo_wI σ 51 0 ((σ.1 50 0 1).toNatClampNeg) a) 50 0 1 ((σ.1 50 0 1) + (1 : Int32))) 50 0 0 (if (((σ.1 50 0 1) + (1 : Int32)) - (1 : Int32)) < 0 then (((σ.1 50 0 1) + (1 : Int32)) - (1 : Int32)) else 0)))) ∧ ((σ.1 50 0 1) = (30 : Int32) → Q (some (.inl (-5 : Int32))) (mo_wI σ 50 0 0 (if (-5 : Int32) < 0 then (-5 : Int32) else 0))))) ∧ (¬ ((0 : Int32) ≤ a ∧ a ≤ (9 : Int32)) → Q (some (.inl (-1 : Int32))) (mo_wI σ 50 0 0 (if (-1 : Int32) < 0 then (-1 : Int32) else 0))))
theorem m_X12_part : ∀ (as : List mo_V) (σ : mo_M) (P P' : mo_Q), (∀ x τ, P x τ → P' x τ) → S_X12_part as σ P → S_X12_part as σ P' := by
  rintro as σ P P' hm ⟨a, e, hq⟩
  exact ⟨a, e, ⟨fun c1 => ⟨fun c2 => ⟨((hq.1 c1).1 c2).1, hm _ _ ((hq.1 c1).1 c2).2⟩, fun c2 => hm _ _ ((hq.1 c1).2 c2)⟩, fun c1 => hm _ _ (hq.2 c1)⟩⟩
def cs_X12_part : Nat → mo_C := fun j => match j with
  | 0 => (3, false, 109, 50, S_X12_in)
  | 1 => (2, true, 122, 12, S_X12_ends)
  | _ => (0, false, 0, 50, fun _ _ _ => False)
theorem cs_X12_part_ok (g : mo_E) : ∀ j, mo_cok g t_X12_part (cs_X12_part j) ∧ mo_mon (cs_X12_part j) := by
  intro j
  unfold cs_X12_part
  split
  · exact ⟨mo_cokS ct_X12_in (by decide +kernel), m_X12_in⟩
  · exact ⟨mo_cokV ct_X12_ends (by decide) ⟨_, _, rfl⟩ (by decide +kernel), m_X12_ends⟩
  · exact ⟨mo_cok0 g _, mo_mon0⟩
set_option maxRecDepth 20000 in
set_option maxHeartbeats 2000000 in
theorem ct_X12_part : mo_ct yX12_part t_X12_part S_X12_part := by
  refine mo_ct_of (by decide) rfl ?_
  rintro g as σ Q ⟨a, rfl, hQ⟩
  refine ⟨Nat.le_of_ble_eq_true rfl, mo_go ok_X12_part (cs_X12_part_ok g) [] 37 ?_⟩
  intro K hK
  refine Exists.intro a (Exists.intro (0 : Int32) (Exists.intro (9 : Int32) (And.intro rfl (And.intro trivial ?_))))
  refine And.intro (fun (c1 : ¬ (mo_bl ((0 : Int32) ≤ a ∧ a ≤ (9 : Int32))) = 0) => ?_) (fun (c1 : (mo_bl ((0 : Int32) ≤ a ∧ a ≤ (9 : Int32))) = 0) => ?_)
  · replace c1 : (0 : Int32) ≤ a ∧ a ≤ (9 : Int32) := mo_blT c1
    refine And.intro (fun (c2 : ¬ (σ.1 50 0 1) = (30 : Int32)) => ?_) (fun (c2 : (σ.1 50 0 1) = (30 : Int32)) => ?_)
    · refine And.intro (show vp_in (σ.1 50 0 1) 30 from ((hQ.1 c1).1 c2).1) ?_
      refine Exists.intro (((σ.1 50 0 1) + (1 : Int32)) - (1 : Int32)) (And.intro rfl (And.intro trivial ?_))
      exact ((hQ.1 c1).1 c2).2
    · refine Exists.intro (-5 : Int32) (And.intro rfl (And.intro trivial ?_))
      exact ((hQ.1 c1).2 c2)
  · replace c1 : ¬ ((0 : Int32) ≤ a ∧ a ≤ (9 : Int32)) := mo_bl0.mp c1
    refine Exists.intro (-1 : Int32) (And.intro rfl (And.intro trivial ?_))
    exact (hQ.2 c1)
def S_X11_make : mo_S := fun as σ Q => ∃ a : Int32, ∃ b : Int32, ∃ c : Int32, ∃ d : Int32, as = [.inr (.inr (0, 0)), .inl a, .inl b, .inl c, .inl d] ∧ (((0 ≤ b ∧ b ≤ (999 : Int32)) ∧ (0 ≤ c ∧ c ≤ (999 : Int32)) ∧ (0 ≤ d ∧ d ≤ (999 : Int32)) → ((0 ≤ a ∧ a < σ.1 1 0 1 → ((mo_le (σ.1 3 0 2) 60) ∧ (((mo_fsI (fun k_ => σ.1 4 0 k_ = a ∧ σ.1 5 0 k_ = (b * (1000000 : Int32) + c * (1000 : Int32) + d * (1 : Int32))) (σ.1 3 0 2).toNatClampNeg) = (-1 : Int32) → (((σ.1 3 0 2) < (60 : Int32) → ((vp_in (σ.1 3 0 2) 60) ∧ Q (some (.inl (σ.1 3 0 2 + 1 - 1))) (mo_wI (mo_wI (mo_wI (mo_wI σ 4 0 ((σ.1 3 0 2).toNatClampNeg) a) 5 0 ((σ.1 3 0 2).toNatClampNeg) ((b * (1000000 : Int32) + c * (1000 : Int32) + d * (1 : Int32)))) 3 0 2 (σ.1 3 0 2 + 1)) 0 0 14 0))) ∧ (¬ (σ.1 3 0 2) < (60 : Int32) → Q (some (.inl (-5 : Int32))) (mo_wI σ 0 0 14 (-5 : Int32))))) ∧ (¬ (mo_fsI (fun k_ => σ.1 4 0 k_ = a ∧ σ.1 5 0 k_ = (b * (1000000 : Int32) + c * (1000 : Int32) + d * (1 : Int32))) (σ.1 3 0 2).toNatClampNeg) = (-1 : Int32) → Q (some (.inl (-4 : Int32))) (mo_wI σ 0 0 14 (-4 : Int32)))))) ∧ (¬ (0 ≤ a ∧ a < σ.1 1 0 1) → Q (some (.inl (-2 : Int32))) (mo_wI σ 0 0 14 (-2 : Int32))))) ∧ (¬ ((0 ≤ b ∧ b ≤ (999 : Int32)) ∧ (0 ≤ c ∧ c ≤ (999 : Int32)) ∧ (0 ≤ d ∧ d ≤ (999 : Int32))) → Q (some (.inl (-1 : Int32))) (mo_wI σ 0 0 14 (-1 : Int32))))
theorem m_X11_make : ∀ (as : List mo_V) (σ : mo_M) (P P' : mo_Q), (∀ x τ, P x τ → P' x τ) → S_X11_make as σ P → S_X11_make as σ P' := by
  rintro as σ P P' hm ⟨a, b, c, d, e, hq⟩
  exact ⟨a, b, c, d, e, ⟨fun c1 => ⟨fun c2 => ⟨((hq.1 c1).1 c2).1, ⟨fun c3 => ⟨fun c4 => ⟨((((hq.1 c1).1 c2).2.1 c3).1 c4).1, hm _ _ ((((hq.1 c1).1 c2).2.1 c3).1 c4).2⟩, fun c4 => hm _ _ ((((hq.1 c1).1 c2).2.1 c3).2 c4)⟩, fun c3 => hm _ _ (((hq.1 c1).1 c2).2.2 c3)⟩⟩, fun c2 => hm _ _ ((hq.1 c1).2 c2)⟩, fun c1 => hm _ _ (hq.2 c1)⟩⟩
def cs_X11_make : Nat → mo_C := fun j => match j with
  | 0 => (3, false, 118, 50, S_X11_isVersion)
  | 1 => (2, true, 105, 11, S_X11_refuse)
  | 2 => (2, true, 122, 11, S_X11_isPart)
  | 3 => (3, false, 126, 50, S_X11_versionOf)
  | 4 => (3, true, 130, 3, S_X3_search)
  | 5 => (3, true, 135, 3, S_X3_add)
  | 6 => (2, true, 115, 11, S_X11_accept)
  | _ => (0, false, 0, 50, fun _ _ _ => False)
theorem cs_X11_make_ok (g : mo_E) : ∀ j, mo_cok g t_X11_make (cs_X11_make j) ∧ mo_mon (cs_X11_make j) := by
  intro j
  unfold cs_X11_make
  split
  · exact ⟨mo_cokS ct_X11_isVersion (by decide +kernel), m_X11_isVersion⟩
  · exact ⟨mo_cokV ct_X11_refuse (by decide) ⟨_, _, rfl⟩ (by decide +kernel), m_X11_refuse⟩
  · exact ⟨mo_cokV ct_X11_isPart (by decide) ⟨_, _, rfl⟩ (by decide +kernel), m_X11_isPart⟩
  · exact ⟨mo_cokS ct_X11_versionOf (by decide +kernel), m_X11_versionOf⟩
  · exact ⟨mo_cokV ct_X3_search (by decide) ⟨_, _, rfl⟩ (by decide +kernel), m_X3_search⟩
  · exact ⟨mo_cokV ct_X3_add (by decide) ⟨_, _, rfl⟩ (by decide +kernel), m_X3_add⟩
  · exact ⟨mo_cokV ct_X11_accept (by decide) ⟨_, _, rfl⟩ (by decide +kernel), m_X11_accept⟩
  · exact ⟨mo_cok0 g _, mo_mon0⟩
set_option maxRecDepth 20000 in
set_option maxHeartbeats 2000000 in
theorem ct_X11_make : mo_ct yX11_make t_X11_make S_X11_make := by
  refine mo_ct_of (by decide) rfl ?_
  rintro g as σ Q ⟨a, b, c, d, rfl, hQ⟩
  refine ⟨Nat.le_of_ble_eq_true rfl, mo_go ok_X11_make (cs_X11_make_ok g) [] 51 ?_⟩
  intro K hK
  refine Exists.intro b (Exists.intro c (Exists.intro d (And.intro rfl (And.intro trivial ?_))))
  refine And.intro (fun (c1 : ¬ (mo_bl ((0 ≤ b ∧ b ≤ (999 : Int32)) ∧ (0 ≤ c ∧ c ≤ (999 : Int32)) ∧ (0 ≤ d ∧ d ≤ (999 : Int32)))) = 0) => ?_) (fun (c1 : (mo_bl ((0 ≤ b ∧ b ≤ (999 : Int32)) ∧ (0 ≤ c ∧ c ≤ (999 : Int32)) ∧ (0 ≤ d ∧ d ≤ (999 : Int32)))) = 0) => ?_)
  · replace c1 : (0 ≤ b ∧ b ≤ (999 : Int32)) ∧ (0 ≤ c ∧ c ≤ (999 : Int32)) ∧ (0 ≤ d ∧ d ≤ (999 : Int32)) := mo_blT c1
    refine Exists.intro a (And.intro rfl (And.intro trivial ?_))
    refine And.intro (fun (c2 : ¬ (mo_bl (0 ≤ a ∧ a < σ.1 1 0 1)) = 0) => ?_) (fun (c2 : (mo_bl (0 ≤ a ∧ a < σ.1 1 0 1)) = 0) => ?_)
    · replace c2 : 0 ≤ a ∧ a < σ.1 1 0 1 := mo_blT c2
      refine Exists.intro b (Exists.intro c (Exists.intro d (And.intro rfl (And.intro trivial ?_))))
      refine Exists.intro a (Exists.intro (b * (1000000 : Int32) + c * (1000 : Int32) + d * (1 : Int32)) (And.intro rfl (And.intro (show mo_le (σ.1 3 0 2) 60 from ((hQ.1 c1).1 c2).1) ?_)))
      refine And.intro (fun (c3 : (mo_fsI (fun k_ => σ.1 4 0 k_ = a ∧ σ.1 5 0 k_ = (b * (1000000 : Int32) + c * (1000 : Int32) + d * (1 : Int32))) (σ.1 3 0 2).toNatClampNeg) = (-1 : Int32)) => ?_) (fun (c3 : ¬ (mo_fsI (fun k_ => σ.1 4 0 k_ = a ∧ σ.1 5 0 k_ = (b * (1000000 : Int32) + c * (1000 : Int32) + d * (1 : Int32))) (σ.1 3 0 2).toNatClampNeg) = (-1 : Int32)) => ?_)
      · refine And.intro (fun (c4 : (σ.1 3 0 2) < (60 : Int32)) => ?_) (fun (c4 : ¬ (σ.1 3 0 2) < (60 : Int32)) => ?_)
        · refine Exists.intro a (Exists.intro (b * (1000000 : Int32) + c * (1000 : Int32) + d * (1 : Int32)) (And.intro rfl (And.intro (show vp_in (σ.1 3 0 2) 60 from ((((hQ.1 c1).1 c2).2.1 c3).1 c4).1) ?_)))
          refine Exists.intro (σ.1 3 0 2 + 1 - 1) (And.intro rfl (And.intro trivial ?_))
          exact ((((hQ.1 c1).1 c2).2.1 c3).1 c4).2
        · refine Exists.intro (-5 : Int32) (And.intro rfl (And.intro trivial ?_))
          exact ((((hQ.1 c1).1 c2).2.1 c3).2 c4)
      · refine Exists.intro (-4 : Int32) (And.intro rfl (And.intro trivial ?_))
        exact (((hQ.1 c1).1 c2).2.2 c3)
    · replace c2 : ¬ (0 ≤ a ∧ a < σ.1 1 0 1) := mo_bl0.mp c2
      refine Exists.intro (-2 : Int32) (And.intro rfl (And.intro trivial ?_))
      exact ((hQ.1 c1).2 c2)
  · replace c1 : ¬ ((0 ≤ b ∧ b ≤ (999 : Int32)) ∧ (0 ≤ c ∧ c ≤ (999 : Int32)) ∧ (0 ≤ d ∧ d ≤ (999 : Int32))) := mo_bl0.mp c1
    refine Exists.intro (-1 : Int32) (And.intro rfl (And.intro trivial ?_))
    exact (hQ.2 c1)
def S_X12_make : mo_S := fun as σ Q => ∃ a : Int32, ∃ b : Int32, ∃ c : Int32, ∃ d : Int32, as = [.inr (.inr (50, 0)), .inl a, .inl b, .inl c, .inl d] ∧ (((0 ≤ b ∧ b ≤ (999 : Int32)) ∧ (0 ≤ c ∧ c ≤ (999 : Int32)) ∧ (0 ≤ d ∧ d ≤ (999 : Int32)) → ((0 ≤ a ∧ a ≤ σ.1 50 0 1 - 1 → ((mo_le (σ.1 50 0 2) 60) ∧ (((mo_fsI (fun k_ => σ.1 52 0 k_ = a ∧ σ.1 53 0 k_ = ((b * (1000 : Int32) + c) * (1000 : Int32) + d)) (σ.1 50 0 2).toNatClampNeg) = (-1 : Int32) → ((¬ (σ.1 50 0 2) = (60 : Int32) → (vp_in (σ.1 50 0 2) 60 ∧ (vp_in (σ.1 50 0 2) 60 ∧ Q (some (.inl ((((σ.1 50 0 2) + (1 : Int32)) - (1 : Int32))))) (mo_wI (mo_wI (mo_wI (mo_wI σ 52 0 ((σ.1 50 0 2).toNatClampNeg) a) 53 0 ((σ.1 50 0 2).toNatClampNeg) ((b * (1000 : Int32) + c) * (1000 : Int32) + d)) 50 0 2 ((σ.1 50 0 2) + (1 : Int32))) 50 0 0 (if (((σ.1 50 0 2) + (1 : Int32)) - (1 : Int32)) < 0 then (((σ.1 50 0 2) + (1 : Int32)) - (1 : Int32)) else 0))))) ∧ ((σ.1 50 0 2) = (60 : Int32) → Q (some (.inl (-5 : Int32))) (mo_wI σ 50 0 0 (if (-5 : Int32) < 0 then (-5 : Int32) else 0))))) ∧ (¬ (mo_fsI (fun k_ => σ.1 52 0 k_ = a ∧ σ.1 53 0 k_ = ((b * (1000 : Int32) + c) * (1000 : Int32) + d)) (σ.1 50 0 2).toNatClampNeg) = (-1 : Int32) → Q (some (.inl (-4 : Int32))) (mo_wI σ 50 0 0 (if (-4 : Int32) < 0 then (-4 : Int32) else 0)))))) ∧ (¬ (0 ≤ a ∧ a ≤ σ.1 50 0 1 - 1) → Q (some (.inl (-2 : Int32))) (mo_wI σ 50 0 0 (if (-2 : Int32) < 0 then (-2 : Int32) else 0))))) ∧ (¬ ((0 ≤ b ∧ b ≤ (999 : Int32)) ∧ (0 ≤ c ∧ c ≤ (999 : Int32)) ∧ (0 ≤ d ∧ d ≤ (999 : Int32))) → Q (some (.inl (-1 : Int32))) (mo_wI σ 50 0 0 (if (-1 : Int32) < 0 then (-1 : Int32) else 0))))
theorem m_X12_make : ∀ (as : List mo_V) (σ : mo_M) (P P' : mo_Q), (∀ x τ, P x τ → P' x τ) → S_X12_make as σ P → S_X12_make as σ P' := by
  rintro as σ P P' hm ⟨a, b, c, d, e, hq⟩
  exact ⟨a, b, c, d, e, ⟨fun c1 => ⟨fun c2 => ⟨((hq.1 c1).1 c2).1, ⟨fun c3 => ⟨fun c4 => ⟨((((hq.1 c1).1 c2).2.1 c3).1 c4).1, ⟨((((hq.1 c1).1 c2).2.1 c3).1 c4).2.1, hm _ _ ((((hq.1 c1).1 c2).2.1 c3).1 c4).2.2⟩⟩, fun c4 => hm _ _ ((((hq.1 c1).1 c2).2.1 c3).2 c4)⟩, fun c3 => hm _ _ (((hq.1 c1).1 c2).2.2 c3)⟩⟩, fun c2 => hm _ _ ((hq.1 c1).2 c2)⟩, fun c1 => hm _ _ (hq.2 c1)⟩⟩
def cs_X12_make : Nat → mo_C := fun j => match j with
  | 0 => (3, false, 126, 50, S_X12_areGood)
  | 1 => (2, true, 122, 12, S_X12_ends)
  | 2 => (2, true, 129, 12, S_X12_isPart)
  | 3 => (3, false, 133, 50, S_X12_versionOf)
  | 4 => (3, true, 137, 12, S_X12_found)
  | _ => (0, false, 0, 50, fun _ _ _ => False)
theorem cs_X12_make_ok (g : mo_E) : ∀ j, mo_cok g t_X12_make (cs_X12_make j) ∧ mo_mon (cs_X12_make j) := by
  intro j
  unfold cs_X12_make
  split
  · exact ⟨mo_cokS ct_X12_areGood (by decide +kernel), m_X12_areGood⟩
  · exact ⟨mo_cokV ct_X12_ends (by decide) ⟨_, _, rfl⟩ (by decide +kernel), m_X12_ends⟩
  · exact ⟨mo_cokV ct_X12_isPart (by decide) ⟨_, _, rfl⟩ (by decide +kernel), m_X12_isPart⟩
  · exact ⟨mo_cokS ct_X12_versionOf (by decide +kernel), m_X12_versionOf⟩
  · exact ⟨mo_cokV ct_X12_found (by decide) ⟨_, _, rfl⟩ (by decide +kernel), m_X12_found⟩
  · exact ⟨mo_cok0 g _, mo_mon0⟩
set_option maxRecDepth 20000 in
set_option maxHeartbeats 2000000 in
theorem ct_X12_make : mo_ct yX12_make t_X12_make S_X12_make := by
  refine mo_ct_of (by decide) rfl ?_
  rintro g as σ Q ⟨a, b, c, d, rfl, hQ⟩
  refine ⟨Nat.le_of_ble_eq_true rfl, mo_go ok_X12_make (cs_X12_make_ok g) [] 67 ?_⟩
  intro K hK
  refine Exists.intro b (Exists.intro c (Exists.intro d (And.intro rfl (And.intro trivial ?_))))
  refine And.intro (fun (c1 : ¬ (mo_bl ((0 ≤ b ∧ b ≤ (999 : Int32)) ∧ (0 ≤ c ∧ c ≤ (999 : Int32)) ∧ (0 ≤ d ∧ d ≤ (999 : Int32)))) = 0) => ?_) (fun (c1 : (mo_bl ((0 ≤ b ∧ b ≤ (999 : Int32)) ∧ (0 ≤ c ∧ c ≤ (999 : Int32)) ∧ (0 ≤ d ∧ d ≤ (999 : Int32)))) = 0) => ?_)
  · replace c1 : (0 ≤ b ∧ b ≤ (999 : Int32)) ∧ (0 ≤ c ∧ c ≤ (999 : Int32)) ∧ (0 ≤ d ∧ d ≤ (999 : Int32)) := mo_blT c1
    refine Exists.intro a (And.intro rfl (And.intro trivial ?_))
    refine And.intro (fun (c2 : ¬ (mo_bl (0 ≤ a ∧ a ≤ σ.1 50 0 1 - 1)) = 0) => ?_) (fun (c2 : (mo_bl (0 ≤ a ∧ a ≤ σ.1 50 0 1 - 1)) = 0) => ?_)
    · replace c2 : 0 ≤ a ∧ a ≤ σ.1 50 0 1 - 1 := mo_blT c2
      refine Exists.intro b (Exists.intro c (Exists.intro d (And.intro rfl (And.intro trivial ?_))))
      refine Exists.intro a (Exists.intro ((b * (1000 : Int32) + c) * (1000 : Int32) + d) (And.intro rfl (And.intro (show mo_le (σ.1 50 0 2) 60 from ((hQ.1 c1).1 c2).1) ?_)))
      refine And.intro (fun (c3 : (mo_fsI (fun k_ => σ.1 52 0 k_ = a ∧ σ.1 53 0 k_ = ((b * (1000 : Int32) + c) * (1000 : Int32) + d)) (σ.1 50 0 2).toNatClampNeg) = (-1 : Int32)) => ?_) (fun (c3 : ¬ (mo_fsI (fun k_ => σ.1 52 0 k_ = a ∧ σ.1 53 0 k_ = ((b * (1000 : Int32) + c) * (1000 : Int32) + d)) (σ.1 50 0 2).toNatClampNeg) = (-1 : Int32)) => ?_)
      · refine And.intro (fun (c4 : ¬ (σ.1 50 0 2) = (60 : Int32)) => ?_) (fun (c4 : (σ.1 50 0 2) = (60 : Int32)) => ?_)
        · refine And.intro (show vp_in (σ.1 50 0 2) 60 from ((((hQ.1 c1).1 c2).2.1 c3).1 c4).1) ?_
          refine Exists.intro b (Exists.intro c (Exists.intro d (And.intro rfl (And.intro trivial ?_))))
          refine And.intro (show vp_in (σ.1 50 0 2) 60 from ((((hQ.1 c1).1 c2).2.1 c3).1 c4).2.1) ?_
          refine Exists.intro (((σ.1 50 0 2) + (1 : Int32)) - (1 : Int32)) (And.intro rfl (And.intro trivial ?_))
          exact ((((hQ.1 c1).1 c2).2.1 c3).1 c4).2.2
        · refine Exists.intro (-5 : Int32) (And.intro rfl (And.intro trivial ?_))
          exact ((((hQ.1 c1).1 c2).2.1 c3).2 c4)
      · refine Exists.intro (-4 : Int32) (And.intro rfl (And.intro trivial ?_))
        exact (((hQ.1 c1).1 c2).2.2 c3)
    · replace c2 : ¬ (0 ≤ a ∧ a ≤ σ.1 50 0 1 - 1) := mo_bl0.mp c2
      refine Exists.intro (-2 : Int32) (And.intro rfl (And.intro trivial ?_))
      exact ((hQ.1 c1).2 c2)
  · replace c1 : ¬ ((0 ≤ b ∧ b ≤ (999 : Int32)) ∧ (0 ≤ c ∧ c ≤ (999 : Int32)) ∧ (0 ≤ d ∧ d ≤ (999 : Int32))) := mo_bl0.mp c1
    refine Exists.intro (-1 : Int32) (And.intro rfl (And.intro trivial ?_))
    exact (hQ.2 c1)
def S_X11_find : mo_S := fun as σ Q => ∃ a : Int32, ∃ b : Int32, ∃ c : Int32, ∃ d : Int32, as = [.inr (.inr (0, 0)), .inl a, .inl b, .inl c, .inl d] ∧ ((¬ ((0 ≤ b ∧ b ≤ (999 : Int32)) ∧ (0 ≤ c ∧ c ≤ (999 : Int32)) ∧ (0 ≤ d ∧ d ≤ (999 : Int32))) → Q (some (.inl (-1 : Int32))) (σ)) ∧ ((0 ≤ b ∧ b ≤ (999 : Int32)) ∧ (0 ≤ c ∧ c ≤ (999 : Int32)) ∧ (0 ≤ d ∧ d ≤ (999 : Int32)) → ((mo_le (σ.1 3 0 2) 60) ∧ Q (some (.inl (mo_fsI (fun k_ => σ.1 4 0 k_ = a ∧ σ.1 5 0 k_ = (b * (1000000 : Int32) + c * (1000 : Int32) + d * (1 : Int32))) (σ.1 3 0 2).toNatClampNeg))) (σ))))
theorem m_X11_find : ∀ (as : List mo_V) (σ : mo_M) (P P' : mo_Q), (∀ x τ, P x τ → P' x τ) → S_X11_find as σ P → S_X11_find as σ P' := by
  rintro as σ P P' hm ⟨a, b, c, d, e, hq⟩
  exact ⟨a, b, c, d, e, ⟨fun c1 => hm _ _ (hq.1 c1), fun c1 => ⟨(hq.2 c1).1, hm _ _ (hq.2 c1).2⟩⟩⟩
def cs_X11_find : Nat → mo_C := fun j => match j with
  | 0 => (3, false, 118, 50, S_X11_isVersion)
  | 1 => (3, false, 126, 50, S_X11_versionOf)
  | 2 => (3, true, 130, 3, S_X3_search)
  | _ => (0, false, 0, 50, fun _ _ _ => False)
theorem cs_X11_find_ok (g : mo_E) : ∀ j, mo_cok g t_X11_find (cs_X11_find j) ∧ mo_mon (cs_X11_find j) := by
  intro j
  unfold cs_X11_find
  split
  · exact ⟨mo_cokS ct_X11_isVersion (by decide +kernel), m_X11_isVersion⟩
  · exact ⟨mo_cokS ct_X11_versionOf (by decide +kernel), m_X11_versionOf⟩
  · exact ⟨mo_cokV ct_X3_search (by decide) ⟨_, _, rfl⟩ (by decide +kernel), m_X3_search⟩
  · exact ⟨mo_cok0 g _, mo_mon0⟩
set_option maxRecDepth 20000 in
set_option maxHeartbeats 2000000 in
theorem ct_X11_find : mo_ct yX11_find t_X11_find S_X11_find := by
  refine mo_ct_of (by decide) rfl ?_
  rintro g as σ Q ⟨a, b, c, d, rfl, hQ⟩
  refine ⟨Nat.le_of_ble_eq_true rfl, mo_go ok_X11_find (cs_X11_find_ok g) [] 17 ?_⟩
  intro K hK
  refine Exists.intro b (Exists.intro c (Exists.intro d (And.intro rfl (And.intro trivial ?_))))
  refine And.intro (fun (c1 : (mo_bl ((0 ≤ b ∧ b ≤ (999 : Int32)) ∧ (0 ≤ c ∧ c ≤ (999 : Int32)) ∧ (0 ≤ d ∧ d ≤ (999 : Int32)))) = 0) => ?_) (fun (c1 : ¬ (mo_bl ((0 ≤ b ∧ b ≤ (999 : Int32)) ∧ (0 ≤ c ∧ c ≤ (999 : Int32)) ∧ (0 ≤ d ∧ d ≤ (999 : Int32)))) = 0) => ?_)
  · replace c1 : ¬ ((0 ≤ b ∧ b ≤ (999 : Int32)) ∧ (0 ≤ c ∧ c ≤ (999 : Int32)) ∧ (0 ≤ d ∧ d ≤ (999 : Int32))) := mo_bl0.mp c1
    exact (hQ.1 c1)
  · replace c1 : (0 ≤ b ∧ b ≤ (999 : Int32)) ∧ (0 ≤ c ∧ c ≤ (999 : Int32)) ∧ (0 ≤ d ∧ d ≤ (999 : Int32)) := mo_blT c1
    refine Exists.intro b (Exists.intro c (Exists.intro d (And.intro rfl (And.intro trivial ?_))))
    refine Exists.intro a (Exists.intro (b * (1000000 : Int32) + c * (1000 : Int32) + d * (1 : Int32)) (And.intro rfl (And.intro (show mo_le (σ.1 3 0 2) 60 from (hQ.2 c1).1) ?_)))
    exact (hQ.2 c1).2
def S_X12_find : mo_S := fun as σ Q => ∃ a : Int32, ∃ b : Int32, ∃ c : Int32, ∃ d : Int32, as = [.inr (.inr (50, 0)), .inl a, .inl b, .inl c, .inl d] ∧ ((¬ ((0 ≤ b ∧ b ≤ (999 : Int32)) ∧ (0 ≤ c ∧ c ≤ (999 : Int32)) ∧ (0 ≤ d ∧ d ≤ (999 : Int32))) → Q (some (.inl (-1 : Int32))) (σ)) ∧ ((0 ≤ b ∧ b ≤ (999 : Int32)) ∧ (0 ≤ c ∧ c ≤ (999 : Int32)) ∧ (0 ≤ d ∧ d ≤ (999 : Int32)) → ((mo_le (σ.1 50 0 2) 60) ∧ Q (some (.inl (mo_fsI (fun k_ => σ.1 52 0 k_ = a ∧ σ.1 53 0 k_ = ((b * (1000 : Int32) + c) * (1000 : Int32) + d)) (σ.1 50 0 2).toNatClampNeg))) (σ))))
theorem m_X12_find : ∀ (as : List mo_V) (σ : mo_M) (P P' : mo_Q), (∀ x τ, P x τ → P' x τ) → S_X12_find as σ P → S_X12_find as σ P' := by
  rintro as σ P P' hm ⟨a, b, c, d, e, hq⟩
  exact ⟨a, b, c, d, e, ⟨fun c1 => hm _ _ (hq.1 c1), fun c1 => ⟨(hq.2 c1).1, hm _ _ (hq.2 c1).2⟩⟩⟩
def cs_X12_find : Nat → mo_C := fun j => match j with
  | 0 => (3, false, 126, 50, S_X12_areGood)
  | 1 => (3, false, 133, 50, S_X12_versionOf)
  | 2 => (3, true, 137, 12, S_X12_found)
  | _ => (0, false, 0, 50, fun _ _ _ => False)
theorem cs_X12_find_ok (g : mo_E) : ∀ j, mo_cok g t_X12_find (cs_X12_find j) ∧ mo_mon (cs_X12_find j) := by
  intro j
  unfold cs_X12_find
  split
  · exact ⟨mo_cokS ct_X12_areGood (by decide +kernel), m_X12_areGood⟩
  · exact ⟨mo_cokS ct_X12_versionOf (by decide +kernel), m_X12_versionOf⟩
  · exact ⟨mo_cokV ct_X12_found (by decide) ⟨_, _, rfl⟩ (by decide +kernel), m_X12_found⟩
  · exact ⟨mo_cok0 g _, mo_mon0⟩
set_option maxRecDepth 20000 in
set_option maxHeartbeats 2000000 in
theorem ct_X12_find : mo_ct yX12_find t_X12_find S_X12_find := by
  refine mo_ct_of (by decide) rfl ?_
  rintro g as σ Q ⟨a, b, c, d, rfl, hQ⟩
  refine ⟨Nat.le_of_ble_eq_true rfl, mo_go ok_X12_find (cs_X12_find_ok g) [] 16 ?_⟩
  intro K hK
  refine Exists.intro b (Exists.intro c (Exists.intro d (And.intro rfl (And.intro trivial ?_))))
  refine And.intro (fun (c1 : (mo_bl ((0 ≤ b ∧ b ≤ (999 : Int32)) ∧ (0 ≤ c ∧ c ≤ (999 : Int32)) ∧ (0 ≤ d ∧ d ≤ (999 : Int32)))) = 0) => ?_) (fun (c1 : ¬ (mo_bl ((0 ≤ b ∧ b ≤ (999 : Int32)) ∧ (0 ≤ c ∧ c ≤ (999 : Int32)) ∧ (0 ≤ d ∧ d ≤ (999 : Int32)))) = 0) => ?_)
  · replace c1 : ¬ ((0 ≤ b ∧ b ≤ (999 : Int32)) ∧ (0 ≤ c ∧ c ≤ (999 : Int32)) ∧ (0 ≤ d ∧ d ≤ (999 : Int32))) := mo_bl0.mp c1
    exact (hQ.1 c1)
  · replace c1 : (0 ≤ b ∧ b ≤ (999 : Int32)) ∧ (0 ≤ c ∧ c ≤ (999 : Int32)) ∧ (0 ≤ d ∧ d ≤ (999 : Int32)) := mo_blT c1
    refine Exists.intro b (Exists.intro c (Exists.intro d (And.intro rfl (And.intro trivial ?_))))
    refine Exists.intro a (Exists.intro ((b * (1000 : Int32) + c) * (1000 : Int32) + d) (And.intro rfl (And.intro (show mo_le (σ.1 50 0 2) 60 from (hQ.2 c1).1) ?_)))
    exact (hQ.2 c1).2
def S_X11_link : mo_S := fun as σ Q => ∃ a : Int32, ∃ b : Int32, ∃ c : Int32, ∃ d : Int32, as = [.inr (.inr (0, 0)), .inl a, .inl b, .inl c, .inl d] ∧ ((¬ (0 ≤ c ∧ c ≤ (3 : Int32)) → Q (some (.inl (-1 : Int32))) (mo_wI σ 0 0 14 (-1 : Int32))) ∧ (0 ≤ c ∧ c ≤ (3 : Int32) → ((0 ≤ d ∧ d ≤ (10000 : Int32) → ((¬ (0 ≤ a ∧ a < σ.1 3 0 2) → Q (some (.inl (-2 : Int32))) (mo_wI σ 0 0 14 (-2 : Int32))) ∧ (0 ≤ a ∧ a < σ.1 3 0 2 → ((0 ≤ b ∧ b < σ.1 3 0 2 → ((¬ a = b → (((σ.1 6 0 5) < (200 : Int32) → ((vp_in (σ.1 6 0 5) 200) ∧ Q (some (.inl (σ.1 6 0 5 + 1 - 1))) (mo_wI (mo_wI (mo_wI (mo_wI (mo_wI (mo_wI (mo_wI σ 7 0 ((σ.1 6 0 5).toNatClampNeg) a) 8 0 ((σ.1 6 0 5).toNatClampNeg) b) 9 0 ((σ.1 6 0 5).toNatClampNeg) c) 10 0 ((σ.1 6 0 5).toNatClampNeg) d) 11 0 ((σ.1 6 0 5).toNatClampNeg) 10001) 6 0 5 (σ.1 6 0 5 + 1)) 0 0 14 0))) ∧ (¬ (σ.1 6 0 5) < (200 : Int32) → Q (some (.inl (-5 : Int32))) (mo_wI σ 0 0 14 (-5 : Int32))))) ∧ (a = b → Q (some (.inl (-4 : Int32))) (mo_wI σ 0 0 14 (-4 : Int32))))) ∧ (¬ (0 ≤ b ∧ b < σ.1 3 0 2) → Q (some (.inl (-2 : Int32))) (mo_wI σ 0 0 14 (-2 : Int32))))))) ∧ (¬ (0 ≤ d ∧ d ≤ (10000 : Int32)) → Q (some (.inl (-1 : Int32))) (mo_wI σ 0 0 14 (-1 : Int32))))))
theorem m_X11_link : ∀ (as : List mo_V) (σ : mo_M) (P P' : mo_Q), (∀ x τ, P x τ → P' x τ) → S_X11_link as σ P → S_X11_link as σ P' := by
  rintro as σ P P' hm ⟨a, b, c, d, e, hq⟩
  exact ⟨a, b, c, d, e, ⟨fun c1 => hm _ _ (hq.1 c1), fun c1 => ⟨fun c2 => ⟨fun c3 => hm _ _ (((hq.2 c1).1 c2).1 c3), fun c3 => ⟨fun c4 => ⟨fun c5 => ⟨fun c6 => ⟨((((((hq.2 c1).1 c2).2 c3).1 c4).1 c5).1 c6).1, hm _ _ ((((((hq.2 c1).1 c2).2 c3).1 c4).1 c5).1 c6).2⟩, fun c6 => hm _ _ ((((((hq.2 c1).1 c2).2 c3).1 c4).1 c5).2 c6)⟩, fun c5 => hm _ _ (((((hq.2 c1).1 c2).2 c3).1 c4).2 c5)⟩, fun c4 => hm _ _ ((((hq.2 c1).1 c2).2 c3).2 c4)⟩⟩, fun c2 => hm _ _ ((hq.2 c1).2 c2)⟩⟩⟩
def cs_X11_link : Nat → mo_C := fun j => match j with
  | 0 => (2, false, 101, 50, S_X11_isWithin)
  | 1 => (1, false, 137, 50, S_X11_isDay)
  | 2 => (2, true, 105, 11, S_X11_refuse)
  | 3 => (2, true, 140, 11, S_X11_isMake)
  | 4 => (5, true, 144, 2, S_X2_add)
  | 5 => (2, true, 115, 11, S_X11_accept)
  | _ => (0, false, 0, 50, fun _ _ _ => False)
theorem cs_X11_link_ok (g : mo_E) : ∀ j, mo_cok g t_X11_link (cs_X11_link j) ∧ mo_mon (cs_X11_link j) := by
  intro j
  unfold cs_X11_link
  split
  · exact ⟨mo_cokS ct_X11_isWithin (by decide +kernel), m_X11_isWithin⟩
  · exact ⟨mo_cokS ct_X11_isDay (by decide +kernel), m_X11_isDay⟩
  · exact ⟨mo_cokV ct_X11_refuse (by decide) ⟨_, _, rfl⟩ (by decide +kernel), m_X11_refuse⟩
  · exact ⟨mo_cokV ct_X11_isMake (by decide) ⟨_, _, rfl⟩ (by decide +kernel), m_X11_isMake⟩
  · exact ⟨mo_cokV ct_X2_add (by decide) ⟨_, _, rfl⟩ (by decide +kernel), m_X2_add⟩
  · exact ⟨mo_cokV ct_X11_accept (by decide) ⟨_, _, rfl⟩ (by decide +kernel), m_X11_accept⟩
  · exact ⟨mo_cok0 g _, mo_mon0⟩
set_option maxRecDepth 20000 in
set_option maxHeartbeats 2000000 in
theorem ct_X11_link : mo_ct yX11_link t_X11_link S_X11_link := by
  refine mo_ct_of (by decide) rfl ?_
  rintro g as σ Q ⟨a, b, c, d, rfl, hQ⟩
  refine ⟨Nat.le_of_ble_eq_true rfl, mo_go ok_X11_link (cs_X11_link_ok g) [] 50 ?_⟩
  intro K hK
  refine Exists.intro c (Exists.intro (3 : Int32) (And.intro rfl (And.intro trivial ?_)))
  refine And.intro (fun (c1 : (mo_bl (0 ≤ c ∧ c ≤ (3 : Int32))) = 0) => ?_) (fun (c1 : ¬ (mo_bl (0 ≤ c ∧ c ≤ (3 : Int32))) = 0) => ?_)
  · replace c1 : ¬ (0 ≤ c ∧ c ≤ (3 : Int32)) := mo_bl0.mp c1
    refine Exists.intro (-1 : Int32) (And.intro rfl (And.intro trivial ?_))
    exact (hQ.1 c1)
  · replace c1 : 0 ≤ c ∧ c ≤ (3 : Int32) := mo_blT c1
    refine Exists.intro d (And.intro rfl (And.intro trivial ?_))
    refine And.intro (fun (c2 : ¬ (mo_bl (0 ≤ d ∧ d ≤ (10000 : Int32))) = 0) => ?_) (fun (c2 : (mo_bl (0 ≤ d ∧ d ≤ (10000 : Int32))) = 0) => ?_)
    · replace c2 : 0 ≤ d ∧ d ≤ (10000 : Int32) := mo_blT c2
      refine Exists.intro a (And.intro rfl (And.intro trivial ?_))
      refine And.intro (fun (c3 : (mo_bl (0 ≤ a ∧ a < σ.1 3 0 2)) = 0) => ?_) (fun (c3 : ¬ (mo_bl (0 ≤ a ∧ a < σ.1 3 0 2)) = 0) => ?_)
      · replace c3 : ¬ (0 ≤ a ∧ a < σ.1 3 0 2) := mo_bl0.mp c3
        refine Exists.intro (-2 : Int32) (And.intro rfl (And.intro trivial ?_))
        exact (((hQ.2 c1).1 c2).1 c3)
      · replace c3 : 0 ≤ a ∧ a < σ.1 3 0 2 := mo_blT c3
        refine Exists.intro b (And.intro rfl (And.intro trivial ?_))
        refine And.intro (fun (c4 : ¬ (mo_bl (0 ≤ b ∧ b < σ.1 3 0 2)) = 0) => ?_) (fun (c4 : (mo_bl (0 ≤ b ∧ b < σ.1 3 0 2)) = 0) => ?_)
        · replace c4 : 0 ≤ b ∧ b < σ.1 3 0 2 := mo_blT c4
          refine And.intro (fun (c5 : ¬ a = b) => ?_) (fun (c5 : a = b) => ?_)
          · refine And.intro (fun (c6 : (σ.1 6 0 5) < (200 : Int32)) => ?_) (fun (c6 : ¬ (σ.1 6 0 5) < (200 : Int32)) => ?_)
            · refine Exists.intro a (Exists.intro b (Exists.intro c (Exists.intro d (And.intro rfl (And.intro (show vp_in (σ.1 6 0 5) 200 from ((((((hQ.2 c1).1 c2).2 c3).1 c4).1 c5).1 c6).1) ?_)))))
              refine Exists.intro (σ.1 6 0 5 + 1 - 1) (And.intro rfl (And.intro trivial ?_))
              exact ((((((hQ.2 c1).1 c2).2 c3).1 c4).1 c5).1 c6).2
            · refine Exists.intro (-5 : Int32) (And.intro rfl (And.intro trivial ?_))
              exact ((((((hQ.2 c1).1 c2).2 c3).1 c4).1 c5).2 c6)
          · refine Exists.intro (-4 : Int32) (And.intro rfl (And.intro trivial ?_))
            exact (((((hQ.2 c1).1 c2).2 c3).1 c4).2 c5)
        · replace c4 : ¬ (0 ≤ b ∧ b < σ.1 3 0 2) := mo_bl0.mp c4
          refine Exists.intro (-2 : Int32) (And.intro rfl (And.intro trivial ?_))
          exact ((((hQ.2 c1).1 c2).2 c3).2 c4)
    · replace c2 : ¬ (0 ≤ d ∧ d ≤ (10000 : Int32)) := mo_bl0.mp c2
      refine Exists.intro (-1 : Int32) (And.intro rfl (And.intro trivial ?_))
      exact ((hQ.2 c1).2 c2)
def S_X12_link : mo_S := fun as σ Q => ∃ a : Int32, ∃ b : Int32, ∃ c : Int32, ∃ d : Int32, as = [.inr (.inr (50, 0)), .inl a, .inl b, .inl c, .inl d] ∧ ((¬ ((0 : Int32) ≤ c ∧ c ≤ (3 : Int32)) → Q (some (.inl (-1 : Int32))) (mo_wI σ 50 0 0 (if (-1 : Int32) < 0 then (-1 : Int32) else 0))) ∧ ((0 : Int32) ≤ c ∧ c ≤ (3 : Int32) → ((0 ≤ d ∧ d ≤ (10000 : Int32) → ((¬ (0 ≤ a ∧ a ≤ σ.1 50 0 2 - 1) → Q (some (.inl (-2 : Int32))) (mo_wI σ 50 0 0 (if (-2 : Int32) < 0 then (-2 : Int32) else 0))) ∧ (0 ≤ a ∧ a ≤ σ.1 50 0 2 - 1 → ((0 ≤ b ∧ b ≤ σ.1 50 0 2 - 1 → ((¬ a = b → ((¬ (σ.1 50 0 6) = (200 : Int32) → (vp_in (σ.1 50 0 6) 200 ∧ (vp_in (σ.1 50 0 6) 200 ∧ (vp_in (σ.1 50 0 6) 200 ∧ (vp_in (σ.1 50 0 6) 200 ∧ (vp_in (σ.1 50 0 6) 200 ∧ Q (some (.inl ((((σ.1 50 0 6) + (1 : Int32)) - (1 : Int32))))) (mo_wI (mo_wI (mo_wI (mo_wI (mo_wI (mo_wI (mo_wI σ 54 0 ((σ.1 50 0 6).toNatClampNeg) a) 55 0 ((σ.1 50 0 6).toNatClampNeg) b) 56 0 ((σ.1 50 0 6).toNatClampNeg) c) 57 0 ((σ.1 50 0 6).toNatClampNeg) d) 58 0 ((σ.1 50 0 6).toNatClampNeg) (10001 : Int32)) 50 0 6 ((σ.1 50 0 6) + (1 : Int32))) 50 0 0 (if (((σ.1 50 0 6) + (1 : Int32)) - (1 : Int32)) < 0 then (((σ.1 50 0 6) + (1 : Int32)) - (1 : Int32)) else 0)))))))) ∧ ((σ.1 50 0 6) = (200 : Int32) → Q (some (.inl (-5 : Int32))) (mo_wI σ 50 0 0 (if (-5 : Int32) < 0 then (-5 : Int32) else 0))))) ∧ (a = b → Q (some (.inl (-4 : Int32))) (mo_wI σ 50 0 0 (if (-4 : Int32) < 0 then (-4 : Int32) else 0))))) ∧ (¬ (0 ≤ b ∧ b ≤ σ.1 50 0 2 - 1) → Q (some (.inl (-2 : Int32))) (mo_wI σ 50 0 0 (if (-2 : Int32) < 0 then (-2 : Int32) else 0))))))) ∧ (¬ (0 ≤ d ∧ d ≤ (10000 : Int32)) → Q (some (.inl (-1 : Int32))) (mo_wI σ 50 0 0 (if (-1 : Int32) < 0 then (-1 : Int32) else 0))))))
theorem m_X12_link : ∀ (as : List mo_V) (σ : mo_M) (P P' : mo_Q), (∀ x τ, P x τ → P' x τ) → S_X12_link as σ P → S_X12_link as σ P' := by
  rintro as σ P P' hm ⟨a, b, c, d, e, hq⟩
  exact ⟨a, b, c, d, e, ⟨fun c1 => hm _ _ (hq.1 c1), fun c1 => ⟨fun c2 => ⟨fun c3 => hm _ _ (((hq.2 c1).1 c2).1 c3), fun c3 => ⟨fun c4 => ⟨fun c5 => ⟨fun c6 => ⟨((((((hq.2 c1).1 c2).2 c3).1 c4).1 c5).1 c6).1, ⟨((((((hq.2 c1).1 c2).2 c3).1 c4).1 c5).1 c6).2.1, ⟨((((((hq.2 c1).1 c2).2 c3).1 c4).1 c5).1 c6).2.2.1, ⟨((((((hq.2 c1).1 c2).2 c3).1 c4).1 c5).1 c6).2.2.2.1, ⟨((((((hq.2 c1).1 c2).2 c3).1 c4).1 c5).1 c6).2.2.2.2.1, hm _ _ ((((((hq.2 c1).1 c2).2 c3).1 c4).1 c5).1 c6).2.2.2.2.2⟩⟩⟩⟩⟩, fun c6 => hm _ _ ((((((hq.2 c1).1 c2).2 c3).1 c4).1 c5).2 c6)⟩, fun c5 => hm _ _ (((((hq.2 c1).1 c2).2 c3).1 c4).2 c5)⟩, fun c4 => hm _ _ ((((hq.2 c1).1 c2).2 c3).2 c4)⟩⟩, fun c2 => hm _ _ ((hq.2 c1).2 c2)⟩⟩⟩
def cs_X12_link : Nat → mo_C := fun j => match j with
  | 0 => (3, false, 109, 50, S_X12_in)
  | 1 => (1, false, 141, 50, S_X12_isDay)
  | 2 => (2, true, 122, 12, S_X12_ends)
  | 3 => (2, true, 144, 12, S_X12_isMake)
  | _ => (0, false, 0, 50, fun _ _ _ => False)
theorem cs_X12_link_ok (g : mo_E) : ∀ j, mo_cok g t_X12_link (cs_X12_link j) ∧ mo_mon (cs_X12_link j) := by
  intro j
  unfold cs_X12_link
  split
  · exact ⟨mo_cokS ct_X12_in (by decide +kernel), m_X12_in⟩
  · exact ⟨mo_cokS ct_X12_isDay (by decide +kernel), m_X12_isDay⟩
  · exact ⟨mo_cokV ct_X12_ends (by decide) ⟨_, _, rfl⟩ (by decide +kernel), m_X12_ends⟩
  · exact ⟨mo_cokV ct_X12_isMake (by decide) ⟨_, _, rfl⟩ (by decide +kernel), m_X12_isMake⟩
  · exact ⟨mo_cok0 g _, mo_mon0⟩
set_option maxRecDepth 20000 in
set_option maxHeartbeats 2000000 in
theorem ct_X12_link : mo_ct yX12_link t_X12_link S_X12_link := by
  refine mo_ct_of (by decide) rfl ?_
  rintro g as σ Q ⟨a, b, c, d, rfl, hQ⟩
  refine ⟨Nat.le_of_ble_eq_true rfl, mo_go ok_X12_link (cs_X12_link_ok g) [] 83 ?_⟩
  intro K hK
  refine Exists.intro c (Exists.intro (0 : Int32) (Exists.intro (3 : Int32) (And.intro rfl (And.intro trivial ?_))))
  refine And.intro (fun (c1 : (mo_bl ((0 : Int32) ≤ c ∧ c ≤ (3 : Int32))) = 0) => ?_) (fun (c1 : ¬ (mo_bl ((0 : Int32) ≤ c ∧ c ≤ (3 : Int32))) = 0) => ?_)
  · replace c1 : ¬ ((0 : Int32) ≤ c ∧ c ≤ (3 : Int32)) := mo_bl0.mp c1
    refine Exists.intro (-1 : Int32) (And.intro rfl (And.intro trivial ?_))
    exact (hQ.1 c1)
  · replace c1 : (0 : Int32) ≤ c ∧ c ≤ (3 : Int32) := mo_blT c1
    refine Exists.intro d (And.intro rfl (And.intro trivial ?_))
    refine And.intro (fun (c2 : ¬ (mo_bl (0 ≤ d ∧ d ≤ (10000 : Int32))) = 0) => ?_) (fun (c2 : (mo_bl (0 ≤ d ∧ d ≤ (10000 : Int32))) = 0) => ?_)
    · replace c2 : 0 ≤ d ∧ d ≤ (10000 : Int32) := mo_blT c2
      refine Exists.intro a (And.intro rfl (And.intro trivial ?_))
      refine And.intro (fun (c3 : (mo_bl (0 ≤ a ∧ a ≤ σ.1 50 0 2 - 1)) = 0) => ?_) (fun (c3 : ¬ (mo_bl (0 ≤ a ∧ a ≤ σ.1 50 0 2 - 1)) = 0) => ?_)
      · replace c3 : ¬ (0 ≤ a ∧ a ≤ σ.1 50 0 2 - 1) := mo_bl0.mp c3
        refine Exists.intro (-2 : Int32) (And.intro rfl (And.intro trivial ?_))
        exact (((hQ.2 c1).1 c2).1 c3)
      · replace c3 : 0 ≤ a ∧ a ≤ σ.1 50 0 2 - 1 := mo_blT c3
        refine Exists.intro b (And.intro rfl (And.intro trivial ?_))
        refine And.intro (fun (c4 : ¬ (mo_bl (0 ≤ b ∧ b ≤ σ.1 50 0 2 - 1)) = 0) => ?_) (fun (c4 : (mo_bl (0 ≤ b ∧ b ≤ σ.1 50 0 2 - 1)) = 0) => ?_)
        · replace c4 : 0 ≤ b ∧ b ≤ σ.1 50 0 2 - 1 := mo_blT c4
          refine And.intro (fun (c5 : ¬ a = b) => ?_) (fun (c5 : a = b) => ?_)
          · refine And.intro (fun (c6 : ¬ (σ.1 50 0 6) = (200 : Int32)) => ?_) (fun (c6 : (σ.1 50 0 6) = (200 : Int32)) => ?_)
            · refine And.intro (show vp_in (σ.1 50 0 6) 200 from ((((((hQ.2 c1).1 c2).2 c3).1 c4).1 c5).1 c6).1) ?_
              refine And.intro (show vp_in (σ.1 50 0 6) 200 from ((((((hQ.2 c1).1 c2).2 c3).1 c4).1 c5).1 c6).2.1) ?_
              refine And.intro (show vp_in (σ.1 50 0 6) 200 from ((((((hQ.2 c1).1 c2).2 c3).1 c4).1 c5).1 c6).2.2.1) ?_
              refine And.intro (show vp_in (σ.1 50 0 6) 200 from ((((((hQ.2 c1).1 c2).2 c3).1 c4).1 c5).1 c6).2.2.2.1) ?_
              refine And.intro (show vp_in (σ.1 50 0 6) 200 from ((((((hQ.2 c1).1 c2).2 c3).1 c4).1 c5).1 c6).2.2.2.2.1) ?_
              refine Exists.intro (((σ.1 50 0 6) + (1 : Int32)) - (1 : Int32)) (And.intro rfl (And.intro trivial ?_))
              exact ((((((hQ.2 c1).1 c2).2 c3).1 c4).1 c5).1 c6).2.2.2.2.2
            · refine Exists.intro (-5 : Int32) (And.intro rfl (And.intro trivial ?_))
              exact ((((((hQ.2 c1).1 c2).2 c3).1 c4).1 c5).2 c6)
          · refine Exists.intro (-4 : Int32) (And.intro rfl (And.intro trivial ?_))
            exact (((((hQ.2 c1).1 c2).2 c3).1 c4).2 c5)
        · replace c4 : ¬ (0 ≤ b ∧ b ≤ σ.1 50 0 2 - 1) := mo_bl0.mp c4
          refine Exists.intro (-2 : Int32) (And.intro rfl (And.intro trivial ?_))
          exact ((((hQ.2 c1).1 c2).2 c3).2 c4)
    · replace c2 : ¬ (0 ≤ d ∧ d ≤ (10000 : Int32)) := mo_bl0.mp c2
      refine Exists.intro (-1 : Int32) (And.intro rfl (And.intro trivial ?_))
      exact ((hQ.2 c1).2 c2)
def S_X11_cut : mo_S := fun as σ Q => ∃ a : Int32, ∃ b : Int32, as = [.inr (.inr (0, 0)), .inl a, .inl b] ∧ ((0 ≤ b ∧ b ≤ (10000 : Int32) → ((0 ≤ a ∧ a < σ.1 6 0 5 → ((vp_in a 200) ∧ ((¬ (¬ σ.1 11 0 a.toNatClampNeg = (10001 : Int32)) → (vp_in a 200 ∧ Q (some (.inl (0 : Int32))) (mo_wI (mo_wI σ 11 0 a.toNatClampNeg b) 0 0 14 0))) ∧ (¬ σ.1 11 0 a.toNatClampNeg = (10001 : Int32) → Q (some (.inl (-4 : Int32))) (mo_wI σ 0 0 14 (-4 : Int32)))))) ∧ (¬ (0 ≤ a ∧ a < σ.1 6 0 5) → Q (some (.inl (-2 : Int32))) (mo_wI σ 0 0 14 (-2 : Int32))))) ∧ (¬ (0 ≤ b ∧ b ≤ (10000 : Int32)) → Q (some (.inl (-1 : Int32))) (mo_wI σ 0 0 14 (-1 : Int32))))
theorem m_X11_cut : ∀ (as : List mo_V) (σ : mo_M) (P P' : mo_Q), (∀ x τ, P x τ → P' x τ) → S_X11_cut as σ P → S_X11_cut as σ P' := by
  rintro as σ P P' hm ⟨a, b, e, hq⟩
  exact ⟨a, b, e, ⟨fun c1 => ⟨fun c2 => ⟨((hq.1 c1).1 c2).1, ⟨fun c3 => ⟨(((hq.1 c1).1 c2).2.1 c3).1, hm _ _ (((hq.1 c1).1 c2).2.1 c3).2⟩, fun c3 => hm _ _ (((hq.1 c1).1 c2).2.2 c3)⟩⟩, fun c2 => hm _ _ ((hq.1 c1).2 c2)⟩, fun c1 => hm _ _ (hq.2 c1)⟩⟩
def cs_X11_cut : Nat → mo_C := fun j => match j with
  | 0 => (1, false, 137, 50, S_X11_isDay)
  | 1 => (2, true, 105, 11, S_X11_refuse)
  | 2 => (2, true, 147, 11, S_X11_isLink)
  | 3 => (2, true, 150, 2, S_X2_isCut)
  | 4 => (2, true, 115, 11, S_X11_accept)
  | _ => (0, false, 0, 50, fun _ _ _ => False)
theorem cs_X11_cut_ok (g : mo_E) : ∀ j, mo_cok g t_X11_cut (cs_X11_cut j) ∧ mo_mon (cs_X11_cut j) := by
  intro j
  unfold cs_X11_cut
  split
  · exact ⟨mo_cokS ct_X11_isDay (by decide +kernel), m_X11_isDay⟩
  · exact ⟨mo_cokV ct_X11_refuse (by decide) ⟨_, _, rfl⟩ (by decide +kernel), m_X11_refuse⟩
  · exact ⟨mo_cokV ct_X11_isLink (by decide) ⟨_, _, rfl⟩ (by decide +kernel), m_X11_isLink⟩
  · exact ⟨mo_cokV ct_X2_isCut (by decide) ⟨_, _, rfl⟩ (by decide +kernel), m_X2_isCut⟩
  · exact ⟨mo_cokV ct_X11_accept (by decide) ⟨_, _, rfl⟩ (by decide +kernel), m_X11_accept⟩
  · exact ⟨mo_cok0 g _, mo_mon0⟩
set_option maxRecDepth 20000 in
set_option maxHeartbeats 2000000 in
theorem ct_X11_cut : mo_ct yX11_cut t_X11_cut S_X11_cut := by
  refine mo_ct_of (by decide) rfl ?_
  rintro g as σ Q ⟨a, b, rfl, hQ⟩
  refine ⟨Nat.le_of_ble_eq_true rfl, mo_go ok_X11_cut (cs_X11_cut_ok g) [] 35 ?_⟩
  intro K hK
  refine Exists.intro b (And.intro rfl (And.intro trivial ?_))
  refine And.intro (fun (c1 : ¬ (mo_bl (0 ≤ b ∧ b ≤ (10000 : Int32))) = 0) => ?_) (fun (c1 : (mo_bl (0 ≤ b ∧ b ≤ (10000 : Int32))) = 0) => ?_)
  · replace c1 : 0 ≤ b ∧ b ≤ (10000 : Int32) := mo_blT c1
    refine Exists.intro a (And.intro rfl (And.intro trivial ?_))
    refine And.intro (fun (c2 : ¬ (mo_bl (0 ≤ a ∧ a < σ.1 6 0 5)) = 0) => ?_) (fun (c2 : (mo_bl (0 ≤ a ∧ a < σ.1 6 0 5)) = 0) => ?_)
    · replace c2 : 0 ≤ a ∧ a < σ.1 6 0 5 := mo_blT c2
      refine Exists.intro a (And.intro rfl (And.intro (show vp_in a 200 from ((hQ.1 c1).1 c2).1) ?_))
      refine And.intro (fun (c3 : (mo_bl (¬ σ.1 11 0 a.toNatClampNeg = (10001 : Int32))) = 0) => ?_) (fun (c3 : ¬ (mo_bl (¬ σ.1 11 0 a.toNatClampNeg = (10001 : Int32))) = 0) => ?_)
      · replace c3 : ¬ (¬ σ.1 11 0 a.toNatClampNeg = (10001 : Int32)) := mo_bl0.mp c3
        refine And.intro (show vp_in a 200 from (((hQ.1 c1).1 c2).2.1 c3).1) ?_
        refine Exists.intro (0 : Int32) (And.intro rfl (And.intro trivial ?_))
        exact (((hQ.1 c1).1 c2).2.1 c3).2
      · replace c3 : ¬ σ.1 11 0 a.toNatClampNeg = (10001 : Int32) := mo_blT c3
        refine Exists.intro (-4 : Int32) (And.intro rfl (And.intro trivial ?_))
        exact (((hQ.1 c1).1 c2).2.2 c3)
    · replace c2 : ¬ (0 ≤ a ∧ a < σ.1 6 0 5) := mo_bl0.mp c2
      refine Exists.intro (-2 : Int32) (And.intro rfl (And.intro trivial ?_))
      exact ((hQ.1 c1).2 c2)
  · replace c1 : ¬ (0 ≤ b ∧ b ≤ (10000 : Int32)) := mo_bl0.mp c1
    refine Exists.intro (-1 : Int32) (And.intro rfl (And.intro trivial ?_))
    exact (hQ.2 c1)
def S_X12_cut : mo_S := fun as σ Q => ∃ a : Int32, ∃ b : Int32, as = [.inr (.inr (50, 0)), .inl a, .inl b] ∧ ((0 ≤ b ∧ b ≤ (10000 : Int32) → (((0 : Int32) ≤ a ∧ a ≤ ((σ.1 50 0 6) - (1 : Int32)) → (vp_in a 200 ∧ (((10000 : Int32) < (σ.1 58 0 a.toNatClampNeg) → (vp_in a 200 ∧ Q (some (.inl (0 : Int32))) (mo_wI (mo_wI σ 58 0 a.toNatClampNeg b) 50 0 0 (if (0 : Int32) < 0 then (0 : Int32) else 0)))) ∧ (¬ (10000 : Int32) < (σ.1 58 0 a.toNatClampNeg) → Q (some (.inl (-4 : Int32))) (mo_wI σ 50 0 0 (if (-4 : Int32) < 0 then (-4 : Int32) else 0)))))) ∧ (¬ ((0 : Int32) ≤ a ∧ a ≤ ((σ.1 50 0 6) - (1 : Int32))) → Q (some (.inl (-2 : Int32))) (mo_wI σ 50 0 0 (if (-2 : Int32) < 0 then (-2 : Int32) else 0))))) ∧ (¬ (0 ≤ b ∧ b ≤ (10000 : Int32)) → Q (some (.inl (-1 : Int32))) (mo_wI σ 50 0 0 (if (-1 : Int32) < 0 then (-1 : Int32) else 0))))
theorem m_X12_cut : ∀ (as : List mo_V) (σ : mo_M) (P P' : mo_Q), (∀ x τ, P x τ → P' x τ) → S_X12_cut as σ P → S_X12_cut as σ P' := by
  rintro as σ P P' hm ⟨a, b, e, hq⟩
  exact ⟨a, b, e, ⟨fun c1 => ⟨fun c2 => ⟨((hq.1 c1).1 c2).1, ⟨fun c3 => ⟨(((hq.1 c1).1 c2).2.1 c3).1, hm _ _ (((hq.1 c1).1 c2).2.1 c3).2⟩, fun c3 => hm _ _ (((hq.1 c1).1 c2).2.2 c3)⟩⟩, fun c2 => hm _ _ ((hq.1 c1).2 c2)⟩, fun c1 => hm _ _ (hq.2 c1)⟩⟩
def cs_X12_cut : Nat → mo_C := fun j => match j with
  | 0 => (1, false, 141, 50, S_X12_isDay)
  | 1 => (2, true, 122, 12, S_X12_ends)
  | 2 => (3, false, 109, 50, S_X12_in)
  | _ => (0, false, 0, 50, fun _ _ _ => False)
theorem cs_X12_cut_ok (g : mo_E) : ∀ j, mo_cok g t_X12_cut (cs_X12_cut j) ∧ mo_mon (cs_X12_cut j) := by
  intro j
  unfold cs_X12_cut
  split
  · exact ⟨mo_cokS ct_X12_isDay (by decide +kernel), m_X12_isDay⟩
  · exact ⟨mo_cokV ct_X12_ends (by decide) ⟨_, _, rfl⟩ (by decide +kernel), m_X12_ends⟩
  · exact ⟨mo_cokS ct_X12_in (by decide +kernel), m_X12_in⟩
  · exact ⟨mo_cok0 g _, mo_mon0⟩
set_option maxRecDepth 20000 in
set_option maxHeartbeats 2000000 in
theorem ct_X12_cut : mo_ct yX12_cut t_X12_cut S_X12_cut := by
  refine mo_ct_of (by decide) rfl ?_
  rintro g as σ Q ⟨a, b, rfl, hQ⟩
  refine ⟨Nat.le_of_ble_eq_true rfl, mo_go ok_X12_cut (cs_X12_cut_ok g) [] 39 ?_⟩
  intro K hK
  refine Exists.intro b (And.intro rfl (And.intro trivial ?_))
  refine And.intro (fun (c1 : ¬ (mo_bl (0 ≤ b ∧ b ≤ (10000 : Int32))) = 0) => ?_) (fun (c1 : (mo_bl (0 ≤ b ∧ b ≤ (10000 : Int32))) = 0) => ?_)
  · replace c1 : 0 ≤ b ∧ b ≤ (10000 : Int32) := mo_blT c1
    refine Exists.intro a (Exists.intro (0 : Int32) (Exists.intro ((σ.1 50 0 6) - (1 : Int32)) (And.intro rfl (And.intro trivial ?_))))
    refine And.intro (fun (c2 : ¬ (mo_bl ((0 : Int32) ≤ a ∧ a ≤ ((σ.1 50 0 6) - (1 : Int32)))) = 0) => ?_) (fun (c2 : (mo_bl ((0 : Int32) ≤ a ∧ a ≤ ((σ.1 50 0 6) - (1 : Int32)))) = 0) => ?_)
    · replace c2 : (0 : Int32) ≤ a ∧ a ≤ ((σ.1 50 0 6) - (1 : Int32)) := mo_blT c2
      refine And.intro (show vp_in a 200 from ((hQ.1 c1).1 c2).1) ?_
      refine And.intro (fun (c3 : (10000 : Int32) < (σ.1 58 0 a.toNatClampNeg)) => ?_) (fun (c3 : ¬ (10000 : Int32) < (σ.1 58 0 a.toNatClampNeg)) => ?_)
      · refine And.intro (show vp_in a 200 from (((hQ.1 c1).1 c2).2.1 c3).1) ?_
        refine Exists.intro (0 : Int32) (And.intro rfl (And.intro trivial ?_))
        exact (((hQ.1 c1).1 c2).2.1 c3).2
      · refine Exists.intro (-4 : Int32) (And.intro rfl (And.intro trivial ?_))
        exact (((hQ.1 c1).1 c2).2.2 c3)
    · replace c2 : ¬ ((0 : Int32) ≤ a ∧ a ≤ ((σ.1 50 0 6) - (1 : Int32))) := mo_bl0.mp c2
      refine Exists.intro (-2 : Int32) (And.intro rfl (And.intro trivial ?_))
      exact ((hQ.1 c1).2 c2)
  · replace c1 : ¬ (0 ≤ b ∧ b ≤ (10000 : Int32)) := mo_bl0.mp c1
    refine Exists.intro (-1 : Int32) (And.intro rfl (And.intro trivial ?_))
    exact (hQ.2 c1)
def S_X11_counts : mo_S := fun as σ Q => ∃ a : Int32, ∃ b : Int32, as = [.inr (.inr (0, 0)), .inl a, .inl b] ∧ ((¬ (0 ≤ a ∧ a < σ.1 6 0 5) → Q (some (.inl (-1 : Int32))) (σ)) ∧ (0 ≤ a ∧ a < σ.1 6 0 5 → ((0 ≤ b ∧ b ≤ (10000 : Int32) → ((vp_in a 200) ∧ ((¬ (σ.1 10 0 a.toNatClampNeg ≤ b ∧ b < σ.1 11 0 a.toNatClampNeg) → Q (some (.inl (0 : Int32))) (σ)) ∧ (σ.1 10 0 a.toNatClampNeg ≤ b ∧ b < σ.1 11 0 a.toNatClampNeg → Q (some (.inl (1 : Int32))) (σ))))) ∧ (¬ (0 ≤ b ∧ b ≤ (10000 : Int32)) → Q (some (.inl (-1 : Int32))) (σ)))))
theorem m_X11_counts : ∀ (as : List mo_V) (σ : mo_M) (P P' : mo_Q), (∀ x τ, P x τ → P' x τ) → S_X11_counts as σ P → S_X11_counts as σ P' := by
  rintro as σ P P' hm ⟨a, b, e, hq⟩
  exact ⟨a, b, e, ⟨fun c1 => hm _ _ (hq.1 c1), fun c1 => ⟨fun c2 => ⟨((hq.2 c1).1 c2).1, ⟨fun c3 => hm _ _ (((hq.2 c1).1 c2).2.1 c3), fun c3 => hm _ _ (((hq.2 c1).1 c2).2.2 c3)⟩⟩, fun c2 => hm _ _ ((hq.2 c1).2 c2)⟩⟩⟩
def cs_X11_counts : Nat → mo_C := fun j => match j with
  | 0 => (2, true, 147, 11, S_X11_isLink)
  | 1 => (1, false, 137, 50, S_X11_isDay)
  | 2 => (3, true, 157, 2, S_X2_isLive)
  | _ => (0, false, 0, 50, fun _ _ _ => False)
theorem cs_X11_counts_ok (g : mo_E) : ∀ j, mo_cok g t_X11_counts (cs_X11_counts j) ∧ mo_mon (cs_X11_counts j) := by
  intro j
  unfold cs_X11_counts
  split
  · exact ⟨mo_cokV ct_X11_isLink (by decide) ⟨_, _, rfl⟩ (by decide +kernel), m_X11_isLink⟩
  · exact ⟨mo_cokS ct_X11_isDay (by decide +kernel), m_X11_isDay⟩
  · exact ⟨mo_cokV ct_X2_isLive (by decide) ⟨_, _, rfl⟩ (by decide +kernel), m_X2_isLive⟩
  · exact ⟨mo_cok0 g _, mo_mon0⟩
set_option maxRecDepth 20000 in
set_option maxHeartbeats 2000000 in
theorem ct_X11_counts : mo_ct yX11_counts t_X11_counts S_X11_counts := by
  refine mo_ct_of (by decide) rfl ?_
  rintro g as σ Q ⟨a, b, rfl, hQ⟩
  refine ⟨Nat.le_of_ble_eq_true rfl, mo_go ok_X11_counts (cs_X11_counts_ok g) [] 20 ?_⟩
  intro K hK
  refine Exists.intro a (And.intro rfl (And.intro trivial ?_))
  refine And.intro (fun (c1 : (mo_bl (0 ≤ a ∧ a < σ.1 6 0 5)) = 0) => ?_) (fun (c1 : ¬ (mo_bl (0 ≤ a ∧ a < σ.1 6 0 5)) = 0) => ?_)
  · replace c1 : ¬ (0 ≤ a ∧ a < σ.1 6 0 5) := mo_bl0.mp c1
    exact (hQ.1 c1)
  · replace c1 : 0 ≤ a ∧ a < σ.1 6 0 5 := mo_blT c1
    refine Exists.intro b (And.intro rfl (And.intro trivial ?_))
    refine And.intro (fun (c2 : ¬ (mo_bl (0 ≤ b ∧ b ≤ (10000 : Int32))) = 0) => ?_) (fun (c2 : (mo_bl (0 ≤ b ∧ b ≤ (10000 : Int32))) = 0) => ?_)
    · replace c2 : 0 ≤ b ∧ b ≤ (10000 : Int32) := mo_blT c2
      refine Exists.intro a (Exists.intro b (And.intro rfl (And.intro (show vp_in a 200 from ((hQ.2 c1).1 c2).1) ?_)))
      refine And.intro (fun (c3 : (mo_bl (σ.1 10 0 a.toNatClampNeg ≤ b ∧ b < σ.1 11 0 a.toNatClampNeg)) = 0) => ?_) (fun (c3 : ¬ (mo_bl (σ.1 10 0 a.toNatClampNeg ≤ b ∧ b < σ.1 11 0 a.toNatClampNeg)) = 0) => ?_)
      · replace c3 : ¬ (σ.1 10 0 a.toNatClampNeg ≤ b ∧ b < σ.1 11 0 a.toNatClampNeg) := mo_bl0.mp c3
        exact (((hQ.2 c1).1 c2).2.1 c3)
      · replace c3 : σ.1 10 0 a.toNatClampNeg ≤ b ∧ b < σ.1 11 0 a.toNatClampNeg := mo_blT c3
        exact (((hQ.2 c1).1 c2).2.2 c3)
    · replace c2 : ¬ (0 ≤ b ∧ b ≤ (10000 : Int32)) := mo_bl0.mp c2
      exact ((hQ.2 c1).2 c2)
def S_X12_counts : mo_S := fun as σ Q => ∃ a : Int32, ∃ b : Int32, as = [.inr (.inr (50, 0)), .inl a, .inl b] ∧ ((¬ ((0 : Int32) ≤ a ∧ a ≤ ((σ.1 50 0 6) - (1 : Int32))) → Q (some (.inl (-1 : Int32))) (σ)) ∧ ((0 : Int32) ≤ a ∧ a ≤ ((σ.1 50 0 6) - (1 : Int32)) → ((0 ≤ b ∧ b ≤ (10000 : Int32) → ((vp_in a 200) ∧ ((¬ (σ.1 57 0 a.toNatClampNeg ≤ b ∧ b < σ.1 58 0 a.toNatClampNeg) → Q (some (.inl (0 : Int32))) (σ)) ∧ (σ.1 57 0 a.toNatClampNeg ≤ b ∧ b < σ.1 58 0 a.toNatClampNeg → Q (some (.inl (1 : Int32))) (σ))))) ∧ (¬ (0 ≤ b ∧ b ≤ (10000 : Int32)) → Q (some (.inl (-1 : Int32))) (σ)))))
theorem m_X12_counts : ∀ (as : List mo_V) (σ : mo_M) (P P' : mo_Q), (∀ x τ, P x τ → P' x τ) → S_X12_counts as σ P → S_X12_counts as σ P' := by
  rintro as σ P P' hm ⟨a, b, e, hq⟩
  exact ⟨a, b, e, ⟨fun c1 => hm _ _ (hq.1 c1), fun c1 => ⟨fun c2 => ⟨((hq.2 c1).1 c2).1, ⟨fun c3 => hm _ _ (((hq.2 c1).1 c2).2.1 c3), fun c3 => hm _ _ (((hq.2 c1).1 c2).2.2 c3)⟩⟩, fun c2 => hm _ _ ((hq.2 c1).2 c2)⟩⟩⟩
def cs_X12_counts : Nat → mo_C := fun j => match j with
  | 0 => (3, false, 109, 50, S_X12_in)
  | 1 => (1, false, 141, 50, S_X12_isDay)
  | 2 => (3, true, 150, 12, S_X12_is)
  | _ => (0, false, 0, 50, fun _ _ _ => False)
theorem cs_X12_counts_ok (g : mo_E) : ∀ j, mo_cok g t_X12_counts (cs_X12_counts j) ∧ mo_mon (cs_X12_counts j) := by
  intro j
  unfold cs_X12_counts
  split
  · exact ⟨mo_cokS ct_X12_in (by decide +kernel), m_X12_in⟩
  · exact ⟨mo_cokS ct_X12_isDay (by decide +kernel), m_X12_isDay⟩
  · exact ⟨mo_cokV ct_X12_is (by decide) ⟨_, _, rfl⟩ (by decide +kernel), m_X12_is⟩
  · exact ⟨mo_cok0 g _, mo_mon0⟩
set_option maxRecDepth 20000 in
set_option maxHeartbeats 2000000 in
theorem ct_X12_counts : mo_ct yX12_counts t_X12_counts S_X12_counts := by
  refine mo_ct_of (by decide) rfl ?_
  rintro g as σ Q ⟨a, b, rfl, hQ⟩
  refine ⟨Nat.le_of_ble_eq_true rfl, mo_go ok_X12_counts (cs_X12_counts_ok g) [] 23 ?_⟩
  intro K hK
  refine Exists.intro a (Exists.intro (0 : Int32) (Exists.intro ((σ.1 50 0 6) - (1 : Int32)) (And.intro rfl (And.intro trivial ?_))))
  refine And.intro (fun (c1 : (mo_bl ((0 : Int32) ≤ a ∧ a ≤ ((σ.1 50 0 6) - (1 : Int32)))) = 0) => ?_) (fun (c1 : ¬ (mo_bl ((0 : Int32) ≤ a ∧ a ≤ ((σ.1 50 0 6) - (1 : Int32)))) = 0) => ?_)
  · replace c1 : ¬ ((0 : Int32) ≤ a ∧ a ≤ ((σ.1 50 0 6) - (1 : Int32))) := mo_bl0.mp c1
    exact (hQ.1 c1)
  · replace c1 : (0 : Int32) ≤ a ∧ a ≤ ((σ.1 50 0 6) - (1 : Int32)) := mo_blT c1
    refine Exists.intro b (And.intro rfl (And.intro trivial ?_))
    refine And.intro (fun (c2 : ¬ (mo_bl (0 ≤ b ∧ b ≤ (10000 : Int32))) = 0) => ?_) (fun (c2 : (mo_bl (0 ≤ b ∧ b ≤ (10000 : Int32))) = 0) => ?_)
    · replace c2 : 0 ≤ b ∧ b ≤ (10000 : Int32) := mo_blT c2
      refine Exists.intro a (Exists.intro b (And.intro rfl (And.intro (show vp_in a 200 from ((hQ.2 c1).1 c2).1) ?_)))
      refine And.intro (fun (c3 : (mo_bl (σ.1 57 0 a.toNatClampNeg ≤ b ∧ b < σ.1 58 0 a.toNatClampNeg)) = 0) => ?_) (fun (c3 : ¬ (mo_bl (σ.1 57 0 a.toNatClampNeg ≤ b ∧ b < σ.1 58 0 a.toNatClampNeg)) = 0) => ?_)
      · replace c3 : ¬ (σ.1 57 0 a.toNatClampNeg ≤ b ∧ b < σ.1 58 0 a.toNatClampNeg) := mo_bl0.mp c3
        exact (((hQ.2 c1).1 c2).2.1 c3)
      · replace c3 : σ.1 57 0 a.toNatClampNeg ≤ b ∧ b < σ.1 58 0 a.toNatClampNeg := mo_blT c3
        exact (((hQ.2 c1).1 c2).2.2 c3)
    · replace c2 : ¬ (0 ≤ b ∧ b ≤ (10000 : Int32)) := mo_bl0.mp c2
      exact ((hQ.2 c1).2 c2)
def S_X11_hold : mo_S := fun as σ Q => ∃ a : Int32, ∃ b : Int32, ∃ c : Int32, ∃ d : Int32, ∃ f : Int32, as = [.inr (.inr (0, 0)), .inl a, .inl b, .inl c, .inl d, .inl f] ∧ ((¬ (0 ≤ a ∧ a ≤ (29 : Int32)) → Q (some (.inl (-1 : Int32))) (mo_wI σ 0 0 14 (-1 : Int32))) ∧ (0 ≤ a ∧ a ≤ (29 : Int32) → ((¬ (0 ≤ c ∧ c ≤ (10000 : Int32)) → Q (some (.inl (-1 : Int32))) (mo_wI σ 0 0 14 (-1 : Int32))) ∧ (0 ≤ c ∧ c ≤ (10000 : Int32) → ((¬ (0 ≤ d ∧ d ≤ (10000 : Int32)) → Q (some (.inl (-1 : Int32))) (mo_wI σ 0 0 14 (-1 : Int32))) ∧ (0 ≤ d ∧ d ≤ (10000 : Int32) → ((¬ (0 ≤ f ∧ f ≤ (10000 : Int32)) → Q (some (.inl (-1 : Int32))) (mo_wI σ 0 0 14 (-1 : Int32))) ∧ (0 ≤ f ∧ f ≤ (10000 : Int32) → ((c ≤ d → ((0 ≤ b ∧ b < σ.1 3 0 2 → (((σ.1 12 0 5) < (100 : Int32) → ((vp_in (σ.1 12 0 5) 100) ∧ Q (some (.inl (σ.1 12 0 5 + 1))) (mo_wI (mo_wI (mo_wI (mo_wI (mo_wI (mo_wI (mo_wI σ 13 0 ((σ.1 12 0 5).toNatClampNeg) a) 14 0 ((σ.1 12 0 5).toNatClampNeg) b) 15 0 ((σ.1 12 0 5).toNatClampNeg) c) 16 0 ((σ.1 12 0 5).toNatClampNeg) d) 17 0 ((σ.1 12 0 5).toNatClampNeg) f) 12 0 5 (σ.1 12 0 5 + 1)) 0 0 14 0))) ∧ (¬ (σ.1 12 0 5) < (100 : Int32) → Q (some (.inl (-5 : Int32))) (mo_wI σ 0 0 14 (-5 : Int32))))) ∧ (¬ (0 ≤ b ∧ b < σ.1 3 0 2) → Q (some (.inl (-2 : Int32))) (mo_wI σ 0 0 14 (-2 : Int32))))) ∧ (¬ c ≤ d → Q (some (.inl (-1 : Int32))) (mo_wI σ 0 0 14 (-1 : Int32))))))))))))
theorem m_X11_hold : ∀ (as : List mo_V) (σ : mo_M) (P P' : mo_Q), (∀ x τ, P x τ → P' x τ) → S_X11_hold as σ P → S_X11_hold as σ P' := by
  rintro as σ P P' hm ⟨a, b, c, d, f, e, hq⟩
  exact ⟨a, b, c, d, f, e, ⟨fun c1 => hm _ _ (hq.1 c1), fun c1 => ⟨fun c2 => hm _ _ ((hq.2 c1).1 c2), fun c2 => ⟨fun c3 => hm _ _ (((hq.2 c1).2 c2).1 c3), fun c3 => ⟨fun c4 => hm _ _ ((((hq.2 c1).2 c2).2 c3).1 c4), fun c4 => ⟨fun c5 => ⟨fun c6 => ⟨fun c7 => ⟨(((((((hq.2 c1).2 c2).2 c3).2 c4).1 c5).1 c6).1 c7).1, hm _ _ (((((((hq.2 c1).2 c2).2 c3).2 c4).1 c5).1 c6).1 c7).2⟩, fun c7 => hm _ _ (((((((hq.2 c1).2 c2).2 c3).2 c4).1 c5).1 c6).2 c7)⟩, fun c6 => hm _ _ ((((((hq.2 c1).2 c2).2 c3).2 c4).1 c5).2 c6)⟩, fun c5 => hm _ _ (((((hq.2 c1).2 c2).2 c3).2 c4).2 c5)⟩⟩⟩⟩⟩⟩
def cs_X11_hold : Nat → mo_C := fun j => match j with
  | 0 => (2, false, 101, 50, S_X11_isWithin)
  | 1 => (1, false, 137, 50, S_X11_isDay)
  | 2 => (2, true, 105, 11, S_X11_refuse)
  | 3 => (2, true, 140, 11, S_X11_isMake)
  | 4 => (6, true, 161, 1, S_X1_add)
  | 5 => (2, true, 115, 11, S_X11_accept)
  | _ => (0, false, 0, 50, fun _ _ _ => False)
theorem cs_X11_hold_ok (g : mo_E) : ∀ j, mo_cok g t_X11_hold (cs_X11_hold j) ∧ mo_mon (cs_X11_hold j) := by
  intro j
  unfold cs_X11_hold
  split
  · exact ⟨mo_cokS ct_X11_isWithin (by decide +kernel), m_X11_isWithin⟩
  · exact ⟨mo_cokS ct_X11_isDay (by decide +kernel), m_X11_isDay⟩
  · exact ⟨mo_cokV ct_X11_refuse (by decide) ⟨_, _, rfl⟩ (by decide +kernel), m_X11_refuse⟩
  · exact ⟨mo_cokV ct_X11_isMake (by decide) ⟨_, _, rfl⟩ (by decide +kernel), m_X11_isMake⟩
  · exact ⟨mo_cokV ct_X1_add (by decide) ⟨_, _, rfl⟩ (by decide +kernel), m_X1_add⟩
  · exact ⟨mo_cokV ct_X11_accept (by decide) ⟨_, _, rfl⟩ (by decide +kernel), m_X11_accept⟩
  · exact ⟨mo_cok0 g _, mo_mon0⟩
set_option maxRecDepth 20000 in
set_option maxHeartbeats 2000000 in
theorem ct_X11_hold : mo_ct yX11_hold t_X11_hold S_X11_hold := by
  refine mo_ct_of (by decide) rfl ?_
  rintro g as σ Q ⟨a, b, c, d, f, rfl, hQ⟩
  refine ⟨Nat.le_of_ble_eq_true rfl, mo_go ok_X11_hold (cs_X11_hold_ok g) [] 49 ?_⟩
  intro K hK
  refine Exists.intro a (Exists.intro (29 : Int32) (And.intro rfl (And.intro trivial ?_)))
  refine And.intro (fun (c1 : (mo_bl (0 ≤ a ∧ a ≤ (29 : Int32))) = 0) => ?_) (fun (c1 : ¬ (mo_bl (0 ≤ a ∧ a ≤ (29 : Int32))) = 0) => ?_)
  · replace c1 : ¬ (0 ≤ a ∧ a ≤ (29 : Int32)) := mo_bl0.mp c1
    refine Exists.intro (-1 : Int32) (And.intro rfl (And.intro trivial ?_))
    exact (hQ.1 c1)
  · replace c1 : 0 ≤ a ∧ a ≤ (29 : Int32) := mo_blT c1
    refine Exists.intro c (And.intro rfl (And.intro trivial ?_))
    refine And.intro (fun (c2 : (mo_bl (0 ≤ c ∧ c ≤ (10000 : Int32))) = 0) => ?_) (fun (c2 : ¬ (mo_bl (0 ≤ c ∧ c ≤ (10000 : Int32))) = 0) => ?_)
    · replace c2 : ¬ (0 ≤ c ∧ c ≤ (10000 : Int32)) := mo_bl0.mp c2
      refine Exists.intro (-1 : Int32) (And.intro rfl (And.intro trivial ?_))
      exact ((hQ.2 c1).1 c2)
    · replace c2 : 0 ≤ c ∧ c ≤ (10000 : Int32) := mo_blT c2
      refine Exists.intro d (And.intro rfl (And.intro trivial ?_))
      refine And.intro (fun (c3 : (mo_bl (0 ≤ d ∧ d ≤ (10000 : Int32))) = 0) => ?_) (fun (c3 : ¬ (mo_bl (0 ≤ d ∧ d ≤ (10000 : Int32))) = 0) => ?_)
      · replace c3 : ¬ (0 ≤ d ∧ d ≤ (10000 : Int32)) := mo_bl0.mp c3
        refine Exists.intro (-1 : Int32) (And.intro rfl (And.intro trivial ?_))
        exact (((hQ.2 c1).2 c2).1 c3)
      · replace c3 : 0 ≤ d ∧ d ≤ (10000 : Int32) := mo_blT c3
        refine Exists.intro f (And.intro rfl (And.intro trivial ?_))
        refine And.intro (fun (c4 : (mo_bl (0 ≤ f ∧ f ≤ (10000 : Int32))) = 0) => ?_) (fun (c4 : ¬ (mo_bl (0 ≤ f ∧ f ≤ (10000 : Int32))) = 0) => ?_)
        · replace c4 : ¬ (0 ≤ f ∧ f ≤ (10000 : Int32)) := mo_bl0.mp c4
          refine Exists.intro (-1 : Int32) (And.intro rfl (And.intro trivial ?_))
          exact ((((hQ.2 c1).2 c2).2 c3).1 c4)
        · replace c4 : 0 ≤ f ∧ f ≤ (10000 : Int32) := mo_blT c4
          refine And.intro (fun (c5 : c ≤ d) => ?_) (fun (c5 : ¬ c ≤ d) => ?_)
          · refine Exists.intro b (And.intro rfl (And.intro trivial ?_))
            refine And.intro (fun (c6 : ¬ (mo_bl (0 ≤ b ∧ b < σ.1 3 0 2)) = 0) => ?_) (fun (c6 : (mo_bl (0 ≤ b ∧ b < σ.1 3 0 2)) = 0) => ?_)
            · replace c6 : 0 ≤ b ∧ b < σ.1 3 0 2 := mo_blT c6
              refine And.intro (fun (c7 : (σ.1 12 0 5) < (100 : Int32)) => ?_) (fun (c7 : ¬ (σ.1 12 0 5) < (100 : Int32)) => ?_)
              · refine Exists.intro a (Exists.intro b (Exists.intro c (Exists.intro d (Exists.intro f (And.intro rfl (And.intro (show vp_in (σ.1 12 0 5) 100 from (((((((hQ.2 c1).2 c2).2 c3).2 c4).1 c5).1 c6).1 c7).1) ?_))))))
                refine Exists.intro (σ.1 12 0 5 + 1) (And.intro rfl (And.intro trivial ?_))
                exact (((((((hQ.2 c1).2 c2).2 c3).2 c4).1 c5).1 c6).1 c7).2
              · refine Exists.intro (-5 : Int32) (And.intro rfl (And.intro trivial ?_))
                exact (((((((hQ.2 c1).2 c2).2 c3).2 c4).1 c5).1 c6).2 c7)
            · replace c6 : ¬ (0 ≤ b ∧ b < σ.1 3 0 2) := mo_bl0.mp c6
              refine Exists.intro (-2 : Int32) (And.intro rfl (And.intro trivial ?_))
              exact ((((((hQ.2 c1).2 c2).2 c3).2 c4).1 c5).2 c6)
          · refine Exists.intro (-1 : Int32) (And.intro rfl (And.intro trivial ?_))
            exact (((((hQ.2 c1).2 c2).2 c3).2 c4).2 c5)
def S_X12_hold : mo_S := fun as σ Q => ∃ a : Int32, ∃ b : Int32, ∃ c : Int32, ∃ d : Int32, ∃ f : Int32, as = [.inr (.inr (50, 0)), .inl a, .inl b, .inl c, .inl d, .inl f] ∧ ((¬ ((0 : Int32) ≤ a ∧ a ≤ (29 : Int32)) → Q (some (.inl (-1 : Int32))) (mo_wI σ 50 0 0 (if (-1 : Int32) < 0 then (-1 : Int32) else 0))) ∧ ((0 : Int32) ≤ a ∧ a ≤ (29 : Int32) → ((¬ (0 ≤ c ∧ c ≤ (10000 : Int32)) → Q (some (.inl (-1 : Int32))) (mo_wI σ 50 0 0 (if (-1 : Int32) < 0 then (-1 : Int32) else 0))) ∧ (0 ≤ c ∧ c ≤ (10000 : Int32) → ((¬ (c ≤ d ∧ d ≤ (10000 : Int32)) → Q (some (.inl (-1 : Int32))) (mo_wI σ 50 0 0 (if (-1 : Int32) < 0 then (-1 : Int32) else 0))) ∧ (c ≤ d ∧ d ≤ (10000 : Int32) → ((0 ≤ f ∧ f ≤ (10000 : Int32) → ((0 ≤ b ∧ b ≤ σ.1 50 0 2 - 1 → ((¬ (σ.1 50 0 12) = (100 : Int32) → (vp_in (σ.1 50 0 12) 100 ∧ (vp_in (σ.1 50 0 12) 100 ∧ (vp_in (σ.1 50 0 12) 100 ∧ (vp_in (σ.1 50 0 12) 100 ∧ (vp_in (σ.1 50 0 12) 100 ∧ Q (some (.inl (((σ.1 50 0 12) + (1 : Int32))))) (mo_wI (mo_wI (mo_wI (mo_wI (mo_wI (mo_wI (mo_wI σ 59 0 ((σ.1 50 0 12).toNatClampNeg) a) 60 0 ((σ.1 50 0 12).toNatClampNeg) b) 61 0 ((σ.1 50 0 12).toNatClampNeg) c) 62 0 ((σ.1 50 0 12).toNatClampNeg) d) 63 0 ((σ.1 50 0 12).toNatClampNeg) f) 50 0 12 ((σ.1 50 0 12) + (1 : Int32))) 50 0 0 (if ((σ.1 50 0 12) + (1 : Int32)) < 0 then ((σ.1 50 0 12) + (1 : Int32)) else 0)))))))) ∧ ((σ.1 50 0 12) = (100 : Int32) → Q (some (.inl (-5 : Int32))) (mo_wI σ 50 0 0 (if (-5 : Int32) < 0 then (-5 : Int32) else 0))))) ∧ (¬ (0 ≤ b ∧ b ≤ σ.1 50 0 2 - 1) → Q (some (.inl (-2 : Int32))) (mo_wI σ 50 0 0 (if (-2 : Int32) < 0 then (-2 : Int32) else 0))))) ∧ (¬ (0 ≤ f ∧ f ≤ (10000 : Int32)) → Q (some (.inl (-1 : Int32))) (mo_wI σ 50 0 0 (if (-1 : Int32) < 0 then (-1 : Int32) else 0))))))))))
theorem m_X12_hold : ∀ (as : List mo_V) (σ : mo_M) (P P' : mo_Q), (∀ x τ, P x τ → P' x τ) → S_X12_hold as σ P → S_X12_hold as σ P' := by
  rintro as σ P P' hm ⟨a, b, c, d, f, e, hq⟩
  exact ⟨a, b, c, d, f, e, ⟨fun c1 => hm _ _ (hq.1 c1), fun c1 => ⟨fun c2 => hm _ _ ((hq.2 c1).1 c2), fun c2 => ⟨fun c3 => hm _ _ (((hq.2 c1).2 c2).1 c3), fun c3 => ⟨fun c4 => ⟨fun c5 => ⟨fun c6 => ⟨((((((hq.2 c1).2 c2).2 c3).1 c4).1 c5).1 c6).1, ⟨((((((hq.2 c1).2 c2).2 c3).1 c4).1 c5).1 c6).2.1, ⟨((((((hq.2 c1).2 c2).2 c3).1 c4).1 c5).1 c6).2.2.1, ⟨((((((hq.2 c1).2 c2).2 c3).1 c4).1 c5).1 c6).2.2.2.1, ⟨((((((hq.2 c1).2 c2).2 c3).1 c4).1 c5).1 c6).2.2.2.2.1, hm _ _ ((((((hq.2 c1).2 c2).2 c3).1 c4).1 c5).1 c6).2.2.2.2.2⟩⟩⟩⟩⟩, fun c6 => hm _ _ ((((((hq.2 c1).2 c2).2 c3).1 c4).1 c5).2 c6)⟩, fun c5 => hm _ _ (((((hq.2 c1).2 c2).2 c3).1 c4).2 c5)⟩, fun c4 => hm _ _ ((((hq.2 c1).2 c2).2 c3).2 c4)⟩⟩⟩⟩⟩
def cs_X12_hold : Nat → mo_C := fun j => match j with
  | 0 => (3, false, 109, 50, S_X12_in)
  | 1 => (1, false, 141, 50, S_X12_isDay)
  | 2 => (2, true, 122, 12, S_X12_ends)
  | 3 => (2, true, 144, 12, S_X12_isMake)
  | _ => (0, false, 0, 50, fun _ _ _ => False)
theorem cs_X12_hold_ok (g : mo_E) : ∀ j, mo_cok g t_X12_hold (cs_X12_hold j) ∧ mo_mon (cs_X12_hold j) := by
  intro j
  unfold cs_X12_hold
  split
  · exact ⟨mo_cokS ct_X12_in (by decide +kernel), m_X12_in⟩
  · exact ⟨mo_cokS ct_X12_isDay (by decide +kernel), m_X12_isDay⟩
  · exact ⟨mo_cokV ct_X12_ends (by decide) ⟨_, _, rfl⟩ (by decide +kernel), m_X12_ends⟩
  · exact ⟨mo_cokV ct_X12_isMake (by decide) ⟨_, _, rfl⟩ (by decide +kernel), m_X12_isMake⟩
  · exact ⟨mo_cok0 g _, mo_mon0⟩
set_option maxRecDepth 20000 in
set_option maxHeartbeats 2000000 in
theorem ct_X12_hold : mo_ct yX12_hold t_X12_hold S_X12_hold := by
  refine mo_ct_of (by decide) rfl ?_
  rintro g as σ Q ⟨a, b, c, d, f, rfl, hQ⟩
  refine ⟨Nat.le_of_ble_eq_true rfl, mo_go ok_X12_hold (cs_X12_hold_ok g) [] 78 ?_⟩
  intro K hK
  refine Exists.intro a (Exists.intro (0 : Int32) (Exists.intro (29 : Int32) (And.intro rfl (And.intro trivial ?_))))
  refine And.intro (fun (c1 : (mo_bl ((0 : Int32) ≤ a ∧ a ≤ (29 : Int32))) = 0) => ?_) (fun (c1 : ¬ (mo_bl ((0 : Int32) ≤ a ∧ a ≤ (29 : Int32))) = 0) => ?_)
  · replace c1 : ¬ ((0 : Int32) ≤ a ∧ a ≤ (29 : Int32)) := mo_bl0.mp c1
    refine Exists.intro (-1 : Int32) (And.intro rfl (And.intro trivial ?_))
    exact (hQ.1 c1)
  · replace c1 : (0 : Int32) ≤ a ∧ a ≤ (29 : Int32) := mo_blT c1
    refine Exists.intro c (And.intro rfl (And.intro trivial ?_))
    refine And.intro (fun (c2 : (mo_bl (0 ≤ c ∧ c ≤ (10000 : Int32))) = 0) => ?_) (fun (c2 : ¬ (mo_bl (0 ≤ c ∧ c ≤ (10000 : Int32))) = 0) => ?_)
    · replace c2 : ¬ (0 ≤ c ∧ c ≤ (10000 : Int32)) := mo_bl0.mp c2
      refine Exists.intro (-1 : Int32) (And.intro rfl (And.intro trivial ?_))
      exact ((hQ.2 c1).1 c2)
    · replace c2 : 0 ≤ c ∧ c ≤ (10000 : Int32) := mo_blT c2
      refine Exists.intro d (Exists.intro c (Exists.intro (10000 : Int32) (And.intro rfl (And.intro trivial ?_))))
      refine And.intro (fun (c3 : (mo_bl (c ≤ d ∧ d ≤ (10000 : Int32))) = 0) => ?_) (fun (c3 : ¬ (mo_bl (c ≤ d ∧ d ≤ (10000 : Int32))) = 0) => ?_)
      · replace c3 : ¬ (c ≤ d ∧ d ≤ (10000 : Int32)) := mo_bl0.mp c3
        refine Exists.intro (-1 : Int32) (And.intro rfl (And.intro trivial ?_))
        exact (((hQ.2 c1).2 c2).1 c3)
      · replace c3 : c ≤ d ∧ d ≤ (10000 : Int32) := mo_blT c3
        refine Exists.intro f (And.intro rfl (And.intro trivial ?_))
        refine And.intro (fun (c4 : ¬ (mo_bl (0 ≤ f ∧ f ≤ (10000 : Int32))) = 0) => ?_) (fun (c4 : (mo_bl (0 ≤ f ∧ f ≤ (10000 : Int32))) = 0) => ?_)
        · replace c4 : 0 ≤ f ∧ f ≤ (10000 : Int32) := mo_blT c4
          refine Exists.intro b (And.intro rfl (And.intro trivial ?_))
          refine And.intro (fun (c5 : ¬ (mo_bl (0 ≤ b ∧ b ≤ σ.1 50 0 2 - 1)) = 0) => ?_) (fun (c5 : (mo_bl (0 ≤ b ∧ b ≤ σ.1 50 0 2 - 1)) = 0) => ?_)
          · replace c5 : 0 ≤ b ∧ b ≤ σ.1 50 0 2 - 1 := mo_blT c5
            refine And.intro (fun (c6 : ¬ (σ.1 50 0 12) = (100 : Int32)) => ?_) (fun (c6 : (σ.1 50 0 12) = (100 : Int32)) => ?_)
            · refine And.intro (show vp_in (σ.1 50 0 12) 100 from ((((((hQ.2 c1).2 c2).2 c3).1 c4).1 c5).1 c6).1) ?_
              refine And.intro (show vp_in (σ.1 50 0 12) 100 from ((((((hQ.2 c1).2 c2).2 c3).1 c4).1 c5).1 c6).2.1) ?_
              refine And.intro (show vp_in (σ.1 50 0 12) 100 from ((((((hQ.2 c1).2 c2).2 c3).1 c4).1 c5).1 c6).2.2.1) ?_
              refine And.intro (show vp_in (σ.1 50 0 12) 100 from ((((((hQ.2 c1).2 c2).2 c3).1 c4).1 c5).1 c6).2.2.2.1) ?_
              refine And.intro (show vp_in (σ.1 50 0 12) 100 from ((((((hQ.2 c1).2 c2).2 c3).1 c4).1 c5).1 c6).2.2.2.2.1) ?_
              refine Exists.intro ((σ.1 50 0 12) + (1 : Int32)) (And.intro rfl (And.intro trivial ?_))
              exact ((((((hQ.2 c1).2 c2).2 c3).1 c4).1 c5).1 c6).2.2.2.2.2
            · refine Exists.intro (-5 : Int32) (And.intro rfl (And.intro trivial ?_))
              exact ((((((hQ.2 c1).2 c2).2 c3).1 c4).1 c5).2 c6)
          · replace c5 : ¬ (0 ≤ b ∧ b ≤ σ.1 50 0 2 - 1) := mo_bl0.mp c5
            refine Exists.intro (-2 : Int32) (And.intro rfl (And.intro trivial ?_))
            exact (((((hQ.2 c1).2 c2).2 c3).1 c4).2 c5)
        · replace c4 : ¬ (0 ≤ f ∧ f ≤ (10000 : Int32)) := mo_bl0.mp c4
          refine Exists.intro (-1 : Int32) (And.intro rfl (And.intro trivial ?_))
          exact ((((hQ.2 c1).2 c2).2 c3).2 c4)
def S_X11_undo : mo_S := fun as σ Q => ∃ a : Int32, as = [.inr (.inr (0, 0)), .inl a] ∧ ((a < 0 → Q (some (.inl (-2 : Int32))) (mo_wI σ 0 0 14 (-2 : Int32))) ∧ (¬ a < 0 → ((a < (σ.1 18 0 4) → (vp_in a 40 ∧ (((σ.1 21 0 a.toNatClampNeg) = 0 → (vp_in a 40 ∧ Q (some (.inl (0 : Int32))) (mo_wI (mo_wI σ 21 0 a.toNatClampNeg (vp_nar .boolean (1 : Int32))) 0 0 14 0))) ∧ (¬ (σ.1 21 0 a.toNatClampNeg) = 0 → Q (some (.inl (-4 : Int32))) (mo_wI σ 0 0 14 (-4 : Int32)))))) ∧ (¬ a < (σ.1 18 0 4) → Q (some (.inl (-2 : Int32))) (mo_wI σ 0 0 14 (-2 : Int32))))))
theorem m_X11_undo : ∀ (as : List mo_V) (σ : mo_M) (P P' : mo_Q), (∀ x τ, P x τ → P' x τ) → S_X11_undo as σ P → S_X11_undo as σ P' := by
  rintro as σ P P' hm ⟨a, e, hq⟩
  exact ⟨a, e, ⟨fun c1 => hm _ _ (hq.1 c1), fun c1 => ⟨fun c2 => ⟨((hq.2 c1).1 c2).1, ⟨fun c3 => ⟨(((hq.2 c1).1 c2).2.1 c3).1, hm _ _ (((hq.2 c1).1 c2).2.1 c3).2⟩, fun c3 => hm _ _ (((hq.2 c1).1 c2).2.2 c3)⟩⟩, fun c2 => hm _ _ ((hq.2 c1).2 c2)⟩⟩⟩
def cs_X11_undo : Nat → mo_C := fun j => match j with
  | 0 => (2, true, 105, 11, S_X11_refuse)
  | 1 => (2, true, 115, 11, S_X11_accept)
  | _ => (0, false, 0, 50, fun _ _ _ => False)
theorem cs_X11_undo_ok (g : mo_E) : ∀ j, mo_cok g t_X11_undo (cs_X11_undo j) ∧ mo_mon (cs_X11_undo j) := by
  intro j
  unfold cs_X11_undo
  split
  · exact ⟨mo_cokV ct_X11_refuse (by decide) ⟨_, _, rfl⟩ (by decide +kernel), m_X11_refuse⟩
  · exact ⟨mo_cokV ct_X11_accept (by decide) ⟨_, _, rfl⟩ (by decide +kernel), m_X11_accept⟩
  · exact ⟨mo_cok0 g _, mo_mon0⟩
set_option maxRecDepth 20000 in
set_option maxHeartbeats 2000000 in
theorem ct_X11_undo : mo_ct yX11_undo t_X11_undo S_X11_undo := by
  refine mo_ct_of (by decide) rfl ?_
  rintro g as σ Q ⟨a, rfl, hQ⟩
  refine ⟨Nat.le_of_ble_eq_true rfl, mo_go ok_X11_undo (cs_X11_undo_ok g) [] 32 ?_⟩
  intro K hK
  refine And.intro (fun (c1 : a < 0) => ?_) (fun (c1 : ¬ a < 0) => ?_)
  · refine Exists.intro (-2 : Int32) (And.intro rfl (And.intro trivial ?_))
    exact (hQ.1 c1)
  · refine And.intro (fun (c2 : a < (σ.1 18 0 4)) => ?_) (fun (c2 : ¬ a < (σ.1 18 0 4)) => ?_)
    · refine And.intro (show vp_in a 40 from ((hQ.2 c1).1 c2).1) ?_
      refine And.intro (fun (c3 : (σ.1 21 0 a.toNatClampNeg) = 0) => ?_) (fun (c3 : ¬ (σ.1 21 0 a.toNatClampNeg) = 0) => ?_)
      · refine And.intro (show vp_in a 40 from (((hQ.2 c1).1 c2).2.1 c3).1) ?_
        refine Exists.intro (0 : Int32) (And.intro rfl (And.intro trivial ?_))
        exact (((hQ.2 c1).1 c2).2.1 c3).2
      · refine Exists.intro (-4 : Int32) (And.intro rfl (And.intro trivial ?_))
        exact (((hQ.2 c1).1 c2).2.2 c3)
    · refine Exists.intro (-2 : Int32) (And.intro rfl (And.intro trivial ?_))
      exact ((hQ.2 c1).2 c2)
def S_X12_undo : mo_S := fun as σ Q => ∃ a : Int32, as = [.inr (.inr (50, 0)), .inl a] ∧ (((0 : Int32) ≤ a ∧ a ≤ ((σ.1 50 0 18) - (1 : Int32)) → (vp_in a 40 ∧ (((σ.1 67 0 a.toNatClampNeg) = 0 → (vp_in a 40 ∧ Q (some (.inl (0 : Int32))) (mo_wI (mo_wI σ 67 0 a.toNatClampNeg (vp_nar .boolean (1 : Int32))) 50 0 0 (if (0 : Int32) < 0 then (0 : Int32) else 0)))) ∧ (¬ (σ.1 67 0 a.toNatClampNeg) = 0 → Q (some (.inl (-4 : Int32))) (mo_wI σ 50 0 0 (if (-4 : Int32) < 0 then (-4 : Int32) else 0)))))) ∧ (¬ ((0 : Int32) ≤ a ∧ a ≤ ((σ.1 50 0 18) - (1 : Int32))) → Q (some (.inl (-2 : Int32))) (mo_wI σ 50 0 0 (if (-2 : Int32) < 0 then (-2 : Int32) else 0))))
theorem m_X12_undo : ∀ (as : List mo_V) (σ : mo_M) (P P' : mo_Q), (∀ x τ, P x τ → P' x τ) → S_X12_undo as σ P → S_X12_undo as σ P' := by
  rintro as σ P P' hm ⟨a, e, hq⟩
  exact ⟨a, e, ⟨fun c1 => ⟨(hq.1 c1).1, ⟨fun c2 => ⟨((hq.1 c1).2.1 c2).1, hm _ _ ((hq.1 c1).2.1 c2).2⟩, fun c2 => hm _ _ ((hq.1 c1).2.2 c2)⟩⟩, fun c1 => hm _ _ (hq.2 c1)⟩⟩
def cs_X12_undo : Nat → mo_C := fun j => match j with
  | 0 => (3, false, 109, 50, S_X12_in)
  | 1 => (2, true, 122, 12, S_X12_ends)
  | _ => (0, false, 0, 50, fun _ _ _ => False)
theorem cs_X12_undo_ok (g : mo_E) : ∀ j, mo_cok g t_X12_undo (cs_X12_undo j) ∧ mo_mon (cs_X12_undo j) := by
  intro j
  unfold cs_X12_undo
  split
  · exact ⟨mo_cokS ct_X12_in (by decide +kernel), m_X12_in⟩
  · exact ⟨mo_cokV ct_X12_ends (by decide) ⟨_, _, rfl⟩ (by decide +kernel), m_X12_ends⟩
  · exact ⟨mo_cok0 g _, mo_mon0⟩
set_option maxRecDepth 20000 in
set_option maxHeartbeats 2000000 in
theorem ct_X12_undo : mo_ct yX12_undo t_X12_undo S_X12_undo := by
  refine mo_ct_of (by decide) rfl ?_
  rintro g as σ Q ⟨a, rfl, hQ⟩
  refine ⟨Nat.le_of_ble_eq_true rfl, mo_go ok_X12_undo (cs_X12_undo_ok g) [] 31 ?_⟩
  intro K hK
  refine Exists.intro a (Exists.intro (0 : Int32) (Exists.intro ((σ.1 50 0 18) - (1 : Int32)) (And.intro rfl (And.intro trivial ?_))))
  refine And.intro (fun (c1 : ¬ (mo_bl ((0 : Int32) ≤ a ∧ a ≤ ((σ.1 50 0 18) - (1 : Int32)))) = 0) => ?_) (fun (c1 : (mo_bl ((0 : Int32) ≤ a ∧ a ≤ ((σ.1 50 0 18) - (1 : Int32)))) = 0) => ?_)
  · replace c1 : (0 : Int32) ≤ a ∧ a ≤ ((σ.1 50 0 18) - (1 : Int32)) := mo_blT c1
    refine And.intro (show vp_in a 40 from (hQ.1 c1).1) ?_
    refine And.intro (fun (c2 : (σ.1 67 0 a.toNatClampNeg) = 0) => ?_) (fun (c2 : ¬ (σ.1 67 0 a.toNatClampNeg) = 0) => ?_)
    · refine And.intro (show vp_in a 40 from ((hQ.1 c1).2.1 c2).1) ?_
      refine Exists.intro (0 : Int32) (And.intro rfl (And.intro trivial ?_))
      exact ((hQ.1 c1).2.1 c2).2
    · refine Exists.intro (-4 : Int32) (And.intro rfl (And.intro trivial ?_))
      exact ((hQ.1 c1).2.2 c2)
  · replace c1 : ¬ ((0 : Int32) ≤ a ∧ a ≤ ((σ.1 50 0 18) - (1 : Int32))) := mo_bl0.mp c1
    refine Exists.intro (-2 : Int32) (And.intro rfl (And.intro trivial ?_))
    exact (hQ.2 c1)
end
section
noncomputable def mo_ite {α : Type} (c : Prop) (x y : α) : α := @ite α c (Classical.propDecidable c) x y
theorem mo_ite_t {α : Type} {c : Prop} {x y : α} (h : c) : mo_ite c x y = x := if_pos h
theorem mo_ite_f {α : Type} {c : Prop} {x y : α} (h : ¬ c) : mo_ite c x y = y := if_neg h
/-- what a counting loop makes -/
def mo_fo {α : Type} (f : Nat → α → α) (a : α) : Nat → α
  | 0 => a
  | n + 1 => f n (mo_fo f a n)
def mo_rowI (σ : mo_M) (o w : Nat) (r : Nat → Int32) : mo_M := (fun a b => if a = o ∧ b = w then r else σ.1 a b, σ.2)
def mo_rowL (σ : mo_M) (o w : Nat) (r : Nat → Int64) : mo_M := (σ.1, fun a b => if a = o ∧ b = w then r else σ.2 a b)
theorem mo_rowI_id (σ : mo_M) (o w : Nat) : mo_rowI σ o w (σ.1 o w) = σ := by
  refine Prod.ext ?_ rfl
  funext a b
  show (if a = o ∧ b = w then σ.1 o w else σ.1 a b) = σ.1 a b
  by_cases h : a = o ∧ b = w
  · rw [if_pos h, h.1, h.2]
  · rw [if_neg h]
theorem mo_rowL_id (σ : mo_M) (o w : Nat) : mo_rowL σ o w (σ.2 o w) = σ := by
  refine Prod.ext rfl ?_
  funext a b
  show (if a = o ∧ b = w then σ.2 o w else σ.2 a b) = σ.2 a b
  by_cases h : a = o ∧ b = w
  · rw [if_pos h, h.1, h.2]
  · rw [if_neg h]
theorem mo_rowI_w (σ : mo_M) (o w : Nat) (r : Nat → Int32) (k : Nat) (v : Int32) : mo_wI (mo_rowI σ o w r) o w k v = mo_rowI σ o w (upd r k v) := by
  refine Prod.ext ?_ rfl
  funext a b c
  show (if a = o ∧ b = w ∧ c = k then v else (if a = o ∧ b = w then r else σ.1 a b) c) = (if a = o ∧ b = w then upd r k v else σ.1 a b) c
  by_cases h : a = o ∧ b = w
  · rw [if_pos h, if_pos h]
    by_cases e : c = k <;> simp [upd, h, e]
  · rw [if_neg h, if_neg h, if_neg (fun q => h ⟨q.1, q.2.1⟩)]
theorem mo_rowL_w (σ : mo_M) (o w : Nat) (r : Nat → Int64) (k : Nat) (v : Int64) : mo_wL (mo_rowL σ o w r) o w k v = mo_rowL σ o w (vp_updL r k v) := by
  refine Prod.ext rfl ?_
  funext a b c
  show (if a = o ∧ b = w ∧ c = k then v else (if a = o ∧ b = w then r else σ.2 a b) c) = (if a = o ∧ b = w then vp_updL r k v else σ.2 a b) c
  by_cases h : a = o ∧ b = w
  · rw [if_pos h, if_pos h]
    by_cases e : c = k <;> simp [vp_updL, h, e]
  · rw [if_neg h, if_neg h, if_neg (fun q => h ⟨q.1, q.2.1⟩)]
theorem mo_rowI_r (σ : mo_M) (o w : Nat) (r r' : Nat → Int32) : mo_rowI (mo_rowI σ o w r) o w r' = mo_rowI σ o w r' := by
  refine Prod.ext ?_ rfl
  funext a b
  show (if a = o ∧ b = w then r' else (if a = o ∧ b = w then r else σ.1 a b)) = (if a = o ∧ b = w then r' else σ.1 a b)
  by_cases h : a = o ∧ b = w
  · rw [if_pos h, if_pos h]
  · rw [if_neg h, if_neg h, if_neg h]
theorem mo_rowL_r (σ : mo_M) (o w : Nat) (r r' : Nat → Int64) : mo_rowL (mo_rowL σ o w r) o w r' = mo_rowL σ o w r' := by
  refine Prod.ext rfl ?_
  funext a b
  show (if a = o ∧ b = w then r' else (if a = o ∧ b = w then r else σ.2 a b)) = (if a = o ∧ b = w then r' else σ.2 a b)
  by_cases h : a = o ∧ b = w
  · rw [if_pos h, if_pos h]
  · rw [if_neg h, if_neg h, if_neg h]
theorem mo_r1' {c : Prop} (h : c) : (some (.inl (Int32.ofInt 1)) : Option mo_V) = some (.inl (mo_bl c)) := mo_r1 h
def S_X11_lowest : mo_S := fun as σ Q => ∃ s : Int64, as = [.inr (.inl s)] ∧ (True) ∧ Q (some (.inl (mo_fsI (fun k => mo_bt s (nI k)) 64))) (σ)
theorem m_X11_lowest : ∀ (as : List mo_V) (σ : mo_M) (P P' : mo_Q), (∀ x τ, P x τ → P' x τ) → S_X11_lowest as σ P → S_X11_lowest as σ P' := by
  rintro as σ P P' h ⟨s, e, hp, hq⟩
  exact ⟨s, e, hp, h _ _ hq⟩
def cs_X11_lowest : Nat → mo_C := fun j => match j with
  | 0 => (2, false, 201, 50, S_X11_contains)
  | _ => (0, false, 0, 50, fun _ _ _ => False)
theorem cs_X11_lowest_ok (g : mo_E) : ∀ j, mo_cok g t_X11_lowest (cs_X11_lowest j) ∧ mo_mon (cs_X11_lowest j) := by
  intro j
  unfold cs_X11_lowest
  split
  · exact ⟨mo_cokS ct_X11_contains (by decide +kernel), m_X11_contains⟩
  · exact ⟨mo_cok0 g _, mo_mon0⟩
set_option maxRecDepth 20000 in
set_option maxHeartbeats 2000000 in
theorem lp_X11_lowest (g : mo_E) (σ : mo_M) (Q : mo_Q) (s : Int64) (n : Nat) (hn : (64 : Int32) = nI n) (hle : n ≤ 64) (hQ : Q (some (.inl (mo_fsI (fun k => mo_bt s (nI k)) n))) σ) : ∀ (d k : Nat), n < k + d → k ≤ n → (∀ j, j < k → ¬ (fun k => mo_bt s (nI k)) j) → mo_X g t_X11_lowest Q 2 [some (.inr (.inl s)), none, some (.inl (nI k))] [] (σ) := by
  intro d
  induction d with
  | zero => intro k h1 h2; omega
  | succ d ih =>
    intro k h1 h2 hinv
    have hkc : (nI k).toNatClampNeg = k := mo_cl (by omega)
    refine mo_go ok_X11_lowest (cs_X11_lowest_ok g) [2] 16 ?_
    intro K hK
    refine And.intro (fun (c1 : (64 : Int32) ≤ (nI k)) => ?_) (fun (c1 : ¬ (64 : Int32) ≤ (nI k)) => ?_)
    · have hk : n ≤ k := mo_cge hn (by omega) (by omega) c1
      exact mo_q hQ (by rw [mo_fsI_no (fun j hj => hinv j (by omega))]; rfl) rfl
    · have hk : k < n := mo_clt hn (by omega) (by omega) c1
      refine Exists.intro s (Exists.intro (nI k) (And.intro rfl (And.intro (show True by trivial) ?_)))
      refine And.intro (fun (c2 : (mo_bl (mo_bt s (nI k))) = 0) => ?_) (fun (c2 : ¬ (mo_bl (mo_bt s (nI k))) = 0) => ?_)
      · (have hih := ih (k + 1) (by omega) (by omega) (lt_s hinv (mo_bl0.mp c2)); rw [nI_succ] at hih; exact hK _ _ _ _ hih)
      · (exact mo_q hQ (by rw [mo_fsI_at hk (mo_blT c2) hinv]) rfl)
set_option maxRecDepth 20000 in
set_option maxHeartbeats 2000000 in
theorem ct_X11_lowest : mo_ct yX11_lowest t_X11_lowest S_X11_lowest := by
  refine mo_ct_of (by decide) rfl ?_
  rintro g as σ Q ⟨s, rfl, hpre, hQ⟩
  refine ⟨Nat.le_of_ble_eq_true rfl, mo_go ok_X11_lowest (cs_X11_lowest_ok g) [2] 16 ?_⟩
  intro K hK
  exact hK _ _ _ _ (lp_X11_lowest g σ Q s 64 rfl (by omega) hQ 65 0 (by omega) (by omega) (fun j hj => by omega))
def S_X10_distance : mo_S := fun as σ Q => ∃ m : Int32, as = [.inr (.inr (33, 0)), .inl m] ∧ (mo_le (σ.1 33 0 2) 60) ∧ Q (some (.inl (mo_fsI (fun k => mo_bt (σ.2 35 0 k) m) (σ.1 33 0 2).toNatClampNeg))) (σ)
theorem m_X10_distance : ∀ (as : List mo_V) (σ : mo_M) (P P' : mo_Q), (∀ x τ, P x τ → P' x τ) → S_X10_distance as σ P → S_X10_distance as σ P' := by
  rintro as σ P P' h ⟨m, e, hp, hq⟩
  exact ⟨m, e, hp, h _ _ hq⟩
def cs_X10_distance : Nat → mo_C := fun j => match j with
  | 0 => (2, false, 53, 50, S_X11_contains)
  | _ => (0, false, 0, 50, fun _ _ _ => False)
theorem cs_X10_distance_ok (g : mo_E) : ∀ j, mo_cok g t_X10_distance (cs_X10_distance j) ∧ mo_mon (cs_X10_distance j) := by
  intro j
  unfold cs_X10_distance
  split
  · exact ⟨mo_cokN ct_X11_contains (by simp [mo_nw, t_X10_distance]) (by decide +kernel), m_X11_contains⟩
  · exact ⟨mo_cok0 g _, mo_mon0⟩
set_option maxRecDepth 20000 in
set_option maxHeartbeats 2000000 in
theorem lp_X10_distance (g : mo_E) (σ : mo_M) (Q : mo_Q) (m : Int32) (n : Nat) (hn : σ.1 33 0 2 = nI n) (hle : n ≤ 60) (hQ : Q (some (.inl (mo_fsI (fun k => mo_bt (σ.2 35 0 k) m) n))) σ) : ∀ (d k : Nat), n < k + d → k ≤ n → (∀ j, j < k → ¬ (fun k => mo_bt (σ.2 35 0 k) m) j) → mo_X g t_X10_distance Q 2 [some (.inr (.inr (33, 0))), some (.inl m), some (.inl (nI k))] [] (σ) := by
  intro d
  induction d with
  | zero => intro k h1 h2; omega
  | succ d ih =>
    intro k h1 h2 hinv
    have hkc : (nI k).toNatClampNeg = k := mo_cl (by omega)
    refine mo_go ok_X10_distance (cs_X10_distance_ok g) [2] 20 ?_
    intro K hK
    refine And.intro (fun (c1 : (σ.1 33 0 2) ≤ (nI k)) => ?_) (fun (c1 : ¬ (σ.1 33 0 2) ≤ (nI k)) => ?_)
    · have hk : n ≤ k := mo_cge hn (by omega) (by omega) c1
      exact mo_q hQ (by rw [mo_fsI_no (fun j hj => hinv j (by omega))]; rfl) rfl
    · have hk : k < n := mo_clt hn (by omega) (by omega) c1
      refine And.intro (show vp_in (nI k) 60 by exact mo_inN (by omega) (by decide)) ?_
      refine Exists.intro (σ.2 35 0 ((nI k).toNatClampNeg)) (Exists.intro m (And.intro rfl (And.intro (show True by trivial) ?_)))
      refine And.intro (fun (c2 : (mo_bl (mo_bt (σ.2 35 0 ((nI k).toNatClampNeg)) m)) = 0) => ?_) (fun (c2 : ¬ (mo_bl (mo_bt (σ.2 35 0 ((nI k).toNatClampNeg)) m)) = 0) => ?_)
      · (rw [hkc] at c2; have hih := ih (k + 1) (by omega) (by omega) (lt_s hinv (mo_bl0.mp c2)); rw [nI_succ] at hih; exact hK _ _ _ _ hih)
      · (rw [hkc] at c2; exact mo_q hQ (by rw [mo_fsI_at hk (mo_blT c2) hinv]) rfl)
set_option maxRecDepth 20000 in
set_option maxHeartbeats 2000000 in
theorem ct_X10_distance : mo_ct yX10_distance t_X10_distance S_X10_distance := by
  refine mo_ct_of (by decide) rfl ?_
  rintro g as σ Q ⟨m, rfl, hpre, hQ⟩
  refine ⟨Nat.le_of_ble_eq_true rfl, mo_go ok_X10_distance (cs_X10_distance_ok g) [2] 20 ?_⟩
  intro K hK
  exact hK _ _ _ _ (lp_X10_distance g σ Q m _ hpre.1 hpre.2 hQ ((σ.1 33 0 2).toNatClampNeg + 1) 0 (by omega) (by omega) (fun j hj => by omega))
def S_X9_covers : mo_S := fun as σ Q => ∃ w : Nat, ∃ v : Int32, as = [.inr (.inr (39, w)), .inl v] ∧ (w < 20 ∧ mo_le (σ.1 39 w 2) 30) ∧ Q (some (.inl (mo_bl (∃ k, k < (σ.1 39 w 2).toNatClampNeg ∧ σ.1 40 w k ≤ v ∧ v ≤ σ.1 41 w k)))) (σ)
theorem m_X9_covers : ∀ (as : List mo_V) (σ : mo_M) (P P' : mo_Q), (∀ x τ, P x τ → P' x τ) → S_X9_covers as σ P → S_X9_covers as σ P' := by
  rintro as σ P P' h ⟨w, v, e, hp, hq⟩
  exact ⟨w, v, e, hp, h _ _ hq⟩
set_option maxRecDepth 20000 in
set_option maxHeartbeats 2000000 in
theorem lp_X9_covers (g : mo_E) (σ : mo_M) (Q : mo_Q) (w : Nat) (v : Int32) (n : Nat) (hw : w < 20) (hn : σ.1 39 w 2 = nI n) (hle : n ≤ 30) (hQ : Q (some (.inl (mo_bl (∃ k, k < n ∧ σ.1 40 w k ≤ v ∧ v ≤ σ.1 41 w k)))) σ) : ∀ (d k : Nat), n < k + d → k ≤ n → (∀ j, j < k → ¬ (fun k => σ.1 40 w k ≤ v ∧ v ≤ σ.1 41 w k) j) → mo_X g t_X9_covers Q 2 [some (.inr (.inr (39, w))), some (.inl v), some (.inl (nI k))] [] (σ) := by
  intro d
  induction d with
  | zero => intro k h1 h2; omega
  | succ d ih =>
    intro k h1 h2 hinv
    have hkc : (nI k).toNatClampNeg = k := mo_cl (by omega)
    refine mo_go ok_X9_covers (mo_no_ok g _) [2] 25 ?_
    intro K hK
    refine And.intro (by exact hw) ?_
    refine And.intro (fun (c1 : (σ.1 39 w 2) ≤ (nI k)) => ?_) (fun (c1 : ¬ (σ.1 39 w 2) ≤ (nI k)) => ?_)
    · have hk : n ≤ k := mo_cge hn (by omega) (by omega) c1
      refine And.intro (by first | decide | exact mo_bl01 _) ?_
      exact mo_q hQ (mo_r0 (fun q => by obtain ⟨j, hj, q⟩ := q; exact hinv j (by omega) q)) rfl
    · have hk : k < n := mo_clt hn (by omega) (by omega) c1
      refine And.intro (by exact hw) ?_
      refine And.intro (by exact hw) ?_
      refine And.intro (show vp_in (nI k) 30 by exact mo_inN (by omega) (by decide)) ?_
      refine And.intro (fun (c2 : v < (σ.1 40 w ((nI k).toNatClampNeg))) => ?_) (fun (c2 : ¬ v < (σ.1 40 w ((nI k).toNatClampNeg))) => ?_)
      · (have hih := ih (k + 1) (by omega) (by omega) (lt_s hinv (by rw [hkc] at c2; intro q; exact absurd q.1 (by simpa using c2))); rw [nI_succ] at hih; exact hK _ _ _ _ hih)
      · refine And.intro (by exact hw) ?_
        refine And.intro (by exact hw) ?_
        refine And.intro (show vp_in (nI k) 30 by exact mo_inN (by omega) (by decide)) ?_
        refine And.intro (fun (c3 : (σ.1 41 w ((nI k).toNatClampNeg)) < v) => ?_) (fun (c3 : ¬ (σ.1 41 w ((nI k).toNatClampNeg)) < v) => ?_)
        · (have hih := ih (k + 1) (by omega) (by omega) (lt_s hinv (by rw [hkc] at c2 c3; intro q; exact absurd q.2 (by simpa using c3))); rw [nI_succ] at hih; exact hK _ _ _ _ hih)
        · refine And.intro (by first | decide | exact mo_bl01 _) ?_
          (rw [hkc] at c2 c3; exact mo_q hQ (mo_r1 ⟨k, hk, by simp only [Int32.not_lt] at c2 c3; exact ⟨c2, c3⟩⟩) rfl)
set_option maxRecDepth 20000 in
set_option maxHeartbeats 2000000 in
theorem ct_X9_covers : mo_ct yX9_covers t_X9_covers S_X9_covers := by
  refine mo_ct_of (by decide) rfl ?_
  rintro g as σ Q ⟨w, v, rfl, hpre, hQ⟩
  refine ⟨Nat.le_of_ble_eq_true rfl, mo_go ok_X9_covers (mo_no_ok g _) [2] 25 ?_⟩
  intro K hK
  exact hK _ _ _ _ (lp_X9_covers g σ Q w v _ hpre.1 hpre.2.1 hpre.2.2 hQ ((σ.1 39 w 2).toNatClampNeg + 1) 0 (by omega) (by omega) (fun j hj => by omega))
def S_X10_holdersOf : mo_S := fun as σ Q => ∃ s : Int64, as = [.inr (.inr (33, 0)), .inr (.inl s)] ∧ (True) ∧ Q (some (.inr (.inl (mo_fo (fun k a => mo_ite (¬ (σ.2 34 0 k &&& s) = 0) (a ||| (1 : Int64) <<< ((nI k).toInt64 &&& 63)) a) 0 60)))) (σ)
theorem m_X10_holdersOf : ∀ (as : List mo_V) (σ : mo_M) (P P' : mo_Q), (∀ x τ, P x τ → P' x τ) → S_X10_holdersOf as σ P → S_X10_holdersOf as σ P' := by
  rintro as σ P P' h ⟨s, e, hp, hq⟩
  exact ⟨s, e, hp, h _ _ hq⟩
set_option maxRecDepth 20000 in
set_option maxHeartbeats 2000000 in
theorem lp_X10_holdersOf (g : mo_E) (σ : mo_M) (Q : mo_Q) (s : Int64) (n : Nat) (hn : (60 : Int32) = nI n) (hle : n ≤ 60) (hQ : Q (some (.inr (.inl (mo_fo (fun k a => mo_ite (¬ (σ.2 34 0 k &&& s) = 0) (a ||| (1 : Int64) <<< ((nI k).toInt64 &&& 63)) a) 0 n)))) σ) : ∀ (d k : Nat), n < k + d → k ≤ n → (True) → mo_X g t_X10_holdersOf Q 5 [some (.inr (.inr (33, 0))), some (.inr (.inl s)), none, some (.inr (.inl (mo_fo (fun k a => mo_ite (¬ (σ.2 34 0 k &&& s) = 0) (a ||| (1 : Int64) <<< ((nI k).toInt64 &&& 63)) a) 0 k))), none, some (.inl (nI k))] [] (σ) := by
  intro d
  induction d with
  | zero => intro k h1 h2; omega
  | succ d ih =>
    intro k h1 h2 hinv
    have hkc : (nI k).toNatClampNeg = k := mo_cl (by omega)
    refine mo_go ok_X10_holdersOf (mo_no_ok g _) [5] 27 ?_
    intro K hK
    refine And.intro (fun (c1 : (60 : Int32) ≤ (nI k)) => ?_) (fun (c1 : ¬ (60 : Int32) ≤ (nI k)) => ?_)
    · have hk : n ≤ k := mo_cge hn (by omega) (by omega) c1
      (have e : k = n := (by omega); subst e; exact hQ)
    · have hk : k < n := mo_clt hn (by omega) (by omega) c1
      refine And.intro (show vp_in (nI k) 60 by exact mo_inN (by omega) (by decide)) ?_
      refine And.intro (fun (c2 : (lg_cmp ((σ.2 34 0 ((nI k).toNatClampNeg)) &&& s) (0 : Int64)) = 0) => ?_) (fun (c2 : ¬ (lg_cmp ((σ.2 34 0 ((nI k).toNatClampNeg)) &&& s) (0 : Int64)) = 0) => ?_)
      · (rw [lg_cmp_eq, hkc] at c2; have hih := ih (k + 1) (by omega) (by omega) trivial; rw [nI_succ, show mo_fo (fun k a => mo_ite (¬ (σ.2 34 0 k &&& s) = 0) (a ||| (1 : Int64) <<< ((nI k).toInt64 &&& 63)) a) 0 (k + 1) = mo_fo (fun k a => mo_ite (¬ (σ.2 34 0 k &&& s) = 0) (a ||| (1 : Int64) <<< ((nI k).toInt64 &&& 63)) a) 0 k from mo_ite_f (fun q => q c2)] at hih; exact hK _ _ _ _ hih)
      · (rw [lg_cmp_eq, hkc] at c2; have hih := ih (k + 1) (by omega) (by omega) trivial; rw [nI_succ, show mo_fo (fun k a => mo_ite (¬ (σ.2 34 0 k &&& s) = 0) (a ||| (1 : Int64) <<< ((nI k).toInt64 &&& 63)) a) 0 (k + 1) = (mo_fo (fun k a => mo_ite (¬ (σ.2 34 0 k &&& s) = 0) (a ||| (1 : Int64) <<< ((nI k).toInt64 &&& 63)) a) 0 k) ||| ((1 : Int64) <<< ((nI k).toInt64 &&& 63)) from mo_ite_t c2] at hih; exact hK _ _ _ _ hih)
set_option maxRecDepth 20000 in
set_option maxHeartbeats 2000000 in
theorem ct_X10_holdersOf : mo_ct yX10_holdersOf t_X10_holdersOf S_X10_holdersOf := by
  refine mo_ct_of (by decide) rfl ?_
  rintro g as σ Q ⟨s, rfl, hpre, hQ⟩
  refine ⟨Nat.le_of_ble_eq_true rfl, mo_go ok_X10_holdersOf (mo_no_ok g _) [5] 27 ?_⟩
  intro K hK
  exact hK _ _ _ _ (lp_X10_holdersOf g σ Q s 60 rfl (by omega) hQ 61 0 (by omega) (by omega) trivial)
def S_J7_fill_53178 : mo_S := fun as σ Q => ∃ v : Int32, as = [.inr (.inr (37, 0)), .inl v] ∧ (True) ∧ Q (none) (mo_rowI σ 37 0 (mo_fo (fun k r => upd r k v) (σ.1 37 0) 10))
theorem m_J7_fill_53178 : ∀ (as : List mo_V) (σ : mo_M) (P P' : mo_Q), (∀ x τ, P x τ → P' x τ) → S_J7_fill_53178 as σ P → S_J7_fill_53178 as σ P' := by
  rintro as σ P P' h ⟨v, e, hp, hq⟩
  exact ⟨v, e, hp, h _ _ hq⟩
set_option maxRecDepth 20000 in
set_option maxHeartbeats 2000000 in
theorem lp_J7_fill_53178 (g : mo_E) (σ : mo_M) (Q : mo_Q) (v : Int32) (n : Nat) (hn : (10 : Int32) = nI n) (hle : n ≤ 10) (hQ : Q none (mo_rowI σ 37 0 (mo_fo (fun k r => upd r k v) (σ.1 37 0) n))) : ∀ (d k : Nat), n < k + d → k ≤ n → (True) → mo_X g t_J7_fill_53178 Q 5 [some (.inr (.inr (37, 0))), some (.inl v), some (.inl (nI k)), some (.inl (10 : Int32))] [] (mo_rowI σ 37 0 (mo_fo (fun k r => upd r k v) (σ.1 37 0) k)) := by
  intro d
  induction d with
  | zero => intro k h1 h2; omega
  | succ d ih =>
    intro k h1 h2 hinv
    have hkc : (nI k).toNatClampNeg = k := mo_cl (by omega)
    refine mo_go ok_J7_fill_53178 (mo_no_ok g _) [5] 16 ?_
    intro K hK
    refine And.intro (fun (c1 : (10 : Int32) ≤ (nI k)) => ?_) (fun (c1 : ¬ (10 : Int32) ≤ (nI k)) => ?_)
    · have hk : n ≤ k := mo_cge hn (by omega) (by omega) c1
      (have e : k = n := (by omega); subst e; exact hQ)
    · have hk : k < n := mo_clt hn (by omega) (by omega) c1
      refine And.intro (show vp_in (nI k) 10 by exact mo_inN (by omega) (by decide)) ?_
      (have hih := ih (k + 1) (by omega) (by omega) trivial; rw [nI_succ] at hih; refine hK _ _ _ _ ?_; rw [hkc, mo_rowI_w]; exact hih)
set_option maxRecDepth 20000 in
set_option maxHeartbeats 2000000 in
theorem ct_J7_fill_53178 : mo_ct yJ7_fill_53178 t_J7_fill_53178 S_J7_fill_53178 := by
  refine mo_ct_of (by decide) rfl ?_
  rintro g as σ Q ⟨v, rfl, hpre, hQ⟩
  refine ⟨Nat.le_of_ble_eq_true rfl, mo_go ok_J7_fill_53178 (mo_no_ok g _) [5] 16 ?_⟩
  intro K hK
  (have h0 := lp_J7_fill_53178 g σ Q v 10 rfl (by omega) hQ 11 0 (by omega) (by omega) trivial; rw [show mo_rowI σ 37 0 (mo_fo (fun k r => upd r k v) (σ.1 37 0) 0) = σ from mo_rowI_id σ 37 0] at h0; exact hK _ _ _ _ h0)
def S_J7_fill_d0a16 : mo_S := fun as σ Q => ∃ v : Int64, as = [.inr (.inr (34, 0)), .inr (.inl v)] ∧ (True) ∧ Q (none) (mo_rowL σ 34 0 (mo_fo (fun k r => vp_updL r k v) (σ.2 34 0) 60))
theorem m_J7_fill_d0a16 : ∀ (as : List mo_V) (σ : mo_M) (P P' : mo_Q), (∀ x τ, P x τ → P' x τ) → S_J7_fill_d0a16 as σ P → S_J7_fill_d0a16 as σ P' := by
  rintro as σ P P' h ⟨v, e, hp, hq⟩
  exact ⟨v, e, hp, h _ _ hq⟩
set_option maxRecDepth 20000 in
set_option maxHeartbeats 2000000 in
theorem lp_J7_fill_d0a16 (g : mo_E) (σ : mo_M) (Q : mo_Q) (v : Int64) (n : Nat) (hn : (60 : Int32) = nI n) (hle : n ≤ 60) (hQ : Q none (mo_rowL σ 34 0 (mo_fo (fun k r => vp_updL r k v) (σ.2 34 0) n))) : ∀ (d k : Nat), n < k + d → k ≤ n → (True) → mo_X g t_J7_fill_d0a16 Q 6 [some (.inr (.inr (34, 0))), some (.inr (.inl v)), none, some (.inl (nI k)), some (.inl (60 : Int32))] [] (mo_rowL σ 34 0 (mo_fo (fun k r => vp_updL r k v) (σ.2 34 0) k)) := by
  intro d
  induction d with
  | zero => intro k h1 h2; omega
  | succ d ih =>
    intro k h1 h2 hinv
    have hkc : (nI k).toNatClampNeg = k := mo_cl (by omega)
    refine mo_go ok_J7_fill_d0a16 (mo_no_ok g _) [6] 16 ?_
    intro K hK
    refine And.intro (fun (c1 : (60 : Int32) ≤ (nI k)) => ?_) (fun (c1 : ¬ (60 : Int32) ≤ (nI k)) => ?_)
    · have hk : n ≤ k := mo_cge hn (by omega) (by omega) c1
      (have e : k = n := (by omega); subst e; exact hQ)
    · have hk : k < n := mo_clt hn (by omega) (by omega) c1
      refine And.intro (show vp_in (nI k) 60 by exact mo_inN (by omega) (by decide)) ?_
      (have hih := ih (k + 1) (by omega) (by omega) trivial; rw [nI_succ] at hih; refine hK _ _ _ _ ?_; rw [hkc, mo_rowL_w]; exact hih)
set_option maxRecDepth 20000 in
set_option maxHeartbeats 2000000 in
theorem ct_J7_fill_d0a16 : mo_ct yJ7_fill_d0a16 t_J7_fill_d0a16 S_J7_fill_d0a16 := by
  refine mo_ct_of (by decide) rfl ?_
  rintro g as σ Q ⟨v, rfl, hpre, hQ⟩
  refine ⟨Nat.le_of_ble_eq_true rfl, mo_go ok_J7_fill_d0a16 (mo_no_ok g _) [6] 16 ?_⟩
  intro K hK
  (have h0 := lp_J7_fill_d0a16 g σ Q v 60 rfl (by omega) hQ 61 0 (by omega) (by omega) trivial; rw [show mo_rowL σ 34 0 (mo_fo (fun k r => vp_updL r k v) (σ.2 34 0) 0) = σ from mo_rowL_id σ 34 0] at h0; exact hK _ _ _ _ h0)
def S_X0_merge : mo_S := fun as σ Q => ∃ m : Int32, as = [.inr (.inr (28, 0)), .inl m] ∧ (True) ∧ Q (none) (mo_rowI σ 29 0 (mo_fo (fun k r => mo_ite (mo_bt m.toInt64 (nI k)) (upd r k m) r) (σ.1 29 0) 30))
theorem m_X0_merge : ∀ (as : List mo_V) (σ : mo_M) (P P' : mo_Q), (∀ x τ, P x τ → P' x τ) → S_X0_merge as σ P → S_X0_merge as σ P' := by
  rintro as σ P P' h ⟨m, e, hp, hq⟩
  exact ⟨m, e, hp, h _ _ hq⟩
def cs_X0_merge : Nat → mo_C := fun j => match j with
  | 0 => (2, false, 38, 50, S_X11_contains)
  | _ => (0, false, 0, 50, fun _ _ _ => False)
theorem cs_X0_merge_ok (g : mo_E) : ∀ j, mo_cok g t_X0_merge (cs_X0_merge j) ∧ mo_mon (cs_X0_merge j) := by
  intro j
  unfold cs_X0_merge
  split
  · exact ⟨mo_cokN ct_X11_contains (by simp [mo_nw, t_X0_merge]) (by decide +kernel), m_X11_contains⟩
  · exact ⟨mo_cok0 g _, mo_mon0⟩
set_option maxRecDepth 20000 in
set_option maxHeartbeats 2000000 in
theorem lp_X0_merge (g : mo_E) (σ : mo_M) (Q : mo_Q) (m : Int32) (n : Nat) (hn : (30 : Int32) = nI n) (hle : n ≤ 30) (hQ : Q none (mo_rowI σ 29 0 (mo_fo (fun k r => mo_ite (mo_bt m.toInt64 (nI k)) (upd r k m) r) (σ.1 29 0) n))) : ∀ (d k : Nat), n < k + d → k ≤ n → (True) → mo_X g t_X0_merge Q 2 [some (.inr (.inr (28, 0))), some (.inl m), some (.inl (nI k))] [] (mo_rowI σ 29 0 (mo_fo (fun k r => mo_ite (mo_bt m.toInt64 (nI k)) (upd r k m) r) (σ.1 29 0) k)) := by
  intro d
  induction d with
  | zero => intro k h1 h2; omega
  | succ d ih =>
    intro k h1 h2 hinv
    have hkc : (nI k).toNatClampNeg = k := mo_cl (by omega)
    refine mo_go ok_X0_merge (cs_X0_merge_ok g) [2] 19 ?_
    intro K hK
    refine And.intro (fun (c1 : (30 : Int32) ≤ (nI k)) => ?_) (fun (c1 : ¬ (30 : Int32) ≤ (nI k)) => ?_)
    · have hk : n ≤ k := mo_cge hn (by omega) (by omega) c1
      (have e : k = n := (by omega); subst e; exact hQ)
    · have hk : k < n := mo_clt hn (by omega) (by omega) c1
      refine Exists.intro m.toInt64 (Exists.intro (nI k) (And.intro rfl (And.intro (show True by trivial) ?_)))
      refine And.intro (fun (c2 : (mo_bl (mo_bt m.toInt64 (nI k))) = 0) => ?_) (fun (c2 : ¬ (mo_bl (mo_bt m.toInt64 (nI k))) = 0) => ?_)
      · (have hih := ih (k + 1) (by omega) (by omega) trivial; rw [nI_succ] at hih; refine hK _ _ _ _ (show mo_X g t_X0_merge Q 2 [some (.inr (.inr (28, 0))), some (.inl m), some (.inl ((nI k) + (1 : Int32)))] [] (mo_rowI σ 29 0 (mo_fo (fun k r => mo_ite (mo_bt m.toInt64 (nI k)) (upd r k m) r) (σ.1 29 0) k)) from ?_); rw [show mo_fo (fun k r => mo_ite (mo_bt m.toInt64 (nI k)) (upd r k m) r) (σ.1 29 0) (k + 1) = mo_fo (fun k r => mo_ite (mo_bt m.toInt64 (nI k)) (upd r k m) r) (σ.1 29 0) k from mo_ite_f (mo_bl0.mp c2)] at hih; exact hih)
      · refine And.intro (show vp_in (nI k) 30 by exact mo_inN (by omega) (by decide)) ?_
        (have hih := ih (k + 1) (by omega) (by omega) trivial; rw [nI_succ] at hih; refine hK _ _ _ _ (show mo_X g t_X0_merge Q 2 [some (.inr (.inr (28, 0))), some (.inl m), some (.inl ((nI k) + (1 : Int32)))] [] (mo_wI (mo_rowI σ 29 0 (mo_fo (fun k r => mo_ite (mo_bt m.toInt64 (nI k)) (upd r k m) r) (σ.1 29 0) k)) 29 0 ((nI k).toNatClampNeg) m) from ?_); rw [hkc, mo_rowI_w]; rw [show mo_fo (fun k r => mo_ite (mo_bt m.toInt64 (nI k)) (upd r k m) r) (σ.1 29 0) (k + 1) = upd (mo_fo (fun k r => mo_ite (mo_bt m.toInt64 (nI k)) (upd r k m) r) (σ.1 29 0) k) k m from mo_ite_t (mo_blT c2)] at hih; exact hih)
set_option maxRecDepth 20000 in
set_option maxHeartbeats 2000000 in
theorem ct_X0_merge : mo_ct yX0_merge t_X0_merge S_X0_merge := by
  refine mo_ct_of (by decide) rfl ?_
  rintro g as σ Q ⟨m, rfl, hpre, hQ⟩
  refine ⟨Nat.le_of_ble_eq_true rfl, mo_go ok_X0_merge (cs_X0_merge_ok g) [2] 19 ?_⟩
  intro K hK
  (have h0 := lp_X0_merge g σ Q m 30 rfl (by omega) hQ 31 0 (by omega) (by omega) trivial; rw [show mo_rowI σ 29 0 (mo_fo (fun k r => mo_ite (mo_bt m.toInt64 (nI k)) (upd r k m) r) (σ.1 29 0) 0) = σ from mo_rowI_id σ 29 0] at h0; exact hK _ _ _ _ h0)
end
section
def S_X4_isLive : mo_S := fun as σ Q => ∃ o : Nat, ∃ n : Int32, ∃ day : Int32, as = [.inr (.inr (o, 0)), .inl n, .inl day] ∧ ((o = 18 ∨ o = 23) ∧ vp_in n 40) ∧ Q (some (.inl (mo_bl (σ.1 (o + 4) 0 n.toNatClampNeg ≤ day ∧ σ.1 (o + 3) 0 n.toNatClampNeg = 0)))) (σ)
theorem m_X4_isLive : ∀ (as : List mo_V) (σ : mo_M) (P P' : mo_Q), (∀ x τ, P x τ → P' x τ) → S_X4_isLive as σ P → S_X4_isLive as σ P' := by
  rintro as σ P P' h ⟨o, n, day, e, hp, hq⟩
  exact ⟨o, n, day, e, hp, h _ _ hq⟩
set_option maxRecDepth 20000 in
set_option maxHeartbeats 2000000 in
theorem ct_X4_isLive : mo_ct yX4_isLive t_X4_isLive S_X4_isLive := by
  refine mo_ct_of (by decide) rfl ?_
  rintro g as σ Q ⟨o, n, day, rfl, ⟨ho, hpre⟩, hQ⟩
  rcases ho with rfl | rfl
  · refine ⟨Nat.le_of_ble_eq_true rfl, mo_go ok_X4_isLive (mo_no_ok g _) [] 16 ?_⟩
    intro K hK
    refine And.intro (show vp_in n 40 by exact hpre) ?_
    refine And.intro (fun (c1 : day < (σ.1 22 0 n.toNatClampNeg)) => ?_) (fun (c1 : ¬ day < (σ.1 22 0 n.toNatClampNeg)) => ?_)
    · refine And.intro (by first | decide | exact mo_bl01 _) ?_
      exact mo_q hQ (mo_r0 (by ((try simp only [mo_bl0, Classical.not_not] at c1); (try simp only [Int32.lt_iff_toInt_lt, Int32.le_iff_toInt_le, mo_ieq, Int32.toInt_zero, mo_n1, Nat.reduceAdd] at c1 ⊢); omega))) rfl
    · refine And.intro (show vp_in n 40 by exact hpre) ?_
      refine And.intro (fun (c2 : ¬ (σ.1 21 0 n.toNatClampNeg) = 0) => ?_) (fun (c2 : (σ.1 21 0 n.toNatClampNeg) = 0) => ?_)
      · refine And.intro (by first | decide | exact mo_bl01 _) ?_
        exact mo_q hQ (mo_r0 (by ((try simp only [mo_bl0, Classical.not_not] at c1 c2); (try simp only [Int32.lt_iff_toInt_lt, Int32.le_iff_toInt_le, mo_ieq, Int32.toInt_zero, mo_n1, Nat.reduceAdd] at c1 c2 ⊢); omega))) rfl
      · refine And.intro (by first | decide | exact mo_bl01 _) ?_
        exact mo_q hQ (mo_r1 (by ((try simp only [mo_bl0, Classical.not_not] at c1 c2); (try simp only [Int32.lt_iff_toInt_lt, Int32.le_iff_toInt_le, mo_ieq, Int32.toInt_zero, mo_n1, Nat.reduceAdd] at c1 c2 ⊢); omega))) rfl
  · refine ⟨Nat.le_of_ble_eq_true rfl, mo_go ok_X4_isLive (mo_no_ok g _) [] 16 ?_⟩
    intro K hK
    refine And.intro (show vp_in n 40 by exact hpre) ?_
    refine And.intro (fun (c1 : day < (σ.1 27 0 n.toNatClampNeg)) => ?_) (fun (c1 : ¬ day < (σ.1 27 0 n.toNatClampNeg)) => ?_)
    · refine And.intro (by first | decide | exact mo_bl01 _) ?_
      exact mo_q hQ (mo_r0 (by ((try simp only [mo_bl0, Classical.not_not] at c1); (try simp only [Int32.lt_iff_toInt_lt, Int32.le_iff_toInt_le, mo_ieq, Int32.toInt_zero, mo_n1, Nat.reduceAdd] at c1 ⊢); omega))) rfl
    · refine And.intro (show vp_in n 40 by exact hpre) ?_
      refine And.intro (fun (c2 : ¬ (σ.1 26 0 n.toNatClampNeg) = 0) => ?_) (fun (c2 : (σ.1 26 0 n.toNatClampNeg) = 0) => ?_)
      · refine And.intro (by first | decide | exact mo_bl01 _) ?_
        exact mo_q hQ (mo_r0 (by ((try simp only [mo_bl0, Classical.not_not] at c1 c2); (try simp only [Int32.lt_iff_toInt_lt, Int32.le_iff_toInt_le, mo_ieq, Int32.toInt_zero, mo_n1, Nat.reduceAdd] at c1 c2 ⊢); omega))) rfl
      · refine And.intro (by first | decide | exact mo_bl01 _) ?_
        exact mo_q hQ (mo_r1 (by ((try simp only [mo_bl0, Classical.not_not] at c1 c2); (try simp only [Int32.lt_iff_toInt_lt, Int32.le_iff_toInt_le, mo_ieq, Int32.toInt_zero, mo_n1, Nat.reduceAdd] at c1 c2 ⊢); omega))) rfl
def S_X4_add : mo_S := fun as σ Q => ∃ o : Nat, ∃ a : Int32, ∃ b : Int32, ∃ c : Int32, as = [.inr (.inr (o, 0)), .inl a, .inl b, .inl c] ∧ ((o = 18 ∨ o = 23) ∧ vp_in (σ.1 o 0 4) 40) ∧ Q (some (.inl (σ.1 o 0 4 + 1 - 1))) (mo_wI (mo_wI (mo_wI (mo_wI σ (o + 1) 0 (σ.1 o 0 4).toNatClampNeg a) (o + 2) 0 (σ.1 o 0 4).toNatClampNeg b) (o + 4) 0 (σ.1 o 0 4).toNatClampNeg c) o 0 4 (σ.1 o 0 4 + 1))
theorem m_X4_add : ∀ (as : List mo_V) (σ : mo_M) (P P' : mo_Q), (∀ x τ, P x τ → P' x τ) → S_X4_add as σ P → S_X4_add as σ P' := by
  rintro as σ P P' h ⟨o, a, b, c, e, hp, hq⟩
  exact ⟨o, a, b, c, e, hp, h _ _ hq⟩
set_option maxRecDepth 20000 in
set_option maxHeartbeats 2000000 in
theorem ct_X4_add : mo_ct yX4_add t_X4_add S_X4_add := by
  refine mo_ct_of (by decide) rfl ?_
  rintro g as σ Q ⟨o, a, b, c, rfl, ⟨ho, hpre⟩, hQ⟩
  rcases ho with rfl | rfl
  · refine ⟨Nat.le_of_ble_eq_true rfl, mo_go ok_X4_add (mo_no_ok g _) [] 30 ?_⟩
    intro K hK
    refine And.intro (show vp_in (σ.1 18 0 4) 40 by exact hpre) ?_
    refine And.intro (show vp_in (σ.1 18 0 4) 40 by exact hpre) ?_
    refine And.intro (show vp_in (σ.1 18 0 4) 40 by exact hpre) ?_
    exact hQ
  · refine ⟨Nat.le_of_ble_eq_true rfl, mo_go ok_X4_add (mo_no_ok g _) [] 30 ?_⟩
    intro K hK
    refine And.intro (show vp_in (σ.1 23 0 4) 40 by exact hpre) ?_
    refine And.intro (show vp_in (σ.1 23 0 4) 40 by exact hpre) ?_
    refine And.intro (show vp_in (σ.1 23 0 4) 40 by exact hpre) ?_
    exact hQ
def S_X4_hasOneWithin : mo_S := fun as σ Q => ∃ m : Int32, ∃ day : Int32, as = [.inr (.inr (23, 0)), .inl m, .inl day] ∧ (mo_le (σ.1 23 0 4) 40) ∧ Q (some (.inl (mo_bl (∃ k, k < (σ.1 23 0 4).toNatClampNeg ∧ (σ.1 27 0 k ≤ day ∧ σ.1 26 0 k = 0) ∧ mo_bt m.toInt64 (σ.1 24 0 k) ∧ mo_bt m.toInt64 (σ.1 25 0 k))))) (σ)
theorem m_X4_hasOneWithin : ∀ (as : List mo_V) (σ : mo_M) (P P' : mo_Q), (∀ x τ, P x τ → P' x τ) → S_X4_hasOneWithin as σ P → S_X4_hasOneWithin as σ P' := by
  rintro as σ P P' h ⟨m, day, e, hp, hq⟩
  exact ⟨m, day, e, hp, h _ _ hq⟩
def cs_X4_hasOneWithin : Nat → mo_C := fun j => match j with
  | 0 => (3, true, 29, 4, S_X4_isLive)
  | 1 => (2, false, 33, 50, S_X11_contains)
  | _ => (0, false, 0, 50, fun _ _ _ => False)
theorem cs_X4_hasOneWithin_ok (g : mo_E) : ∀ j, mo_cok g t_X4_hasOneWithin (cs_X4_hasOneWithin j) ∧ mo_mon (cs_X4_hasOneWithin j) := by
  intro j
  unfold cs_X4_hasOneWithin
  split
  · exact ⟨mo_cokV ct_X4_isLive (by decide) ⟨_, _, rfl⟩ (by decide +kernel), m_X4_isLive⟩
  · exact ⟨mo_cokN ct_X11_contains (by simp [mo_nw, t_X4_hasOneWithin]) (by decide +kernel), m_X11_contains⟩
  · exact ⟨mo_cok0 g _, mo_mon0⟩
set_option maxRecDepth 20000 in
set_option maxHeartbeats 2000000 in
theorem lp_X4_hasOneWithin (g : mo_E) (σ : mo_M) (Q : mo_Q) (m day : Int32) (n : Nat) (hn : σ.1 23 0 4 = nI n) (hle : n ≤ 40) (hQ : Q (some (.inl (mo_bl (∃ k, k < n ∧ (σ.1 27 0 k ≤ day ∧ σ.1 26 0 k = 0) ∧ mo_bt m.toInt64 (σ.1 24 0 k) ∧ mo_bt m.toInt64 (σ.1 25 0 k))))) σ) : ∀ (d k : Nat), n < k + d → k ≤ n → (∀ j, j < k → ¬ (fun k => (σ.1 27 0 k ≤ day ∧ σ.1 26 0 k = 0) ∧ mo_bt m.toInt64 (σ.1 24 0 k) ∧ mo_bt m.toInt64 (σ.1 25 0 k)) j) → mo_X g t_X4_hasOneWithin Q 2 [some (.inr (.inr (23, 0))), some (.inl m), some (.inl day), some (.inl (nI k))] [] (σ) := by
  intro d
  induction d with
  | zero => intro k h1 h2; omega
  | succ d ih =>
    intro k h1 h2 hinv
    have hkc : (nI k).toNatClampNeg = k := mo_cl (by omega)
    refine mo_go ok_X4_hasOneWithin (cs_X4_hasOneWithin_ok g) [2] 34 ?_
    intro K hK
    refine And.intro (fun (c1 : (σ.1 23 0 4) ≤ (nI k)) => ?_) (fun (c1 : ¬ (σ.1 23 0 4) ≤ (nI k)) => ?_)
    · have hk : n ≤ k := mo_cge hn (by omega) (by omega) c1
      refine And.intro (by first | decide | exact mo_bl01 _) ?_
      exact mo_q hQ (mo_r0 (fun q => by obtain ⟨j, hj, q⟩ := q; exact hinv j (by omega) q)) rfl
    · have hk : k < n := mo_clt hn (by omega) (by omega) c1
      refine Exists.intro 23 (Exists.intro (nI k) (Exists.intro day (And.intro rfl (And.intro (show (23 = 18 ∨ 23 = 23) ∧ vp_in (nI k) 40 by exact ⟨Or.inr rfl, mo_inN (by omega) (by decide)⟩) ?_))))
      refine And.intro (fun (c2 : (mo_bl (σ.1 27 0 (nI k).toNatClampNeg ≤ day ∧ σ.1 26 0 (nI k).toNatClampNeg = 0)) = 0) => ?_) (fun (c2 : ¬ (mo_bl (σ.1 27 0 (nI k).toNatClampNeg ≤ day ∧ σ.1 26 0 (nI k).toNatClampNeg = 0)) = 0) => ?_)
      · (have hih := ih (k + 1) (by omega) (by omega) (lt_s hinv (by ((try simp only [hkc, mo_bl0, Classical.not_not, ← Int32.not_lt] at c2 ⊢); (try clear ih); (try clear hih); clear hK hQ; grind))); rw [nI_succ] at hih; exact hK _ _ _ _ hih)
      · refine And.intro (show vp_in (nI k) 40 by exact mo_inN (by omega) (by decide)) ?_
        refine Exists.intro m.toInt64 (Exists.intro (σ.1 24 0 ((nI k).toNatClampNeg)) (And.intro rfl (And.intro (show True by trivial) ?_)))
        refine And.intro (fun (c3 : (mo_bl (mo_bt m.toInt64 (σ.1 24 0 ((nI k).toNatClampNeg)))) = 0) => ?_) (fun (c3 : ¬ (mo_bl (mo_bt m.toInt64 (σ.1 24 0 ((nI k).toNatClampNeg)))) = 0) => ?_)
        · (have hih := ih (k + 1) (by omega) (by omega) (lt_s hinv (by ((try simp only [hkc, mo_bl0, Classical.not_not, ← Int32.not_lt] at c2 c3 ⊢); (try clear ih); (try clear hih); clear hK hQ; grind))); rw [nI_succ] at hih; exact hK _ _ _ _ hih)
        · refine And.intro (show vp_in (nI k) 40 by exact mo_inN (by omega) (by decide)) ?_
          refine Exists.intro m.toInt64 (Exists.intro (σ.1 25 0 ((nI k).toNatClampNeg)) (And.intro rfl (And.intro (show True by trivial) ?_)))
          refine And.intro (fun (c4 : (mo_bl (mo_bt m.toInt64 (σ.1 25 0 ((nI k).toNatClampNeg)))) = 0) => ?_) (fun (c4 : ¬ (mo_bl (mo_bt m.toInt64 (σ.1 25 0 ((nI k).toNatClampNeg)))) = 0) => ?_)
          · (have hih := ih (k + 1) (by omega) (by omega) (lt_s hinv (by ((try simp only [hkc, mo_bl0, Classical.not_not, ← Int32.not_lt] at c2 c3 c4 ⊢); (try clear ih); (try clear hih); clear hK hQ; grind))); rw [nI_succ] at hih; exact hK _ _ _ _ hih)
          · refine And.intro (by first | decide | exact mo_bl01 _) ?_
            exact mo_q hQ (mo_r1 ⟨k, hk, by ((try simp only [hkc, mo_bl0, Classical.not_not, ← Int32.not_lt] at c2 c3 c4 ⊢); (try clear ih); (try clear hih); clear hK hQ; grind)⟩) rfl
set_option maxRecDepth 20000 in
set_option maxHeartbeats 2000000 in
theorem ct_X4_hasOneWithin : mo_ct yX4_hasOneWithin t_X4_hasOneWithin S_X4_hasOneWithin := by
  refine mo_ct_of (by decide) rfl ?_
  rintro g as σ Q ⟨m, day, rfl, hpre, hQ⟩
  refine ⟨Nat.le_of_ble_eq_true rfl, mo_go ok_X4_hasOneWithin (cs_X4_hasOneWithin_ok g) [2] 34 ?_⟩
  intro K hK
  exact hK _ _ _ _ (lp_X4_hasOneWithin g σ Q m day _ hpre.1 hpre.2 hQ ((σ.1 23 0 4).toNatClampNeg + 1) 0 (by omega) (by omega) (fun j hj => by omega))
def S_X6_clear : mo_S := fun as σ Q => as = [.inr (.inr (36, 0))] ∧ (True) ∧ Q (none) (mo_rowI σ 37 0 (mo_fo (fun k r => upd r k 0) (σ.1 37 0) 10))
theorem m_X6_clear : ∀ (as : List mo_V) (σ : mo_M) (P P' : mo_Q), (∀ x τ, P x τ → P' x τ) → S_X6_clear as σ P → S_X6_clear as σ P' := by
  rintro as σ P P' h ⟨e, hp, hq⟩
  exact ⟨e, hp, h _ _ hq⟩
def cs_X6_clear : Nat → mo_C := fun j => match j with
  | 0 => (2, false, 15, 50, S_J7_fill_53178)
  | _ => (0, false, 0, 50, fun _ _ _ => False)
theorem cs_X6_clear_ok (g : mo_E) : ∀ j, mo_cok g t_X6_clear (cs_X6_clear j) ∧ mo_mon (cs_X6_clear j) := by
  intro j
  unfold cs_X6_clear
  split
  · exact ⟨mo_cokS ct_J7_fill_53178 (by decide +kernel), m_J7_fill_53178⟩
  · exact ⟨mo_cok0 g _, mo_mon0⟩
set_option maxRecDepth 20000 in
set_option maxHeartbeats 2000000 in
theorem ct_X6_clear : mo_ct yX6_clear t_X6_clear S_X6_clear := by
  refine mo_ct_of (by decide) rfl ?_
  rintro g as σ Q ⟨rfl, hpre, hQ⟩
  refine ⟨Nat.le_of_ble_eq_true rfl, mo_go ok_X6_clear (cs_X6_clear_ok g) [] 6 ?_⟩
  intro K hK
  refine Exists.intro (0 : Int32) (And.intro rfl (And.intro (show True by trivial) ?_))
  exact hQ
def S_X6_add : mo_S := fun as σ Q => ∃ a : Int32, ∃ b : Int32, as = [.inr (.inr (36, 0)), .inl a, .inl b] ∧ (vp_in a 10) ∧ Q (none) (mo_wI σ 37 0 a.toNatClampNeg (σ.1 37 0 a.toNatClampNeg ||| (1 : Int32) <<< (b &&& 31)))
theorem m_X6_add : ∀ (as : List mo_V) (σ : mo_M) (P P' : mo_Q), (∀ x τ, P x τ → P' x τ) → S_X6_add as σ P → S_X6_add as σ P' := by
  rintro as σ P P' h ⟨a, b, e, hp, hq⟩
  exact ⟨a, b, e, hp, h _ _ hq⟩
set_option maxRecDepth 20000 in
set_option maxHeartbeats 2000000 in
theorem ct_X6_add : mo_ct yX6_add t_X6_add S_X6_add := by
  refine mo_ct_of (by decide) rfl ?_
  rintro g as σ Q ⟨a, b, rfl, hpre, hQ⟩
  refine ⟨Nat.le_of_ble_eq_true rfl, mo_go ok_X6_add (mo_no_ok g _) [] 12 ?_⟩
  intro K hK
  refine And.intro (show vp_in a 10 by exact hpre) ?_
  refine And.intro (show vp_in a 10 by exact hpre) ?_
  exact hQ
def S_X6_areSettledBy : mo_S := fun as σ Q => ∃ a : Int32, as = [.inr (.inr (36, 0)), .inl a] ∧ (True) ∧ Q (some (.inl (mo_bl (∀ k, k < 10 → ¬ (¬ mo_bt a.toInt64 (nI k) ∧ ¬ (σ.1 37 0 k &&& (a ^^^ (-1 : Int32))) = 0))))) (σ)
theorem m_X6_areSettledBy : ∀ (as : List mo_V) (σ : mo_M) (P P' : mo_Q), (∀ x τ, P x τ → P' x τ) → S_X6_areSettledBy as σ P → S_X6_areSettledBy as σ P' := by
  rintro as σ P P' h ⟨a, e, hp, hq⟩
  exact ⟨a, e, hp, h _ _ hq⟩
def cs_X6_areSettledBy : Nat → mo_C := fun j => match j with
  | 0 => (2, false, 21, 50, S_X11_contains)
  | _ => (0, false, 0, 50, fun _ _ _ => False)
theorem cs_X6_areSettledBy_ok (g : mo_E) : ∀ j, mo_cok g t_X6_areSettledBy (cs_X6_areSettledBy j) ∧ mo_mon (cs_X6_areSettledBy j) := by
  intro j
  unfold cs_X6_areSettledBy
  split
  · exact ⟨mo_cokN ct_X11_contains (by simp [mo_nw, t_X6_areSettledBy]) (by decide +kernel), m_X11_contains⟩
  · exact ⟨mo_cok0 g _, mo_mon0⟩
set_option maxRecDepth 20000 in
set_option maxHeartbeats 2000000 in
theorem lp_X6_areSettledBy (g : mo_E) (σ : mo_M) (Q : mo_Q) (a : Int32) (n : Nat) (hn : (10 : Int32) = nI n) (hle : n ≤ 10) (hQ : Q (some (.inl (mo_bl (∀ k, k < n → ¬ (¬ mo_bt a.toInt64 (nI k) ∧ ¬ (σ.1 37 0 k &&& (a ^^^ (-1 : Int32))) = 0))))) σ) : ∀ (d k : Nat), n < k + d → k ≤ n → (∀ j, j < k → ¬ (fun k => ¬ mo_bt a.toInt64 (nI k) ∧ ¬ (σ.1 37 0 k &&& (a ^^^ (-1 : Int32))) = 0) j) → mo_X g t_X6_areSettledBy Q 2 [some (.inr (.inr (36, 0))), some (.inl a), some (.inl (nI k))] [] (σ) := by
  intro d
  induction d with
  | zero => intro k h1 h2; omega
  | succ d ih =>
    intro k h1 h2 hinv
    have hkc : (nI k).toNatClampNeg = k := mo_cl (by omega)
    refine mo_go ok_X6_areSettledBy (cs_X6_areSettledBy_ok g) [2] 26 ?_
    intro K hK
    refine And.intro (fun (c1 : (10 : Int32) ≤ (nI k)) => ?_) (fun (c1 : ¬ (10 : Int32) ≤ (nI k)) => ?_)
    · have hk : n ≤ k := mo_cge hn (by omega) (by omega) c1
      refine And.intro (by first | decide | exact mo_bl01 _) ?_
      exact mo_q hQ (mo_r1 (fun j hj => hinv j (by omega))) rfl
    · have hk : k < n := mo_clt hn (by omega) (by omega) c1
      refine Exists.intro a.toInt64 (Exists.intro (nI k) (And.intro rfl (And.intro (show True by trivial) ?_)))
      refine And.intro (fun (c2 : ¬ (mo_bl (mo_bt a.toInt64 (nI k))) = 0) => ?_) (fun (c2 : (mo_bl (mo_bt a.toInt64 (nI k))) = 0) => ?_)
      · (have hih := ih (k + 1) (by omega) (by omega) (lt_s hinv (by ((try simp only [hkc, mo_bl0, Classical.not_not, ← Int32.not_lt] at c2 ⊢); (try clear ih); (try clear hih); clear hK hQ; grind))); rw [nI_succ] at hih; exact hK _ _ _ _ hih)
      · refine And.intro (show vp_in (nI k) 10 by exact mo_inN (by omega) (by decide)) ?_
        refine And.intro (fun (c3 : ((σ.1 37 0 ((nI k).toNatClampNeg)) &&& (a ^^^ (-1 : Int32))) = 0) => ?_) (fun (c3 : ¬ ((σ.1 37 0 ((nI k).toNatClampNeg)) &&& (a ^^^ (-1 : Int32))) = 0) => ?_)
        · (have hih := ih (k + 1) (by omega) (by omega) (lt_s hinv (by ((try simp only [hkc, mo_bl0, Classical.not_not, ← Int32.not_lt] at c2 c3 ⊢); (try clear ih); (try clear hih); clear hK hQ; grind))); rw [nI_succ] at hih; exact hK _ _ _ _ hih)
        · refine And.intro (by first | decide | exact mo_bl01 _) ?_
          exact mo_q hQ (mo_r0 (fun q => q k hk (by ((try simp only [hkc, mo_bl0, Classical.not_not, ← Int32.not_lt] at c2 c3 ⊢); (try clear ih); (try clear hih); clear hK hQ; grind)))) rfl
set_option maxRecDepth 20000 in
set_option maxHeartbeats 2000000 in
theorem ct_X6_areSettledBy : mo_ct yX6_areSettledBy t_X6_areSettledBy S_X6_areSettledBy := by
  refine mo_ct_of (by decide) rfl ?_
  rintro g as σ Q ⟨a, rfl, hpre, hQ⟩
  refine ⟨Nat.le_of_ble_eq_true rfl, mo_go ok_X6_areSettledBy (cs_X6_areSettledBy_ok g) [2] 26 ?_⟩
  intro K hK
  exact hK _ _ _ _ (lp_X6_areSettledBy g σ Q a 10 rfl (by omega) hQ 11 0 (by omega) (by omega) (fun j hj => by omega))
def S_X1_isOf : mo_S := fun as σ Q => ∃ j : Int32, ∃ s : Int64, ∃ c : Int32, as = [.inr (.inr (12, 0)), .inl j, .inr (.inl s), .inl c] ∧ (vp_in j 100) ∧ Q (some (.inl (mo_bl (σ.1 17 0 j.toNatClampNeg ≤ c ∧ mo_bt s (σ.1 14 0 j.toNatClampNeg))))) (σ)
theorem m_X1_isOf : ∀ (as : List mo_V) (σ : mo_M) (P P' : mo_Q), (∀ x τ, P x τ → P' x τ) → S_X1_isOf as σ P → S_X1_isOf as σ P' := by
  rintro as σ P P' h ⟨j, s, c, e, hp, hq⟩
  exact ⟨j, s, c, e, hp, h _ _ hq⟩
def cs_X1_isOf : Nat → mo_C := fun j => match j with
  | 0 => (2, false, 35, 50, S_X11_contains)
  | _ => (0, false, 0, 50, fun _ _ _ => False)
theorem cs_X1_isOf_ok (g : mo_E) : ∀ j, mo_cok g t_X1_isOf (cs_X1_isOf j) ∧ mo_mon (cs_X1_isOf j) := by
  intro j
  unfold cs_X1_isOf
  split
  · exact ⟨mo_cokN ct_X11_contains (by simp [mo_nw, t_X1_isOf]) (by decide +kernel), m_X11_contains⟩
  · exact ⟨mo_cok0 g _, mo_mon0⟩
set_option maxRecDepth 20000 in
set_option maxHeartbeats 2000000 in
theorem ct_X1_isOf : mo_ct yX1_isOf t_X1_isOf S_X1_isOf := by
  refine mo_ct_of (by decide) rfl ?_
  rintro g as σ Q ⟨j, s, c, rfl, hpre, hQ⟩
  refine ⟨Nat.le_of_ble_eq_true rfl, mo_go ok_X1_isOf (cs_X1_isOf_ok g) [] 18 ?_⟩
  intro K hK
  refine And.intro (show vp_in j 100 by exact hpre) ?_
  refine And.intro (fun (c1 : c < (σ.1 17 0 j.toNatClampNeg)) => ?_) (fun (c1 : ¬ c < (σ.1 17 0 j.toNatClampNeg)) => ?_)
  · refine And.intro (by first | decide | exact mo_bl01 _) ?_
    exact mo_q hQ (mo_r0 (by ((try simp only [mo_bl0, Classical.not_not, ← Int32.not_lt] at c1 ⊢); clear hK hQ; grind))) rfl
  · refine And.intro (show vp_in j 100 by exact hpre) ?_
    refine Exists.intro s (Exists.intro (σ.1 14 0 j.toNatClampNeg) (And.intro rfl (And.intro (show True by trivial) ?_)))
    refine And.intro (fun (c2 : (mo_bl (mo_bt s (σ.1 14 0 j.toNatClampNeg))) = 0) => ?_) (fun (c2 : ¬ (mo_bl (mo_bt s (σ.1 14 0 j.toNatClampNeg))) = 0) => ?_)
    · refine And.intro (by first | decide | exact mo_bl01 _) ?_
      exact mo_q hQ (mo_r0 (by ((try simp only [mo_bl0, Classical.not_not, ← Int32.not_lt] at c1 c2 ⊢); clear hK hQ; grind))) rfl
    · refine And.intro (by first | decide | exact mo_bl01 _) ?_
      exact mo_q hQ (mo_r1 (by ((try simp only [mo_bl0, Classical.not_not, ← Int32.not_lt] at c1 c2 ⊢); clear hK hQ; grind))) rfl
def S_X1_sitesWith : mo_S := fun as σ Q => ∃ s : Int64, ∃ day : Int32, ∃ c : Int32, as = [.inr (.inr (12, 0)), .inr (.inl s), .inl day, .inl c] ∧ (mo_le (σ.1 12 0 5) 100) ∧ Q (some (.inl (mo_fo (fun k a => mo_ite ((σ.1 17 0 k ≤ c ∧ mo_bt s (σ.1 14 0 k)) ∧ σ.1 15 0 k ≤ day ∧ day ≤ σ.1 16 0 k) (a ||| (1 : Int32) <<< (σ.1 13 0 k &&& 31)) a) 0 (σ.1 12 0 5).toNatClampNeg))) (σ)
theorem m_X1_sitesWith : ∀ (as : List mo_V) (σ : mo_M) (P P' : mo_Q), (∀ x τ, P x τ → P' x τ) → S_X1_sitesWith as σ P → S_X1_sitesWith as σ P' := by
  rintro as σ P P' h ⟨s, day, c, e, hp, hq⟩
  exact ⟨s, day, c, e, hp, h _ _ hq⟩
def cs_X1_sitesWith : Nat → mo_C := fun j => match j with
  | 0 => (4, true, 31, 1, S_X1_isOf)
  | _ => (0, false, 0, 50, fun _ _ _ => False)
theorem cs_X1_sitesWith_ok (g : mo_E) : ∀ j, mo_cok g t_X1_sitesWith (cs_X1_sitesWith j) ∧ mo_mon (cs_X1_sitesWith j) := by
  intro j
  unfold cs_X1_sitesWith
  split
  · exact ⟨mo_cokV ct_X1_isOf (by decide) ⟨_, _, rfl⟩ (by decide +kernel), m_X1_isOf⟩
  · exact ⟨mo_cok0 g _, mo_mon0⟩
set_option maxRecDepth 20000 in
set_option maxHeartbeats 2000000 in
theorem lp_X1_sitesWith (g : mo_E) (σ : mo_M) (Q : mo_Q) (s : Int64) (day c : Int32) (n : Nat) (hn : σ.1 12 0 5 = nI n) (hle : n ≤ 100) (hQ : Q (some (.inl (mo_fo (fun k a => mo_ite ((σ.1 17 0 k ≤ c ∧ mo_bt s (σ.1 14 0 k)) ∧ σ.1 15 0 k ≤ day ∧ day ≤ σ.1 16 0 k) (a ||| (1 : Int32) <<< (σ.1 13 0 k &&& 31)) a) 0 n))) σ) : ∀ (d k : Nat), n < k + d → k ≤ n → (True) → mo_X g t_X1_sitesWith Q 6 [some (.inr (.inr (12, 0))), some (.inr (.inl s)), none, some (.inl day), some (.inl c), some (.inl (mo_fo (fun k a => mo_ite ((σ.1 17 0 k ≤ c ∧ mo_bt s (σ.1 14 0 k)) ∧ σ.1 15 0 k ≤ day ∧ day ≤ σ.1 16 0 k) (a ||| (1 : Int32) <<< (σ.1 13 0 k &&& 31)) a) 0 k)), some (.inl (nI k))] [] (σ) := by
  intro d
  induction d with
  | zero => intro k h1 h2; omega
  | succ d ih =>
    intro k h1 h2 hinv
    have hkc : (nI k).toNatClampNeg = k := mo_cl (by omega)
    refine mo_go ok_X1_sitesWith (cs_X1_sitesWith_ok g) [6] 40 ?_
    intro K hK
    refine And.intro (fun (c1 : (σ.1 12 0 5) ≤ (nI k)) => ?_) (fun (c1 : ¬ (σ.1 12 0 5) ≤ (nI k)) => ?_)
    · have hk : n ≤ k := mo_cge hn (by omega) (by omega) c1
      (have e : k = n := (by omega); subst e; exact hQ)
    · have hk : k < n := mo_clt hn (by omega) (by omega) c1
      refine Exists.intro (nI k) (Exists.intro s (Exists.intro c (And.intro rfl (And.intro (show vp_in (nI k) 100 by exact mo_inN (by omega) (by decide)) ?_))))
      refine And.intro (fun (c2 : (mo_bl (σ.1 17 0 (nI k).toNatClampNeg ≤ c ∧ mo_bt s (σ.1 14 0 (nI k).toNatClampNeg))) = 0) => ?_) (fun (c2 : ¬ (mo_bl (σ.1 17 0 (nI k).toNatClampNeg ≤ c ∧ mo_bt s (σ.1 14 0 (nI k).toNatClampNeg))) = 0) => ?_)
      · (have hih := ih (k + 1) (by omega) (by omega) trivial; have e : mo_fo (fun k a => mo_ite ((σ.1 17 0 k ≤ c ∧ mo_bt s (σ.1 14 0 k)) ∧ σ.1 15 0 k ≤ day ∧ day ≤ σ.1 16 0 k) (a ||| (1 : Int32) <<< (σ.1 13 0 k &&& 31)) a) 0 (k + 1) = mo_fo (fun k a => mo_ite ((σ.1 17 0 k ≤ c ∧ mo_bt s (σ.1 14 0 k)) ∧ σ.1 15 0 k ≤ day ∧ day ≤ σ.1 16 0 k) (a ||| (1 : Int32) <<< (σ.1 13 0 k &&& 31)) a) 0 k := mo_ite_f (by ((try simp only [hkc, mo_bl0, Classical.not_not, ← Int32.not_lt] at c2 ⊢); (try clear ih); (try clear hih); clear hK hQ; grind)); rw [nI_succ, e] at hih; refine hK _ _ _ _ (show mo_X g t_X1_sitesWith Q 6 [some (.inr (.inr (12, 0))), some (.inr (.inl s)), none, some (.inl day), some (.inl c), some (.inl (mo_fo (fun k a => mo_ite ((σ.1 17 0 k ≤ c ∧ mo_bt s (σ.1 14 0 k)) ∧ σ.1 15 0 k ≤ day ∧ day ≤ σ.1 16 0 k) (a ||| (1 : Int32) <<< (σ.1 13 0 k &&& 31)) a) 0 k)), some (.inl ((nI k) + (1 : Int32)))] [] (σ) from ?_); (try simp only [hkc]); exact hih)
      · refine And.intro (show vp_in (nI k) 100 by exact mo_inN (by omega) (by decide)) ?_
        refine And.intro (fun (c3 : day < (σ.1 15 0 ((nI k).toNatClampNeg))) => ?_) (fun (c3 : ¬ day < (σ.1 15 0 ((nI k).toNatClampNeg))) => ?_)
        · (have hih := ih (k + 1) (by omega) (by omega) trivial; have e : mo_fo (fun k a => mo_ite ((σ.1 17 0 k ≤ c ∧ mo_bt s (σ.1 14 0 k)) ∧ σ.1 15 0 k ≤ day ∧ day ≤ σ.1 16 0 k) (a ||| (1 : Int32) <<< (σ.1 13 0 k &&& 31)) a) 0 (k + 1) = mo_fo (fun k a => mo_ite ((σ.1 17 0 k ≤ c ∧ mo_bt s (σ.1 14 0 k)) ∧ σ.1 15 0 k ≤ day ∧ day ≤ σ.1 16 0 k) (a ||| (1 : Int32) <<< (σ.1 13 0 k &&& 31)) a) 0 k := mo_ite_f (by ((try simp only [hkc, mo_bl0, Classical.not_not, ← Int32.not_lt] at c2 c3 ⊢); (try clear ih); (try clear hih); clear hK hQ; grind)); rw [nI_succ, e] at hih; refine hK _ _ _ _ (show mo_X g t_X1_sitesWith Q 6 [some (.inr (.inr (12, 0))), some (.inr (.inl s)), none, some (.inl day), some (.inl c), some (.inl (mo_fo (fun k a => mo_ite ((σ.1 17 0 k ≤ c ∧ mo_bt s (σ.1 14 0 k)) ∧ σ.1 15 0 k ≤ day ∧ day ≤ σ.1 16 0 k) (a ||| (1 : Int32) <<< (σ.1 13 0 k &&& 31)) a) 0 k)), some (.inl ((nI k) + (1 : Int32)))] [] (σ) from ?_); (try simp only [hkc]); exact hih)
        · refine And.intro (show vp_in (nI k) 100 by exact mo_inN (by omega) (by decide)) ?_
          refine And.intro (fun (c4 : (σ.1 16 0 ((nI k).toNatClampNeg)) < day) => ?_) (fun (c4 : ¬ (σ.1 16 0 ((nI k).toNatClampNeg)) < day) => ?_)
          · (have hih := ih (k + 1) (by omega) (by omega) trivial; have e : mo_fo (fun k a => mo_ite ((σ.1 17 0 k ≤ c ∧ mo_bt s (σ.1 14 0 k)) ∧ σ.1 15 0 k ≤ day ∧ day ≤ σ.1 16 0 k) (a ||| (1 : Int32) <<< (σ.1 13 0 k &&& 31)) a) 0 (k + 1) = mo_fo (fun k a => mo_ite ((σ.1 17 0 k ≤ c ∧ mo_bt s (σ.1 14 0 k)) ∧ σ.1 15 0 k ≤ day ∧ day ≤ σ.1 16 0 k) (a ||| (1 : Int32) <<< (σ.1 13 0 k &&& 31)) a) 0 k := mo_ite_f (by ((try simp only [hkc, mo_bl0, Classical.not_not, ← Int32.not_lt] at c2 c3 c4 ⊢); (try clear ih); (try clear hih); clear hK hQ; grind)); rw [nI_succ, e] at hih; refine hK _ _ _ _ (show mo_X g t_X1_sitesWith Q 6 [some (.inr (.inr (12, 0))), some (.inr (.inl s)), none, some (.inl day), some (.inl c), some (.inl (mo_fo (fun k a => mo_ite ((σ.1 17 0 k ≤ c ∧ mo_bt s (σ.1 14 0 k)) ∧ σ.1 15 0 k ≤ day ∧ day ≤ σ.1 16 0 k) (a ||| (1 : Int32) <<< (σ.1 13 0 k &&& 31)) a) 0 k)), some (.inl ((nI k) + (1 : Int32)))] [] (σ) from ?_); (try simp only [hkc]); exact hih)
          · refine And.intro (show vp_in (nI k) 100 by exact mo_inN (by omega) (by decide)) ?_
            (have hih := ih (k + 1) (by omega) (by omega) trivial; have e : mo_fo (fun k a => mo_ite ((σ.1 17 0 k ≤ c ∧ mo_bt s (σ.1 14 0 k)) ∧ σ.1 15 0 k ≤ day ∧ day ≤ σ.1 16 0 k) (a ||| (1 : Int32) <<< (σ.1 13 0 k &&& 31)) a) 0 (k + 1) = (mo_fo (fun k a => mo_ite ((σ.1 17 0 k ≤ c ∧ mo_bt s (σ.1 14 0 k)) ∧ σ.1 15 0 k ≤ day ∧ day ≤ σ.1 16 0 k) (a ||| (1 : Int32) <<< (σ.1 13 0 k &&& 31)) a) 0 k) ||| ((1 : Int32) <<< ((σ.1 13 0 (k)) &&& 31)) := mo_ite_t (by ((try simp only [hkc, mo_bl0, Classical.not_not, ← Int32.not_lt] at c2 c3 c4 ⊢); (try clear ih); (try clear hih); clear hK hQ; grind)); rw [nI_succ, e] at hih; refine hK _ _ _ _ (show mo_X g t_X1_sitesWith Q 6 [some (.inr (.inr (12, 0))), some (.inr (.inl s)), none, some (.inl day), some (.inl c), some (.inl ((mo_fo (fun k a => mo_ite ((σ.1 17 0 k ≤ c ∧ mo_bt s (σ.1 14 0 k)) ∧ σ.1 15 0 k ≤ day ∧ day ≤ σ.1 16 0 k) (a ||| (1 : Int32) <<< (σ.1 13 0 k &&& 31)) a) 0 k) ||| ((1 : Int32) <<< ((σ.1 13 0 ((nI k).toNatClampNeg)) &&& 31)))), some (.inl ((nI k) + (1 : Int32)))] [] (σ) from ?_); (try simp only [hkc]); exact hih)
set_option maxRecDepth 20000 in
set_option maxHeartbeats 2000000 in
theorem ct_X1_sitesWith : mo_ct yX1_sitesWith t_X1_sitesWith S_X1_sitesWith := by
  refine mo_ct_of (by decide) rfl ?_
  rintro g as σ Q ⟨s, day, c, rfl, hpre, hQ⟩
  refine ⟨Nat.le_of_ble_eq_true rfl, mo_go ok_X1_sitesWith (cs_X1_sitesWith_ok g) [6] 40 ?_⟩
  intro K hK
  exact hK _ _ _ _ (lp_X1_sitesWith g σ Q s day c _ hpre.1 hpre.2 hQ ((σ.1 12 0 5).toNatClampNeg + 1) 0 (by omega) (by omega) trivial)
def S_X1_firstDay : mo_S := fun as σ Q => ∃ site : Int32, ∃ s : Int64, ∃ c : Int32, as = [.inr (.inr (12, 0)), .inl site, .inr (.inl s), .inl c] ∧ (mo_le (σ.1 12 0 5) 100) ∧ Q (some (.inl (mo_fo (fun k a => mo_ite (σ.1 13 0 k = site ∧ (σ.1 17 0 k ≤ c ∧ mo_bt s (σ.1 14 0 k)) ∧ (a = (-1 : Int32) ∨ σ.1 15 0 k < a)) (σ.1 15 0 k) a) (-1 : Int32) (σ.1 12 0 5).toNatClampNeg))) (σ)
theorem m_X1_firstDay : ∀ (as : List mo_V) (σ : mo_M) (P P' : mo_Q), (∀ x τ, P x τ → P' x τ) → S_X1_firstDay as σ P → S_X1_firstDay as σ P' := by
  rintro as σ P P' h ⟨site, s, c, e, hp, hq⟩
  exact ⟨site, s, c, e, hp, h _ _ hq⟩
def cs_X1_firstDay : Nat → mo_C := fun j => match j with
  | 0 => (4, true, 31, 1, S_X1_isOf)
  | _ => (0, false, 0, 50, fun _ _ _ => False)
theorem cs_X1_firstDay_ok (g : mo_E) : ∀ j, mo_cok g t_X1_firstDay (cs_X1_firstDay j) ∧ mo_mon (cs_X1_firstDay j) := by
  intro j
  unfold cs_X1_firstDay
  split
  · exact ⟨mo_cokV ct_X1_isOf (by decide) ⟨_, _, rfl⟩ (by decide +kernel), m_X1_isOf⟩
  · exact ⟨mo_cok0 g _, mo_mon0⟩
set_option maxRecDepth 20000 in
set_option maxHeartbeats 2000000 in
theorem lp_X1_firstDay (g : mo_E) (σ : mo_M) (Q : mo_Q) (site : Int32) (s : Int64) (c : Int32) (n : Nat) (hn : σ.1 12 0 5 = nI n) (hle : n ≤ 100) (hQ : Q (some (.inl (mo_fo (fun k a => mo_ite (σ.1 13 0 k = site ∧ (σ.1 17 0 k ≤ c ∧ mo_bt s (σ.1 14 0 k)) ∧ (a = (-1 : Int32) ∨ σ.1 15 0 k < a)) (σ.1 15 0 k) a) (-1 : Int32) n))) σ) : ∀ (d k : Nat), n < k + d → k ≤ n → (True) → mo_X g t_X1_firstDay Q 6 [some (.inr (.inr (12, 0))), some (.inl site), some (.inr (.inl s)), none, some (.inl c), some (.inl (mo_fo (fun k a => mo_ite (σ.1 13 0 k = site ∧ (σ.1 17 0 k ≤ c ∧ mo_bt s (σ.1 14 0 k)) ∧ (a = (-1 : Int32) ∨ σ.1 15 0 k < a)) (σ.1 15 0 k) a) (-1 : Int32) k)), some (.inl (nI k))] [] (σ) := by
  intro d
  induction d with
  | zero => intro k h1 h2; omega
  | succ d ih =>
    intro k h1 h2 hinv
    have hkc : (nI k).toNatClampNeg = k := mo_cl (by omega)
    refine mo_go ok_X1_firstDay (cs_X1_firstDay_ok g) [6] 39 ?_
    intro K hK
    refine And.intro (fun (c1 : (σ.1 12 0 5) ≤ (nI k)) => ?_) (fun (c1 : ¬ (σ.1 12 0 5) ≤ (nI k)) => ?_)
    · have hk : n ≤ k := mo_cge hn (by omega) (by omega) c1
      (have e : k = n := (by omega); subst e; exact hQ)
    · have hk : k < n := mo_clt hn (by omega) (by omega) c1
      refine And.intro (show vp_in (nI k) 100 by exact mo_inN (by omega) (by decide)) ?_
      refine And.intro (fun (c2 : ¬ (σ.1 13 0 ((nI k).toNatClampNeg)) = site) => ?_) (fun (c2 : (σ.1 13 0 ((nI k).toNatClampNeg)) = site) => ?_)
      · (have hih := ih (k + 1) (by omega) (by omega) trivial; have e : mo_fo (fun k a => mo_ite (σ.1 13 0 k = site ∧ (σ.1 17 0 k ≤ c ∧ mo_bt s (σ.1 14 0 k)) ∧ (a = (-1 : Int32) ∨ σ.1 15 0 k < a)) (σ.1 15 0 k) a) (-1 : Int32) (k + 1) = mo_fo (fun k a => mo_ite (σ.1 13 0 k = site ∧ (σ.1 17 0 k ≤ c ∧ mo_bt s (σ.1 14 0 k)) ∧ (a = (-1 : Int32) ∨ σ.1 15 0 k < a)) (σ.1 15 0 k) a) (-1 : Int32) k := mo_ite_f (by ((try simp only [hkc, mo_bl0, Classical.not_not, ← Int32.not_lt] at c2 ⊢); (try clear ih); (try clear hih); clear hK hQ; grind)); rw [nI_succ, e] at hih; refine hK _ _ _ _ (show mo_X g t_X1_firstDay Q 6 [some (.inr (.inr (12, 0))), some (.inl site), some (.inr (.inl s)), none, some (.inl c), some (.inl (mo_fo (fun k a => mo_ite (σ.1 13 0 k = site ∧ (σ.1 17 0 k ≤ c ∧ mo_bt s (σ.1 14 0 k)) ∧ (a = (-1 : Int32) ∨ σ.1 15 0 k < a)) (σ.1 15 0 k) a) (-1 : Int32) k)), some (.inl ((nI k) + (1 : Int32)))] [] (σ) from ?_); (try simp only [hkc]); exact hih)
      · refine Exists.intro (nI k) (Exists.intro s (Exists.intro c (And.intro rfl (And.intro (show vp_in (nI k) 100 by exact mo_inN (by omega) (by decide)) ?_))))
        refine And.intro (fun (c3 : (mo_bl (σ.1 17 0 (nI k).toNatClampNeg ≤ c ∧ mo_bt s (σ.1 14 0 (nI k).toNatClampNeg))) = 0) => ?_) (fun (c3 : ¬ (mo_bl (σ.1 17 0 (nI k).toNatClampNeg ≤ c ∧ mo_bt s (σ.1 14 0 (nI k).toNatClampNeg))) = 0) => ?_)
        · (have hih := ih (k + 1) (by omega) (by omega) trivial; have e : mo_fo (fun k a => mo_ite (σ.1 13 0 k = site ∧ (σ.1 17 0 k ≤ c ∧ mo_bt s (σ.1 14 0 k)) ∧ (a = (-1 : Int32) ∨ σ.1 15 0 k < a)) (σ.1 15 0 k) a) (-1 : Int32) (k + 1) = mo_fo (fun k a => mo_ite (σ.1 13 0 k = site ∧ (σ.1 17 0 k ≤ c ∧ mo_bt s (σ.1 14 0 k)) ∧ (a = (-1 : Int32) ∨ σ.1 15 0 k < a)) (σ.1 15 0 k) a) (-1 : Int32) k := mo_ite_f (by ((try simp only [hkc, mo_bl0, Classical.not_not, ← Int32.not_lt] at c2 c3 ⊢); (try clear ih); (try clear hih); clear hK hQ; grind)); rw [nI_succ, e] at hih; refine hK _ _ _ _ (show mo_X g t_X1_firstDay Q 6 [some (.inr (.inr (12, 0))), some (.inl site), some (.inr (.inl s)), none, some (.inl c), some (.inl (mo_fo (fun k a => mo_ite (σ.1 13 0 k = site ∧ (σ.1 17 0 k ≤ c ∧ mo_bt s (σ.1 14 0 k)) ∧ (a = (-1 : Int32) ∨ σ.1 15 0 k < a)) (σ.1 15 0 k) a) (-1 : Int32) k)), some (.inl ((nI k) + (1 : Int32)))] [] (σ) from ?_); (try simp only [hkc]); exact hih)
        · refine And.intro (fun (c4 : (mo_fo (fun k a => mo_ite (σ.1 13 0 k = site ∧ (σ.1 17 0 k ≤ c ∧ mo_bt s (σ.1 14 0 k)) ∧ (a = (-1 : Int32) ∨ σ.1 15 0 k < a)) (σ.1 15 0 k) a) (-1 : Int32) k) = (-1 : Int32)) => ?_) (fun (c4 : ¬ (mo_fo (fun k a => mo_ite (σ.1 13 0 k = site ∧ (σ.1 17 0 k ≤ c ∧ mo_bt s (σ.1 14 0 k)) ∧ (a = (-1 : Int32) ∨ σ.1 15 0 k < a)) (σ.1 15 0 k) a) (-1 : Int32) k) = (-1 : Int32)) => ?_)
          · refine And.intro (show vp_in (nI k) 100 by exact mo_inN (by omega) (by decide)) ?_
            (have hih := ih (k + 1) (by omega) (by omega) trivial; have e : mo_fo (fun k a => mo_ite (σ.1 13 0 k = site ∧ (σ.1 17 0 k ≤ c ∧ mo_bt s (σ.1 14 0 k)) ∧ (a = (-1 : Int32) ∨ σ.1 15 0 k < a)) (σ.1 15 0 k) a) (-1 : Int32) (k + 1) = σ.1 15 0 (k) := mo_ite_t (by ((try simp only [hkc, mo_bl0, Classical.not_not, ← Int32.not_lt] at c2 c3 c4 ⊢); (try clear ih); (try clear hih); clear hK hQ; grind)); rw [nI_succ, e] at hih; refine hK _ _ _ _ (show mo_X g t_X1_firstDay Q 6 [some (.inr (.inr (12, 0))), some (.inl site), some (.inr (.inl s)), none, some (.inl c), some (.inl (σ.1 15 0 ((nI k).toNatClampNeg))), some (.inl ((nI k) + (1 : Int32)))] [] (σ) from ?_); (try simp only [hkc]); exact hih)
          · refine And.intro (show vp_in (nI k) 100 by exact mo_inN (by omega) (by decide)) ?_
            refine And.intro (fun (c5 : (mo_fo (fun k a => mo_ite (σ.1 13 0 k = site ∧ (σ.1 17 0 k ≤ c ∧ mo_bt s (σ.1 14 0 k)) ∧ (a = (-1 : Int32) ∨ σ.1 15 0 k < a)) (σ.1 15 0 k) a) (-1 : Int32) k) ≤ (σ.1 15 0 ((nI k).toNatClampNeg))) => ?_) (fun (c5 : ¬ (mo_fo (fun k a => mo_ite (σ.1 13 0 k = site ∧ (σ.1 17 0 k ≤ c ∧ mo_bt s (σ.1 14 0 k)) ∧ (a = (-1 : Int32) ∨ σ.1 15 0 k < a)) (σ.1 15 0 k) a) (-1 : Int32) k) ≤ (σ.1 15 0 ((nI k).toNatClampNeg))) => ?_)
            · (have hih := ih (k + 1) (by omega) (by omega) trivial; have e : mo_fo (fun k a => mo_ite (σ.1 13 0 k = site ∧ (σ.1 17 0 k ≤ c ∧ mo_bt s (σ.1 14 0 k)) ∧ (a = (-1 : Int32) ∨ σ.1 15 0 k < a)) (σ.1 15 0 k) a) (-1 : Int32) (k + 1) = mo_fo (fun k a => mo_ite (σ.1 13 0 k = site ∧ (σ.1 17 0 k ≤ c ∧ mo_bt s (σ.1 14 0 k)) ∧ (a = (-1 : Int32) ∨ σ.1 15 0 k < a)) (σ.1 15 0 k) a) (-1 : Int32) k := mo_ite_f (by ((try simp only [hkc, mo_bl0, Classical.not_not, ← Int32.not_lt] at c2 c3 c4 c5 ⊢); (try clear ih); (try clear hih); clear hK hQ; grind)); rw [nI_succ, e] at hih; refine hK _ _ _ _ (show mo_X g t_X1_firstDay Q 6 [some (.inr (.inr (12, 0))), some (.inl site), some (.inr (.inl s)), none, some (.inl c), some (.inl (mo_fo (fun k a => mo_ite (σ.1 13 0 k = site ∧ (σ.1 17 0 k ≤ c ∧ mo_bt s (σ.1 14 0 k)) ∧ (a = (-1 : Int32) ∨ σ.1 15 0 k < a)) (σ.1 15 0 k) a) (-1 : Int32) k)), some (.inl ((nI k) + (1 : Int32)))] [] (σ) from ?_); (try simp only [hkc]); exact hih)
            · refine And.intro (show vp_in (nI k) 100 by exact mo_inN (by omega) (by decide)) ?_
              (have hih := ih (k + 1) (by omega) (by omega) trivial; have e : mo_fo (fun k a => mo_ite (σ.1 13 0 k = site ∧ (σ.1 17 0 k ≤ c ∧ mo_bt s (σ.1 14 0 k)) ∧ (a = (-1 : Int32) ∨ σ.1 15 0 k < a)) (σ.1 15 0 k) a) (-1 : Int32) (k + 1) = σ.1 15 0 (k) := mo_ite_t (by ((try simp only [hkc, mo_bl0, Classical.not_not, ← Int32.not_lt] at c2 c3 c4 c5 ⊢); (try clear ih); (try clear hih); clear hK hQ; grind)); rw [nI_succ, e] at hih; refine hK _ _ _ _ (show mo_X g t_X1_firstDay Q 6 [some (.inr (.inr (12, 0))), some (.inl site), some (.inr (.inl s)), none, some (.inl c), some (.inl (σ.1 15 0 ((nI k).toNatClampNeg))), some (.inl ((nI k) + (1 : Int32)))] [] (σ) from ?_); (try simp only [hkc]); exact hih)
set_option maxRecDepth 20000 in
set_option maxHeartbeats 2000000 in
theorem ct_X1_firstDay : mo_ct yX1_firstDay t_X1_firstDay S_X1_firstDay := by
  refine mo_ct_of (by decide) rfl ?_
  rintro g as σ Q ⟨site, s, c, rfl, hpre, hQ⟩
  refine ⟨Nat.le_of_ble_eq_true rfl, mo_go ok_X1_firstDay (cs_X1_firstDay_ok g) [6] 39 ?_⟩
  intro K hK
  exact hK _ _ _ _ (lp_X1_firstDay g σ Q site s c _ hpre.1 hpre.2 hQ ((σ.1 12 0 5).toNatClampNeg + 1) 0 (by omega) (by omega) trivial)
end
section
/-- knowing less of the locals -/
def mo_ll : mo_L → mo_L → Prop
  | [], _ => True
  | none :: r, _ :: r' => mo_ll r r'
  | some v :: r, b :: r' => b = some v ∧ mo_ll r r'
  | _ :: _, [] => False
theorem mo_ll_of : ∀ (a b : mo_L), mo_ll a b → ∀ (j : Nat) (v : mo_V), mo_lk a j = some v → mo_lk b j = some v
  | [], _, _, j, v, h => by cases h
  | none :: r, b :: r', h, 0, v, q => by cases q
  | none :: r, b :: r', h, j + 1, v, q => mo_ll_of r r' h j v q
  | some u :: r, b :: r', h, 0, v, q => by cases q; exact h.1
  | some u :: r, b :: r', h, j + 1, v, q => mo_ll_of r r' h.2 j v q
  | none :: r, [], h, j, v, q => h.elim
  | some u :: r, [], h, j, v, q => h.elim
theorem mo_wk {g : mo_E} {mt : mo_T} {Q : mo_Q} {pc : Nat} {a b : mo_L} {st : List mo_V} {σ : mo_M} (h : mo_ll a b) (hX : mo_X g mt Q pc a st σ) : mo_X g mt Q pc b st σ := by
  intro p l e s m args below meth c cells slots QQ C H locs A hP hS hl
  refine hX p l e s m args below meth c cells slots QQ C H locs A hP hS ⟨hl.1, hl.2.1, fun q hq => hl.2.2 q ?_⟩
  obtain ⟨j, v, hj, rfl⟩ := (mo_lp_mem g.2.2.1 a 0 q).mp hq
  exact (mo_lp_mem g.2.2.1 b 0 _).mpr ⟨j, v, mo_ll_of a b h j v hj, rfl⟩
def S_X10_lay : mo_S := fun as σ Q => ∃ day : Int32, ∃ z : Int32, as = [.inr (.inr (33, 0)), .inr (.inr (6, 0)), .inl day, .inl z] ∧ (mo_le (σ.1 6 0 5) 200 ∧ ∀ k, k < (σ.1 6 0 5).toNatClampNeg → vp_in (σ.1 7 0 k) 60) ∧ Q (none) (mo_rowL σ 34 0 (mo_fo (fun k r => mo_ite ((σ.1 10 0 k ≤ day ∧ day < σ.1 11 0 k) ∧ (¬ z = 0 ∨ ¬ σ.1 9 0 k = 3)) (vp_updL r (σ.1 7 0 k).toNatClampNeg (r (σ.1 7 0 k).toNatClampNeg ||| (1 : Int64) <<< ((σ.1 8 0 k).toInt64 &&& 63))) r) (mo_fo (fun k r => vp_updL r k 0) (σ.2 34 0) 60) (σ.1 6 0 5).toNatClampNeg))
theorem m_X10_lay : ∀ (as : List mo_V) (σ : mo_M) (P P' : mo_Q), (∀ x τ, P x τ → P' x τ) → S_X10_lay as σ P → S_X10_lay as σ P' := by
  rintro as σ P P' h ⟨day, z, e, hp, hq⟩
  exact ⟨day, z, e, hp, h _ _ hq⟩
def cs_X10_lay : Nat → mo_C := fun j => match j with
  | 0 => (2, false, 22, 50, S_J7_fill_d0a16)
  | 1 => (3, true, 33, 2, S_X2_isLive)
  | _ => (0, false, 0, 50, fun _ _ _ => False)
theorem cs_X10_lay_ok (g : mo_E) : ∀ j, mo_cok g t_X10_lay (cs_X10_lay j) ∧ mo_mon (cs_X10_lay j) := by
  intro j
  unfold cs_X10_lay
  split
  · exact ⟨mo_cokS ct_J7_fill_d0a16 (by decide +kernel), m_J7_fill_d0a16⟩
  · exact ⟨mo_cokV ct_X2_isLive (by decide) ⟨_, _, rfl⟩ (by decide +kernel), m_X2_isLive⟩
  · exact ⟨mo_cok0 g _, mo_mon0⟩
set_option maxRecDepth 20000 in
set_option maxHeartbeats 2000000 in
theorem lp_X10_lay (g : mo_E) (σ : mo_M) (Q : mo_Q) (day z : Int32) (n : Nat) (hn : σ.1 6 0 5 = nI n) (hle : n ≤ 200) (hin : ∀ k, k < n → vp_in (σ.1 7 0 k) 60) (hQ : Q none (mo_rowL σ 34 0 (mo_fo (fun k r => mo_ite ((σ.1 10 0 k ≤ day ∧ day < σ.1 11 0 k) ∧ (¬ z = 0 ∨ ¬ σ.1 9 0 k = 3)) (vp_updL r (σ.1 7 0 k).toNatClampNeg (r (σ.1 7 0 k).toNatClampNeg ||| (1 : Int64) <<< ((σ.1 8 0 k).toInt64 &&& 63))) r) (mo_fo (fun k r => vp_updL r k 0) (σ.2 34 0) 60) n))) : ∀ (d k : Nat), n < k + d → k ≤ n → (True) → mo_X g t_X10_lay Q 11 [some (.inr (.inr (33, 0))), some (.inr (.inr (6, 0))), some (.inl day), some (.inl z), some (.inl (nI k))] [] (mo_rowL σ 34 0 (mo_fo (fun k r => mo_ite ((σ.1 10 0 k ≤ day ∧ day < σ.1 11 0 k) ∧ (¬ z = 0 ∨ ¬ σ.1 9 0 k = 3)) (vp_updL r (σ.1 7 0 k).toNatClampNeg (r (σ.1 7 0 k).toNatClampNeg ||| (1 : Int64) <<< ((σ.1 8 0 k).toInt64 &&& 63))) r) (mo_fo (fun k r => vp_updL r k 0) (σ.2 34 0) 60) k)) := by
  intro d
  induction d with
  | zero => intro k h1 h2; omega
  | succ d ih =>
    intro k h1 h2 hinv
    have hkc : (nI k).toNatClampNeg = k := mo_cl (by omega)
    refine mo_go ok_X10_lay (cs_X10_lay_ok g) [11] 43 ?_
    intro K hK
    refine And.intro (fun (c1 : (σ.1 6 0 5) ≤ (nI k)) => ?_) (fun (c1 : ¬ (σ.1 6 0 5) ≤ (nI k)) => ?_)
    · have hk : n ≤ k := mo_cge hn (by omega) (by omega) c1
      (have e : k = n := (by omega); subst e; exact hQ)
    · have hk : k < n := mo_clt hn (by omega) (by omega) c1
      refine Exists.intro (nI k) (Exists.intro day (And.intro rfl (And.intro (show vp_in (nI k) 200 by exact mo_inN (by omega) (by decide)) ?_)))
      refine And.intro (fun (c2 : (mo_bl (σ.1 10 0 (nI k).toNatClampNeg ≤ day ∧ day < σ.1 11 0 (nI k).toNatClampNeg)) = 0) => ?_) (fun (c2 : ¬ (mo_bl (σ.1 10 0 (nI k).toNatClampNeg ≤ day ∧ day < σ.1 11 0 (nI k).toNatClampNeg)) = 0) => ?_)
      · (have hih := ih (k + 1) (by omega) (by omega) trivial; have e : mo_fo (fun k r => mo_ite ((σ.1 10 0 k ≤ day ∧ day < σ.1 11 0 k) ∧ (¬ z = 0 ∨ ¬ σ.1 9 0 k = 3)) (vp_updL r (σ.1 7 0 k).toNatClampNeg (r (σ.1 7 0 k).toNatClampNeg ||| (1 : Int64) <<< ((σ.1 8 0 k).toInt64 &&& 63))) r) (mo_fo (fun k r => vp_updL r k 0) (σ.2 34 0) 60) (k + 1) = mo_fo (fun k r => mo_ite ((σ.1 10 0 k ≤ day ∧ day < σ.1 11 0 k) ∧ (¬ z = 0 ∨ ¬ σ.1 9 0 k = 3)) (vp_updL r (σ.1 7 0 k).toNatClampNeg (r (σ.1 7 0 k).toNatClampNeg ||| (1 : Int64) <<< ((σ.1 8 0 k).toInt64 &&& 63))) r) (mo_fo (fun k r => vp_updL r k 0) (σ.2 34 0) 60) k := mo_ite_f (by ((try simp only [hkc, mo_bl0, Classical.not_not, ← Int32.not_lt] at c2 ⊢); (try clear ih); (try clear hih); clear hK hQ; grind)); rw [nI_succ, e] at hih; exact hK _ _ _ _ hih)
      · refine And.intro (fun (c3 : ¬ z = 0) => ?_) (fun (c3 : z = 0) => ?_)
        · refine And.intro (show vp_in (nI k) 200 by exact mo_inN (by omega) (by decide)) ?_
          refine And.intro (show vp_in (σ.1 7 0 ((nI k).toNatClampNeg)) 60 by rw [hkc]; exact hin k hk) ?_
          refine And.intro (show vp_in (nI k) 200 by exact mo_inN (by omega) (by decide)) ?_
          refine And.intro (show vp_in (σ.1 7 0 ((nI k).toNatClampNeg)) 60 by rw [hkc]; exact hin k hk) ?_
          (have hih := ih (k + 1) (by omega) (by omega) trivial; have e : mo_fo (fun k r => mo_ite ((σ.1 10 0 k ≤ day ∧ day < σ.1 11 0 k) ∧ (¬ z = 0 ∨ ¬ σ.1 9 0 k = 3)) (vp_updL r (σ.1 7 0 k).toNatClampNeg (r (σ.1 7 0 k).toNatClampNeg ||| (1 : Int64) <<< ((σ.1 8 0 k).toInt64 &&& 63))) r) (mo_fo (fun k r => vp_updL r k 0) (σ.2 34 0) 60) (k + 1) = vp_updL (mo_fo (fun k r => mo_ite ((σ.1 10 0 k ≤ day ∧ day < σ.1 11 0 k) ∧ (¬ z = 0 ∨ ¬ σ.1 9 0 k = 3)) (vp_updL r (σ.1 7 0 k).toNatClampNeg (r (σ.1 7 0 k).toNatClampNeg ||| (1 : Int64) <<< ((σ.1 8 0 k).toInt64 &&& 63))) r) (mo_fo (fun k r => vp_updL r k 0) (σ.2 34 0) 60) k) ((σ.1 7 0 (k)).toNatClampNeg) (((mo_fo (fun k r => mo_ite ((σ.1 10 0 k ≤ day ∧ day < σ.1 11 0 k) ∧ (¬ z = 0 ∨ ¬ σ.1 9 0 k = 3)) (vp_updL r (σ.1 7 0 k).toNatClampNeg (r (σ.1 7 0 k).toNatClampNeg ||| (1 : Int64) <<< ((σ.1 8 0 k).toInt64 &&& 63))) r) (mo_fo (fun k r => vp_updL r k 0) (σ.2 34 0) 60) k) ((σ.1 7 0 (k)).toNatClampNeg)) ||| ((1 : Int64) <<< ((σ.1 8 0 (k)).toInt64 &&& 63))) := mo_ite_t (by ((try simp only [hkc, mo_bl0, Classical.not_not, ← Int32.not_lt] at c2 c3 ⊢); (try clear ih); (try clear hih); clear hK hQ; grind)); rw [nI_succ, e] at hih; refine hK _ _ _ _ (show mo_X g t_X10_lay Q 11 [some (.inr (.inr (33, 0))), some (.inr (.inr (6, 0))), some (.inl day), some (.inl z), some (.inl ((nI k) + (1 : Int32)))] [] (mo_wL (mo_rowL σ 34 0 (mo_fo (fun k r => mo_ite ((σ.1 10 0 k ≤ day ∧ day < σ.1 11 0 k) ∧ (¬ z = 0 ∨ ¬ σ.1 9 0 k = 3)) (vp_updL r (σ.1 7 0 k).toNatClampNeg (r (σ.1 7 0 k).toNatClampNeg ||| (1 : Int64) <<< ((σ.1 8 0 k).toInt64 &&& 63))) r) (mo_fo (fun k r => vp_updL r k 0) (σ.2 34 0) 60) k)) 34 0 ((σ.1 7 0 ((nI k).toNatClampNeg)).toNatClampNeg) (((mo_fo (fun k r => mo_ite ((σ.1 10 0 k ≤ day ∧ day < σ.1 11 0 k) ∧ (¬ z = 0 ∨ ¬ σ.1 9 0 k = 3)) (vp_updL r (σ.1 7 0 k).toNatClampNeg (r (σ.1 7 0 k).toNatClampNeg ||| (1 : Int64) <<< ((σ.1 8 0 k).toInt64 &&& 63))) r) (mo_fo (fun k r => vp_updL r k 0) (σ.2 34 0) 60) k) ((σ.1 7 0 ((nI k).toNatClampNeg)).toNatClampNeg)) ||| ((1 : Int64) <<< ((σ.1 8 0 ((nI k).toNatClampNeg)).toInt64 &&& 63)))) from ?_); simp only [hkc, mo_rowL_w]; exact hih)
        · refine And.intro (show vp_in (nI k) 200 by exact mo_inN (by omega) (by decide)) ?_
          refine And.intro (fun (c4 : (σ.1 9 0 ((nI k).toNatClampNeg)) = (3 : Int32)) => ?_) (fun (c4 : ¬ (σ.1 9 0 ((nI k).toNatClampNeg)) = (3 : Int32)) => ?_)
          · (have hih := ih (k + 1) (by omega) (by omega) trivial; have e : mo_fo (fun k r => mo_ite ((σ.1 10 0 k ≤ day ∧ day < σ.1 11 0 k) ∧ (¬ z = 0 ∨ ¬ σ.1 9 0 k = 3)) (vp_updL r (σ.1 7 0 k).toNatClampNeg (r (σ.1 7 0 k).toNatClampNeg ||| (1 : Int64) <<< ((σ.1 8 0 k).toInt64 &&& 63))) r) (mo_fo (fun k r => vp_updL r k 0) (σ.2 34 0) 60) (k + 1) = mo_fo (fun k r => mo_ite ((σ.1 10 0 k ≤ day ∧ day < σ.1 11 0 k) ∧ (¬ z = 0 ∨ ¬ σ.1 9 0 k = 3)) (vp_updL r (σ.1 7 0 k).toNatClampNeg (r (σ.1 7 0 k).toNatClampNeg ||| (1 : Int64) <<< ((σ.1 8 0 k).toInt64 &&& 63))) r) (mo_fo (fun k r => vp_updL r k 0) (σ.2 34 0) 60) k := mo_ite_f (by ((try simp only [hkc, mo_bl0, Classical.not_not, ← Int32.not_lt] at c2 c3 c4 ⊢); (try clear ih); (try clear hih); clear hK hQ; grind)); rw [nI_succ, e] at hih; exact hK _ _ _ _ hih)
          · refine And.intro (show vp_in (nI k) 200 by exact mo_inN (by omega) (by decide)) ?_
            refine And.intro (show vp_in (σ.1 7 0 ((nI k).toNatClampNeg)) 60 by rw [hkc]; exact hin k hk) ?_
            refine And.intro (show vp_in (nI k) 200 by exact mo_inN (by omega) (by decide)) ?_
            refine And.intro (show vp_in (σ.1 7 0 ((nI k).toNatClampNeg)) 60 by rw [hkc]; exact hin k hk) ?_
            (have hih := ih (k + 1) (by omega) (by omega) trivial; have e : mo_fo (fun k r => mo_ite ((σ.1 10 0 k ≤ day ∧ day < σ.1 11 0 k) ∧ (¬ z = 0 ∨ ¬ σ.1 9 0 k = 3)) (vp_updL r (σ.1 7 0 k).toNatClampNeg (r (σ.1 7 0 k).toNatClampNeg ||| (1 : Int64) <<< ((σ.1 8 0 k).toInt64 &&& 63))) r) (mo_fo (fun k r => vp_updL r k 0) (σ.2 34 0) 60) (k + 1) = vp_updL (mo_fo (fun k r => mo_ite ((σ.1 10 0 k ≤ day ∧ day < σ.1 11 0 k) ∧ (¬ z = 0 ∨ ¬ σ.1 9 0 k = 3)) (vp_updL r (σ.1 7 0 k).toNatClampNeg (r (σ.1 7 0 k).toNatClampNeg ||| (1 : Int64) <<< ((σ.1 8 0 k).toInt64 &&& 63))) r) (mo_fo (fun k r => vp_updL r k 0) (σ.2 34 0) 60) k) ((σ.1 7 0 (k)).toNatClampNeg) (((mo_fo (fun k r => mo_ite ((σ.1 10 0 k ≤ day ∧ day < σ.1 11 0 k) ∧ (¬ z = 0 ∨ ¬ σ.1 9 0 k = 3)) (vp_updL r (σ.1 7 0 k).toNatClampNeg (r (σ.1 7 0 k).toNatClampNeg ||| (1 : Int64) <<< ((σ.1 8 0 k).toInt64 &&& 63))) r) (mo_fo (fun k r => vp_updL r k 0) (σ.2 34 0) 60) k) ((σ.1 7 0 (k)).toNatClampNeg)) ||| ((1 : Int64) <<< ((σ.1 8 0 (k)).toInt64 &&& 63))) := mo_ite_t (by ((try simp only [hkc, mo_bl0, Classical.not_not, ← Int32.not_lt] at c2 c3 c4 ⊢); (try clear ih); (try clear hih); clear hK hQ; grind)); rw [nI_succ, e] at hih; refine hK _ _ _ _ (show mo_X g t_X10_lay Q 11 [some (.inr (.inr (33, 0))), some (.inr (.inr (6, 0))), some (.inl day), some (.inl z), some (.inl ((nI k) + (1 : Int32)))] [] (mo_wL (mo_rowL σ 34 0 (mo_fo (fun k r => mo_ite ((σ.1 10 0 k ≤ day ∧ day < σ.1 11 0 k) ∧ (¬ z = 0 ∨ ¬ σ.1 9 0 k = 3)) (vp_updL r (σ.1 7 0 k).toNatClampNeg (r (σ.1 7 0 k).toNatClampNeg ||| (1 : Int64) <<< ((σ.1 8 0 k).toInt64 &&& 63))) r) (mo_fo (fun k r => vp_updL r k 0) (σ.2 34 0) 60) k)) 34 0 ((σ.1 7 0 ((nI k).toNatClampNeg)).toNatClampNeg) (((mo_fo (fun k r => mo_ite ((σ.1 10 0 k ≤ day ∧ day < σ.1 11 0 k) ∧ (¬ z = 0 ∨ ¬ σ.1 9 0 k = 3)) (vp_updL r (σ.1 7 0 k).toNatClampNeg (r (σ.1 7 0 k).toNatClampNeg ||| (1 : Int64) <<< ((σ.1 8 0 k).toInt64 &&& 63))) r) (mo_fo (fun k r => vp_updL r k 0) (σ.2 34 0) 60) k) ((σ.1 7 0 ((nI k).toNatClampNeg)).toNatClampNeg)) ||| ((1 : Int64) <<< ((σ.1 8 0 ((nI k).toNatClampNeg)).toInt64 &&& 63)))) from ?_); simp only [hkc, mo_rowL_w]; exact hih)
set_option maxRecDepth 20000 in
set_option maxHeartbeats 2000000 in
theorem ct_X10_lay : mo_ct yX10_lay t_X10_lay S_X10_lay := by
  refine mo_ct_of (by decide) rfl ?_
  rintro g as σ Q ⟨day, z, rfl, hpre, hQ⟩
  refine ⟨Nat.le_of_ble_eq_true rfl, mo_go ok_X10_lay (cs_X10_lay_ok g) [11] 43 ?_⟩
  intro K hK
  refine Exists.intro (0 : Int64) (And.intro rfl (And.intro (show True by trivial) ?_))
  exact hK _ _ _ _ (lp_X10_lay g σ Q day z _ hpre.1.1 hpre.1.2 hpre.2 hQ ((σ.1 6 0 5).toNatClampNeg + 1) 0 (by omega) (by omega) trivial)
noncomputable def mo_set1 (σ : mo_M) (day : Int32) : Nat → (Nat → Int32) × Int32 := mo_fo (fun k (p : (Nat → Int32) × Int32) => mo_ite (σ.1 22 0 k ≤ day ∧ σ.1 21 0 k = 0) (mo_ite (∃ u, u < (σ.1 23 0 4).toNatClampNeg ∧ (σ.1 27 0 u ≤ day ∧ σ.1 26 0 u = 0) ∧ mo_bt (p.1 (σ.1 19 0 k).toNatClampNeg ||| p.1 (σ.1 20 0 k).toNatClampNeg).toInt64 (σ.1 24 0 u) ∧ mo_bt (p.1 (σ.1 19 0 k).toNatClampNeg ||| p.1 (σ.1 20 0 k).toNatClampNeg).toInt64 (σ.1 25 0 u)) (p.1, p.2 + 1) (mo_fo (fun i r => mo_ite (mo_bt ((p.1 (σ.1 19 0 k).toNatClampNeg ||| p.1 (σ.1 20 0 k).toNatClampNeg)).toInt64 (nI i)) (upd r i ((p.1 (σ.1 19 0 k).toNatClampNeg ||| p.1 (σ.1 20 0 k).toNatClampNeg))) r) p.1 30, p.2)) p) ((mo_fo (fun k r => upd r k ((1 : Int32) <<< (nI k &&& 31))) (σ.1 29 0) 30), 0)
def S_X0_settle : mo_S := fun as σ Q => ∃ day : Int32, as = [.inr (.inr (28, 0)), .inr (.inr (18, 0)), .inr (.inr (23, 0)), .inl day] ∧ (mo_le (σ.1 18 0 4) 40 ∧ mo_le (σ.1 23 0 4) 40 ∧ ∀ k, k < (σ.1 18 0 4).toNatClampNeg → vp_in (σ.1 19 0 k) 30 ∧ vp_in (σ.1 20 0 k) 30) ∧ Q (some (.inl ((mo_set1 σ day (σ.1 18 0 4).toNatClampNeg).2))) (mo_rowI σ 29 0 (mo_set1 σ day (σ.1 18 0 4).toNatClampNeg).1)
theorem m_X0_settle : ∀ (as : List mo_V) (σ : mo_M) (P P' : mo_Q), (∀ x τ, P x τ → P' x τ) → S_X0_settle as σ P → S_X0_settle as σ P' := by
  rintro as σ P P' h ⟨day, e, hp, hq⟩
  exact ⟨day, e, hp, h _ _ hq⟩
def cs_X0_settle : Nat → mo_C := fun j => match j with
  | 0 => (3, true, 21, 4, S_X4_isLive)
  | 1 => (3, true, 31, 4, S_X4_hasOneWithin)
  | 2 => (2, true, 34, 0, S_X0_merge)
  | _ => (0, false, 0, 50, fun _ _ _ => False)
theorem cs_X0_settle_ok (g : mo_E) : ∀ j, mo_cok g t_X0_settle (cs_X0_settle j) ∧ mo_mon (cs_X0_settle j) := by
  intro j
  unfold cs_X0_settle
  split
  · exact ⟨mo_cokV ct_X4_isLive (by decide) ⟨_, _, rfl⟩ (by decide +kernel), m_X4_isLive⟩
  · exact ⟨mo_cokV ct_X4_hasOneWithin (by decide) ⟨_, _, rfl⟩ (by decide +kernel), m_X4_hasOneWithin⟩
  · exact ⟨mo_cokV ct_X0_merge (by decide) ⟨_, _, rfl⟩ (by decide +kernel), m_X0_merge⟩
  · exact ⟨mo_cok0 g _, mo_mon0⟩
set_option maxRecDepth 20000 in
set_option maxHeartbeats 2000000 in
theorem lp_X0_settle (g : mo_E) (σ : mo_M) (Q : mo_Q) (day : Int32) (n : Nat) (hn : σ.1 18 0 4 = nI n) (hle : n ≤ 40) (hu : mo_le (σ.1 23 0 4) 40) (hin : ∀ k, k < n → vp_in (σ.1 19 0 k) 30 ∧ vp_in (σ.1 20 0 k) 30) (hQ : Q (some (.inl (mo_set1 σ day n).2)) (mo_rowI σ 29 0 (mo_set1 σ day n).1)) : ∀ (d k : Nat), n < k + d → k ≤ n → (True) → mo_X g t_X0_settle Q 33 [some (.inr (.inr (28, 0))), some (.inr (.inr (18, 0))), some (.inr (.inr (23, 0))), some (.inl day), some (.inl ((mo_set1 σ day k).2)), some (.inl (nI k)), none] [] (mo_rowI σ 29 0 ((mo_set1 σ day k).1)) := by
  intro d
  induction d with
  | zero => intro k h1 h2; omega
  | succ d ih =>
    intro k h1 h2 hinv
    have hkc : (nI k).toNatClampNeg = k := mo_cl (by omega)
    refine mo_go ok_X0_settle (cs_X0_settle_ok g) [33] 58 ?_
    intro K hK
    refine And.intro (fun (c1 : (σ.1 18 0 4) ≤ (nI k)) => ?_) (fun (c1 : ¬ (σ.1 18 0 4) ≤ (nI k)) => ?_)
    · have hk : n ≤ k := mo_cge hn (by omega) (by omega) c1
      (have e : k = n := (by omega); subst e; exact hQ)
    · have hk : k < n := mo_clt hn (by omega) (by omega) c1
      refine Exists.intro 18 (Exists.intro (nI k) (Exists.intro day (And.intro rfl (And.intro (show (18 = 18 ∨ 18 = 23) ∧ vp_in (nI k) 40 by exact ⟨Or.inl rfl, mo_inN (by omega) (by decide)⟩) ?_))))
      refine And.intro (fun (c2 : (mo_bl (σ.1 22 0 (nI k).toNatClampNeg ≤ day ∧ σ.1 21 0 (nI k).toNatClampNeg = 0)) = 0) => ?_) (fun (c2 : ¬ (mo_bl (σ.1 22 0 (nI k).toNatClampNeg ≤ day ∧ σ.1 21 0 (nI k).toNatClampNeg = 0)) = 0) => ?_)
      · (have hih := ih (k + 1) (by omega) (by omega) trivial; have e : mo_set1 σ day (k + 1) = mo_set1 σ day k := (mo_ite_f (by ((try simp only [hkc, mo_bl0, Classical.not_not, ← Int32.not_lt] at c2 ⊢); (try clear ih); (try clear hih); clear hK hQ; grind))); rw [nI_succ, e] at hih; exact hK _ _ _ _ hih)
      · refine And.intro (show vp_in (nI k) 40 by exact mo_inN (by omega) (by decide)) ?_
        refine And.intro (show vp_in (σ.1 19 0 ((nI k).toNatClampNeg)) 30 by rw [hkc]; exact (hin k hk).1) ?_
        refine And.intro (show vp_in (nI k) 40 by exact mo_inN (by omega) (by decide)) ?_
        refine And.intro (show vp_in (σ.1 20 0 ((nI k).toNatClampNeg)) 30 by rw [hkc]; exact (hin k hk).2) ?_
        refine Exists.intro ((((mo_set1 σ day k).1) ((σ.1 19 0 ((nI k).toNatClampNeg)).toNatClampNeg)) ||| (((mo_set1 σ day k).1) ((σ.1 20 0 ((nI k).toNatClampNeg)).toNatClampNeg))) (Exists.intro day (And.intro rfl (And.intro (show mo_le (σ.1 23 0 4) 40 by exact hu) ?_)))
        refine And.intro (fun (c3 : (mo_bl (∃ k_, k_ < (σ.1 23 0 4).toNatClampNeg ∧ (σ.1 27 0 k_ ≤ day ∧ σ.1 26 0 k_ = 0) ∧ mo_bt ((((mo_set1 σ day k).1) ((σ.1 19 0 ((nI k).toNatClampNeg)).toNatClampNeg)) ||| (((mo_set1 σ day k).1) ((σ.1 20 0 ((nI k).toNatClampNeg)).toNatClampNeg))).toInt64 (σ.1 24 0 k_) ∧ mo_bt ((((mo_set1 σ day k).1) ((σ.1 19 0 ((nI k).toNatClampNeg)).toNatClampNeg)) ||| (((mo_set1 σ day k).1) ((σ.1 20 0 ((nI k).toNatClampNeg)).toNatClampNeg))).toInt64 (σ.1 25 0 k_))) = 0) => ?_) (fun (c3 : ¬ (mo_bl (∃ k_, k_ < (σ.1 23 0 4).toNatClampNeg ∧ (σ.1 27 0 k_ ≤ day ∧ σ.1 26 0 k_ = 0) ∧ mo_bt ((((mo_set1 σ day k).1) ((σ.1 19 0 ((nI k).toNatClampNeg)).toNatClampNeg)) ||| (((mo_set1 σ day k).1) ((σ.1 20 0 ((nI k).toNatClampNeg)).toNatClampNeg))).toInt64 (σ.1 24 0 k_) ∧ mo_bt ((((mo_set1 σ day k).1) ((σ.1 19 0 ((nI k).toNatClampNeg)).toNatClampNeg)) ||| (((mo_set1 σ day k).1) ((σ.1 20 0 ((nI k).toNatClampNeg)).toNatClampNeg))).toInt64 (σ.1 25 0 k_))) = 0) => ?_)
        · refine Exists.intro ((((mo_set1 σ day k).1) ((σ.1 19 0 ((nI k).toNatClampNeg)).toNatClampNeg)) ||| (((mo_set1 σ day k).1) ((σ.1 20 0 ((nI k).toNatClampNeg)).toNatClampNeg))) (And.intro rfl (And.intro (show True by trivial) ?_))
          (have hih := ih (k + 1) (by omega) (by omega) trivial; simp only [hkc] at c3; have e : mo_set1 σ day (k + 1) = (mo_fo (fun i r => mo_ite (mo_bt (((mo_set1 σ day k).1 (σ.1 19 0 k).toNatClampNeg ||| (mo_set1 σ day k).1 (σ.1 20 0 k).toNatClampNeg)).toInt64 (nI i)) (upd r i (((mo_set1 σ day k).1 (σ.1 19 0 k).toNatClampNeg ||| (mo_set1 σ day k).1 (σ.1 20 0 k).toNatClampNeg))) r) ((mo_set1 σ day k).1) 30, (mo_set1 σ day k).2) := (mo_ite_t (by ((try simp only [hkc, mo_bl0, Classical.not_not, ← Int32.not_lt] at c2 ⊢); (try clear ih); (try clear hih); clear hK hQ; grind))).trans (mo_ite_f (mo_bl0.mp c3)); rw [nI_succ, e] at hih; refine hK _ _ _ _ (show mo_X g t_X0_settle Q 33 [some (.inr (.inr (28, 0))), some (.inr (.inr (18, 0))), some (.inr (.inr (23, 0))), some (.inl day), some (.inl ((mo_set1 σ day k).2)), some (.inl ((nI k) + (1 : Int32))), some (.inl ((((mo_set1 σ day k).1) ((σ.1 19 0 ((nI k).toNatClampNeg)).toNatClampNeg)) ||| (((mo_set1 σ day k).1) ((σ.1 20 0 ((nI k).toNatClampNeg)).toNatClampNeg))))] [] (mo_rowI (mo_rowI σ 29 0 ((mo_set1 σ day k).1)) 29 0 (mo_fo (fun k_ r_ => mo_ite (mo_bt ((((mo_set1 σ day k).1) ((σ.1 19 0 ((nI k).toNatClampNeg)).toNatClampNeg)) ||| (((mo_set1 σ day k).1) ((σ.1 20 0 ((nI k).toNatClampNeg)).toNatClampNeg))).toInt64 (nI k_)) (upd r_ k_ ((((mo_set1 σ day k).1) ((σ.1 19 0 ((nI k).toNatClampNeg)).toNatClampNeg)) ||| (((mo_set1 σ day k).1) ((σ.1 20 0 ((nI k).toNatClampNeg)).toNatClampNeg)))) r_) ((mo_rowI σ 29 0 ((mo_set1 σ day k).1)).1 29 0) 30)) from ?_); (try simp only [hkc, mo_rowI_r]); refine mo_wk ?_ hih; exact (And.intro rfl (And.intro rfl (And.intro rfl (And.intro rfl (And.intro rfl (And.intro rfl trivial)))))))
        · (have hih := ih (k + 1) (by omega) (by omega) trivial; simp only [hkc] at c3; have e : mo_set1 σ day (k + 1) = ((mo_set1 σ day k).1, (mo_set1 σ day k).2 + 1) := (mo_ite_t (by ((try simp only [hkc, mo_bl0, Classical.not_not, ← Int32.not_lt] at c2 ⊢); (try clear ih); (try clear hih); clear hK hQ; grind))).trans (mo_ite_t (mo_blT c3)); rw [nI_succ, e] at hih; refine hK _ _ _ _ (show mo_X g t_X0_settle Q 33 [some (.inr (.inr (28, 0))), some (.inr (.inr (18, 0))), some (.inr (.inr (23, 0))), some (.inl day), some (.inl (((mo_set1 σ day k).2) + (1 : Int32))), some (.inl ((nI k) + (1 : Int32))), some (.inl ((((mo_set1 σ day k).1) ((σ.1 19 0 ((nI k).toNatClampNeg)).toNatClampNeg)) ||| (((mo_set1 σ day k).1) ((σ.1 20 0 ((nI k).toNatClampNeg)).toNatClampNeg))))] [] (mo_rowI σ 29 0 ((mo_set1 σ day k).1)) from ?_); (try simp only [hkc, mo_rowI_r]); refine mo_wk ?_ hih; exact (And.intro rfl (And.intro rfl (And.intro rfl (And.intro rfl (And.intro rfl (And.intro rfl trivial)))))))
set_option maxRecDepth 20000 in
set_option maxHeartbeats 2000000 in
theorem lq_X0_settle (g : mo_E) (σ : mo_M) (Q : mo_Q) (day : Int32) (n : Nat) (hn : (30 : Int32) = nI n) (hle : n ≤ 30) (hX : mo_X g t_X0_settle Q 33 [some (.inr (.inr (28, 0))), some (.inr (.inr (18, 0))), some (.inr (.inr (23, 0))), some (.inl day), some (.inl (0 : Int32)), some (.inl (0 : Int32)), none] [] (mo_rowI σ 29 0 (mo_fo (fun k r => upd r k ((1 : Int32) <<< (nI k &&& 31))) (σ.1 29 0) n))) : ∀ (d k : Nat), n < k + d → k ≤ n → (True) → mo_X g t_X0_settle Q 3 [some (.inr (.inr (28, 0))), some (.inr (.inr (18, 0))), some (.inr (.inr (23, 0))), some (.inl day), some (.inl (nI k)), none, none] [] (mo_rowI σ 29 0 (mo_fo (fun k r => upd r k ((1 : Int32) <<< (nI k &&& 31))) (σ.1 29 0) k)) := by
  intro d
  induction d with
  | zero => intro k h1 h2; omega
  | succ d ih =>
    intro k h1 h2 hinv
    have hkc : (nI k).toNatClampNeg = k := mo_cl (by omega)
    refine mo_go ok_X0_settle (cs_X0_settle_ok g) [3, 33] 58 ?_
    intro K hK
    refine And.intro (fun (c1 : (30 : Int32) ≤ (nI k)) => ?_) (fun (c1 : ¬ (30 : Int32) ≤ (nI k)) => ?_)
    · have hk : n ≤ k := mo_cge hn (by omega) (by omega) c1
      (have e : k = n := (by omega); subst e; exact hK _ _ _ _ hX)
    · have hk : k < n := mo_clt hn (by omega) (by omega) c1
      refine And.intro (show vp_in (nI k) 30 by exact mo_inN (by omega) (by decide)) ?_
      (have hih := ih (k + 1) (by omega) (by omega) trivial; rw [nI_succ] at hih; refine hK _ _ _ _ (show mo_X g t_X0_settle Q 3 [some (.inr (.inr (28, 0))), some (.inr (.inr (18, 0))), some (.inr (.inr (23, 0))), some (.inl day), some (.inl ((nI k) + (1 : Int32))), none, none] [] (mo_wI (mo_rowI σ 29 0 (mo_fo (fun k r => upd r k ((1 : Int32) <<< (nI k &&& 31))) (σ.1 29 0) k)) 29 0 ((nI k).toNatClampNeg) ((1 : Int32) <<< ((nI k) &&& 31))) from ?_); simp only [hkc, mo_rowI_w]; exact hih)
set_option maxRecDepth 20000 in
set_option maxHeartbeats 2000000 in
theorem ct_X0_settle : mo_ct yX0_settle t_X0_settle S_X0_settle := by
  refine mo_ct_of (by decide) rfl ?_
  rintro g as σ Q ⟨day, rfl, hpre, hQ⟩
  refine ⟨Nat.le_of_ble_eq_true rfl, mo_go ok_X0_settle (cs_X0_settle_ok g) [3, 33] 58 ?_⟩
  intro K hK
  exact hK _ _ _ _ (by have h0 := lq_X0_settle g σ Q day 30 rfl (by omega) (lp_X0_settle g σ Q day _ hpre.1.1 hpre.1.2 hpre.2.1 hpre.2.2 hQ ((σ.1 18 0 4).toNatClampNeg + 1) 0 (by omega) (by omega) trivial) 31 0 (by omega) (by omega) trivial; rw [show mo_rowI σ 29 0 (mo_fo (fun k r => upd r k ((1 : Int32) <<< (nI k &&& 31))) (σ.1 29 0) 0) = σ from mo_rowI_id σ 29 0] at h0; exact h0)
end
section
theorem mo_inlt {x : Int32} {n : Nat} (h : vp_in x n) : x.toNatClampNeg < n := Nat.not_le.mp fun q => h (Or.inr q)
noncomputable def mo_bad (σ : mo_M) (mv : Int32) (w : Nat) : Nat → Int64 := mo_fo (fun k s => mo_ite (mo_bt mv.toInt64 (σ.1 4 0 k) ∧ ∃ j, j < (σ.1 39 w 2).toNatClampNeg ∧ σ.1 40 w j ≤ σ.1 5 0 k ∧ σ.1 5 0 k ≤ σ.1 41 w j) (s ||| (1 : Int64) <<< ((nI k).toInt64 &&& 63)) s) 0
def S_X11_badMakes : mo_S := fun as σ Q => ∃ a : Int32, ∃ b : Int32, as = [.inr (.inr (0, 0)), .inl a, .inl b] ∧ ((mo_le (σ.1 18 0 4) 40 ∧ mo_le (σ.1 23 0 4) 40 ∧ ∀ k, k < (σ.1 18 0 4).toNatClampNeg → vp_in (σ.1 19 0 k) 30 ∧ vp_in (σ.1 20 0 k) 30) ∧ vp_in a 20 ∧ vp_in (σ.1 39 a.toNatClampNeg 3) 30 ∧ mo_le (σ.1 3 0 2) 60 ∧ mo_le (σ.1 39 a.toNatClampNeg 2) 30) ∧ Q (some (.inr (.inl (mo_bad σ ((mo_set1 σ b (σ.1 18 0 4).toNatClampNeg).1 (σ.1 39 a.toNatClampNeg 3).toNatClampNeg) a.toNatClampNeg (σ.1 3 0 2).toNatClampNeg)))) (mo_rowI σ 29 0 (mo_set1 σ b (σ.1 18 0 4).toNatClampNeg).1)
theorem m_X11_badMakes : ∀ (as : List mo_V) (σ : mo_M) (P P' : mo_Q), (∀ x τ, P x τ → P' x τ) → S_X11_badMakes as σ P → S_X11_badMakes as σ P' := by
  rintro as σ P P' h ⟨a, b, e, hp, hq⟩
  exact ⟨a, b, e, hp, h _ _ hq⟩
def cs_X11_badMakes : Nat → mo_C := fun j => match j with
  | 0 => (4, true, 175, 0, S_X0_settle)
  | 1 => (2, false, 201, 50, S_X11_contains)
  | 2 => (2, true, 266, 9, S_X9_covers)
  | _ => (0, false, 0, 50, fun _ _ _ => False)
theorem cs_X11_badMakes_ok (g : mo_E) : ∀ j, mo_cok g t_X11_badMakes (cs_X11_badMakes j) ∧ mo_mon (cs_X11_badMakes j) := by
  intro j
  unfold cs_X11_badMakes
  split
  · exact ⟨mo_cokV ct_X0_settle (by decide) ⟨_, _, rfl⟩ (by decide +kernel), m_X0_settle⟩
  · exact ⟨mo_cokS ct_X11_contains (by decide +kernel), m_X11_contains⟩
  · exact ⟨mo_cokV ct_X9_covers (by decide) ⟨_, _, rfl⟩ (by decide +kernel), m_X9_covers⟩
  · exact ⟨mo_cok0 g _, mo_mon0⟩
set_option maxRecDepth 20000 in
set_option maxHeartbeats 2000000 in
theorem lp_X11_badMakes (g : mo_E) (σ : mo_M) (Q : mo_Q) (a b mv : Int32) (w n : Nat) (hw : w < 20) (hn : σ.1 3 0 2 = nI n) (hle : n ≤ 60) (hc : mo_le (σ.1 39 w 2) 30) (hQ : Q (some (.inr (.inl (mo_bad σ mv w n)))) σ) : ∀ (d k : Nat), n < k + d → k ≤ n → (True) → mo_X g t_X11_badMakes Q 44 [some (.inr (.inr (0, 0))), some (.inl a), some (.inl b), some (.inr (.inr (39, w))), some (.inl mv), some (.inr (.inl (mo_bad σ mv w k))), none, some (.inl (nI k))] [] (σ) := by
  intro d
  induction d with
  | zero => intro k h1 h2; omega
  | succ d ih =>
    intro k h1 h2 hinv
    have hkc : (nI k).toNatClampNeg = k := mo_cl (by omega)
    refine mo_go ok_X11_badMakes (cs_X11_badMakes_ok g) [44] 58 ?_
    intro K hK
    refine And.intro (fun (c1 : (σ.1 3 0 2) ≤ (nI k)) => ?_) (fun (c1 : ¬ (σ.1 3 0 2) ≤ (nI k)) => ?_)
    · have hk : n ≤ k := mo_cge hn (by omega) (by omega) c1
      (have e : k = n := (by omega); subst e; exact hQ)
    · have hk : k < n := mo_clt hn (by omega) (by omega) c1
      refine And.intro (show vp_in (nI k) 60 by exact mo_inN (by omega) (by decide)) ?_
      refine Exists.intro mv.toInt64 (Exists.intro (σ.1 4 0 ((nI k).toNatClampNeg)) (And.intro rfl (And.intro (show True by trivial) ?_)))
      refine And.intro (fun (c2 : (mo_bl (mo_bt mv.toInt64 (σ.1 4 0 ((nI k).toNatClampNeg)))) = 0) => ?_) (fun (c2 : ¬ (mo_bl (mo_bt mv.toInt64 (σ.1 4 0 ((nI k).toNatClampNeg)))) = 0) => ?_)
      · (have hih := ih (k + 1) (by omega) (by omega) trivial; have e : mo_bad σ mv w (k + 1) = mo_bad σ mv w k := mo_ite_f (by ((try simp only [hkc, mo_bl0, Classical.not_not, ← Int32.not_lt] at c2 ⊢); (try clear ih); (try clear hih); clear hK hQ; grind)); rw [nI_succ, e] at hih; refine hK _ _ _ _ (show mo_X g t_X11_badMakes Q 44 [some (.inr (.inr (0, 0))), some (.inl a), some (.inl b), some (.inr (.inr (39, w))), some (.inl mv), some (.inr (.inl (mo_bad σ mv w k))), none, some (.inl ((nI k) + (1 : Int32)))] [] (σ) from ?_); (try simp only [hkc]); exact hih)
      · refine And.intro (show vp_in (nI k) 60 by exact mo_inN (by omega) (by decide)) ?_
        refine And.intro (by exact hw) ?_
        refine Exists.intro w (Exists.intro (σ.1 5 0 ((nI k).toNatClampNeg)) (And.intro rfl (And.intro (show w < 20 ∧ mo_le (σ.1 39 w 2) 30 by exact ⟨hw, hc⟩) ?_)))
        refine And.intro (fun (c3 : (mo_bl (∃ k_, k_ < (σ.1 39 w 2).toNatClampNeg ∧ σ.1 40 w k_ ≤ (σ.1 5 0 ((nI k).toNatClampNeg)) ∧ (σ.1 5 0 ((nI k).toNatClampNeg)) ≤ σ.1 41 w k_)) = 0) => ?_) (fun (c3 : ¬ (mo_bl (∃ k_, k_ < (σ.1 39 w 2).toNatClampNeg ∧ σ.1 40 w k_ ≤ (σ.1 5 0 ((nI k).toNatClampNeg)) ∧ (σ.1 5 0 ((nI k).toNatClampNeg)) ≤ σ.1 41 w k_)) = 0) => ?_)
        · (have hih := ih (k + 1) (by omega) (by omega) trivial; have e : mo_bad σ mv w (k + 1) = mo_bad σ mv w k := mo_ite_f (by ((try simp only [hkc, mo_bl0, Classical.not_not, ← Int32.not_lt] at c2 c3 ⊢); (try clear ih); (try clear hih); clear hK hQ; grind)); rw [nI_succ, e] at hih; refine hK _ _ _ _ (show mo_X g t_X11_badMakes Q 44 [some (.inr (.inr (0, 0))), some (.inl a), some (.inl b), some (.inr (.inr (39, w))), some (.inl mv), some (.inr (.inl (mo_bad σ mv w k))), none, some (.inl ((nI k) + (1 : Int32)))] [] (σ) from ?_); (try simp only [hkc]); exact hih)
        · (have hih := ih (k + 1) (by omega) (by omega) trivial; have e : mo_bad σ mv w (k + 1) = (mo_bad σ mv w k) ||| ((1 : Int64) <<< ((nI k).toInt64 &&& 63)) := mo_ite_t (by ((try simp only [hkc, mo_bl0, Classical.not_not, ← Int32.not_lt] at c2 c3 ⊢); (try clear ih); (try clear hih); clear hK hQ; grind)); rw [nI_succ, e] at hih; refine hK _ _ _ _ (show mo_X g t_X11_badMakes Q 44 [some (.inr (.inr (0, 0))), some (.inl a), some (.inl b), some (.inr (.inr (39, w))), some (.inl mv), some (.inr (.inl ((mo_bad σ mv w k) ||| ((1 : Int64) <<< ((nI k).toInt64 &&& 63))))), none, some (.inl ((nI k) + (1 : Int32)))] [] (σ) from ?_); (try simp only [hkc]); exact hih)
set_option maxRecDepth 20000 in
set_option maxHeartbeats 2000000 in
theorem ct_X11_badMakes : mo_ct yX11_badMakes t_X11_badMakes S_X11_badMakes := by
  refine mo_ct_of (by decide) rfl ?_
  rintro g as σ Q ⟨a, b, rfl, hpre, hQ⟩
  refine ⟨Nat.le_of_ble_eq_true rfl, mo_go ok_X11_badMakes (cs_X11_badMakes_ok g) [44] 58 ?_⟩
  intro K hK
  refine Exists.intro b (And.intro rfl (And.intro (show mo_le (σ.1 18 0 4) 40 ∧ mo_le (σ.1 23 0 4) 40 ∧ ∀ k_, k_ < (σ.1 18 0 4).toNatClampNeg → vp_in (σ.1 19 0 k_) 30 ∧ vp_in (σ.1 20 0 k_) 30 by exact hpre.1) ?_))
  refine And.intro (show vp_in a 20 by exact hpre.2.1) ?_
  refine And.intro (by exact mo_inlt hpre.2.1) ?_
  refine And.intro (show vp_in (σ.1 39 a.toNatClampNeg 3) 30 by exact hpre.2.2.1) ?_
  exact hK _ _ _ _ (lp_X11_badMakes g (mo_rowI σ 29 0 (mo_set1 σ b (σ.1 18 0 4).toNatClampNeg).1) Q a b ((mo_set1 σ b (σ.1 18 0 4).toNatClampNeg).1 (σ.1 39 a.toNatClampNeg 3).toNatClampNeg) a.toNatClampNeg _ (mo_inlt hpre.2.1) hpre.2.2.2.1.1 hpre.2.2.2.1.2 hpre.2.2.2.2 hQ ((σ.1 3 0 2).toNatClampNeg + 1) 0 (by omega) (by omega) trivial)
def S_X11_groupsInside : mo_S := fun as σ Q => ∃ a : Int32, ∃ b : Int32, ∃ c : Int32, as = [.inr (.inr (0, 0)), .inl a, .inl b, .inl c] ∧ (mo_le (σ.1 6 0 5) 200 ∧ ∀ k, k < (σ.1 6 0 5).toNatClampNeg → vp_in (σ.1 8 0 k) 60 ∧ vp_in (σ.1 4 0 (σ.1 8 0 k).toNatClampNeg) 30) ∧ Q (some (.inl (mo_fo (fun k s => mo_ite (σ.1 7 0 k = a ∧ σ.1 9 0 k = b ∧ (σ.1 10 0 k ≤ c ∧ c < σ.1 11 0 k)) (s ||| (σ.1 29 0 (σ.1 4 0 (σ.1 8 0 k).toNatClampNeg).toNatClampNeg &&& -(σ.1 29 0 (σ.1 4 0 (σ.1 8 0 k).toNatClampNeg).toNatClampNeg))) s) 0 (σ.1 6 0 5).toNatClampNeg))) (σ)
theorem m_X11_groupsInside : ∀ (as : List mo_V) (σ : mo_M) (P P' : mo_Q), (∀ x τ, P x τ → P' x τ) → S_X11_groupsInside as σ P → S_X11_groupsInside as σ P' := by
  rintro as σ P P' h ⟨a, b, c, e, hp, hq⟩
  exact ⟨a, b, c, e, hp, h _ _ hq⟩
def cs_X11_groupsInside : Nat → mo_C := fun j => match j with
  | 0 => (3, true, 157, 2, S_X2_isLive)
  | _ => (0, false, 0, 50, fun _ _ _ => False)
theorem cs_X11_groupsInside_ok (g : mo_E) : ∀ j, mo_cok g t_X11_groupsInside (cs_X11_groupsInside j) ∧ mo_mon (cs_X11_groupsInside j) := by
  intro j
  unfold cs_X11_groupsInside
  split
  · exact ⟨mo_cokV ct_X2_isLive (by decide) ⟨_, _, rfl⟩ (by decide +kernel), m_X2_isLive⟩
  · exact ⟨mo_cok0 g _, mo_mon0⟩
set_option maxRecDepth 20000 in
set_option maxHeartbeats 2000000 in
theorem lp_X11_groupsInside (g : mo_E) (σ : mo_M) (Q : mo_Q) (a b c : Int32) (n : Nat) (hn : σ.1 6 0 5 = nI n) (hle : n ≤ 200) (hin : ∀ k, k < n → vp_in (σ.1 8 0 k) 60 ∧ vp_in (σ.1 4 0 (σ.1 8 0 k).toNatClampNeg) 30) (hQ : Q (some (.inl (mo_fo (fun k s => mo_ite (σ.1 7 0 k = a ∧ σ.1 9 0 k = b ∧ (σ.1 10 0 k ≤ c ∧ c < σ.1 11 0 k)) (s ||| (σ.1 29 0 (σ.1 4 0 (σ.1 8 0 k).toNatClampNeg).toNatClampNeg &&& -(σ.1 29 0 (σ.1 4 0 (σ.1 8 0 k).toNatClampNeg).toNatClampNeg))) s) 0 n))) σ) : ∀ (d k : Nat), n < k + d → k ≤ n → (True) → mo_X g t_X11_groupsInside Q 6 [some (.inr (.inr (0, 0))), some (.inl a), some (.inl b), some (.inl c), some (.inl (mo_fo (fun k s => mo_ite (σ.1 7 0 k = a ∧ σ.1 9 0 k = b ∧ (σ.1 10 0 k ≤ c ∧ c < σ.1 11 0 k)) (s ||| (σ.1 29 0 (σ.1 4 0 (σ.1 8 0 k).toNatClampNeg).toNatClampNeg &&& -(σ.1 29 0 (σ.1 4 0 (σ.1 8 0 k).toNatClampNeg).toNatClampNeg))) s) 0 k)), some (.inl (nI k)), none] [] (σ) := by
  intro d
  induction d with
  | zero => intro k h1 h2; omega
  | succ d ih =>
    intro k h1 h2 hinv
    have hkc : (nI k).toNatClampNeg = k := mo_cl (by omega)
    refine mo_go ok_X11_groupsInside (cs_X11_groupsInside_ok g) [6] 55 ?_
    intro K hK
    refine And.intro (fun (c1 : (σ.1 6 0 5) ≤ (nI k)) => ?_) (fun (c1 : ¬ (σ.1 6 0 5) ≤ (nI k)) => ?_)
    · have hk : n ≤ k := mo_cge hn (by omega) (by omega) c1
      (have e : k = n := (by omega); subst e; exact hQ)
    · have hk : k < n := mo_clt hn (by omega) (by omega) c1
      refine And.intro (show vp_in (nI k) 200 by exact mo_inN (by omega) (by decide)) ?_
      refine And.intro (fun (c2 : ¬ (σ.1 7 0 ((nI k).toNatClampNeg)) = a) => ?_) (fun (c2 : (σ.1 7 0 ((nI k).toNatClampNeg)) = a) => ?_)
      · (have hih := ih (k + 1) (by omega) (by omega) trivial; have e : mo_fo (fun k s => mo_ite (σ.1 7 0 k = a ∧ σ.1 9 0 k = b ∧ (σ.1 10 0 k ≤ c ∧ c < σ.1 11 0 k)) (s ||| (σ.1 29 0 (σ.1 4 0 (σ.1 8 0 k).toNatClampNeg).toNatClampNeg &&& -(σ.1 29 0 (σ.1 4 0 (σ.1 8 0 k).toNatClampNeg).toNatClampNeg))) s) 0 (k + 1) = mo_fo (fun k s => mo_ite (σ.1 7 0 k = a ∧ σ.1 9 0 k = b ∧ (σ.1 10 0 k ≤ c ∧ c < σ.1 11 0 k)) (s ||| (σ.1 29 0 (σ.1 4 0 (σ.1 8 0 k).toNatClampNeg).toNatClampNeg &&& -(σ.1 29 0 (σ.1 4 0 (σ.1 8 0 k).toNatClampNeg).toNatClampNeg))) s) 0 k := mo_ite_f (by ((try simp only [hkc, mo_bl0, Classical.not_not, ← Int32.not_lt] at c2 ⊢); (try clear ih); (try clear hih); clear hK hQ; grind)); rw [nI_succ, e] at hih; refine hK _ _ _ _ (show mo_X g t_X11_groupsInside Q 6 [some (.inr (.inr (0, 0))), some (.inl a), some (.inl b), some (.inl c), some (.inl (mo_fo (fun k s => mo_ite (σ.1 7 0 k = a ∧ σ.1 9 0 k = b ∧ (σ.1 10 0 k ≤ c ∧ c < σ.1 11 0 k)) (s ||| (σ.1 29 0 (σ.1 4 0 (σ.1 8 0 k).toNatClampNeg).toNatClampNeg &&& -(σ.1 29 0 (σ.1 4 0 (σ.1 8 0 k).toNatClampNeg).toNatClampNeg))) s) 0 k)), some (.inl ((nI k) + (1 : Int32))), none] [] (σ) from ?_); (try simp only [hkc]); exact hih)
      · refine And.intro (show vp_in (nI k) 200 by exact mo_inN (by omega) (by decide)) ?_
        refine And.intro (fun (c3 : ¬ (σ.1 9 0 ((nI k).toNatClampNeg)) = b) => ?_) (fun (c3 : (σ.1 9 0 ((nI k).toNatClampNeg)) = b) => ?_)
        · (have hih := ih (k + 1) (by omega) (by omega) trivial; have e : mo_fo (fun k s => mo_ite (σ.1 7 0 k = a ∧ σ.1 9 0 k = b ∧ (σ.1 10 0 k ≤ c ∧ c < σ.1 11 0 k)) (s ||| (σ.1 29 0 (σ.1 4 0 (σ.1 8 0 k).toNatClampNeg).toNatClampNeg &&& -(σ.1 29 0 (σ.1 4 0 (σ.1 8 0 k).toNatClampNeg).toNatClampNeg))) s) 0 (k + 1) = mo_fo (fun k s => mo_ite (σ.1 7 0 k = a ∧ σ.1 9 0 k = b ∧ (σ.1 10 0 k ≤ c ∧ c < σ.1 11 0 k)) (s ||| (σ.1 29 0 (σ.1 4 0 (σ.1 8 0 k).toNatClampNeg).toNatClampNeg &&& -(σ.1 29 0 (σ.1 4 0 (σ.1 8 0 k).toNatClampNeg).toNatClampNeg))) s) 0 k := mo_ite_f (by ((try simp only [hkc, mo_bl0, Classical.not_not, ← Int32.not_lt] at c2 c3 ⊢); (try clear ih); (try clear hih); clear hK hQ; grind)); rw [nI_succ, e] at hih; refine hK _ _ _ _ (show mo_X g t_X11_groupsInside Q 6 [some (.inr (.inr (0, 0))), some (.inl a), some (.inl b), some (.inl c), some (.inl (mo_fo (fun k s => mo_ite (σ.1 7 0 k = a ∧ σ.1 9 0 k = b ∧ (σ.1 10 0 k ≤ c ∧ c < σ.1 11 0 k)) (s ||| (σ.1 29 0 (σ.1 4 0 (σ.1 8 0 k).toNatClampNeg).toNatClampNeg &&& -(σ.1 29 0 (σ.1 4 0 (σ.1 8 0 k).toNatClampNeg).toNatClampNeg))) s) 0 k)), some (.inl ((nI k) + (1 : Int32))), none] [] (σ) from ?_); (try simp only [hkc]); exact hih)
        · refine Exists.intro (nI k) (Exists.intro c (And.intro rfl (And.intro (show vp_in (nI k) 200 by exact mo_inN (by omega) (by decide)) ?_)))
          refine And.intro (fun (c4 : (mo_bl (σ.1 10 0 (nI k).toNatClampNeg ≤ c ∧ c < σ.1 11 0 (nI k).toNatClampNeg)) = 0) => ?_) (fun (c4 : ¬ (mo_bl (σ.1 10 0 (nI k).toNatClampNeg ≤ c ∧ c < σ.1 11 0 (nI k).toNatClampNeg)) = 0) => ?_)
          · (have hih := ih (k + 1) (by omega) (by omega) trivial; have e : mo_fo (fun k s => mo_ite (σ.1 7 0 k = a ∧ σ.1 9 0 k = b ∧ (σ.1 10 0 k ≤ c ∧ c < σ.1 11 0 k)) (s ||| (σ.1 29 0 (σ.1 4 0 (σ.1 8 0 k).toNatClampNeg).toNatClampNeg &&& -(σ.1 29 0 (σ.1 4 0 (σ.1 8 0 k).toNatClampNeg).toNatClampNeg))) s) 0 (k + 1) = mo_fo (fun k s => mo_ite (σ.1 7 0 k = a ∧ σ.1 9 0 k = b ∧ (σ.1 10 0 k ≤ c ∧ c < σ.1 11 0 k)) (s ||| (σ.1 29 0 (σ.1 4 0 (σ.1 8 0 k).toNatClampNeg).toNatClampNeg &&& -(σ.1 29 0 (σ.1 4 0 (σ.1 8 0 k).toNatClampNeg).toNatClampNeg))) s) 0 k := mo_ite_f (by ((try simp only [hkc, mo_bl0, Classical.not_not, ← Int32.not_lt] at c2 c3 c4 ⊢); (try clear ih); (try clear hih); clear hK hQ; grind)); rw [nI_succ, e] at hih; refine hK _ _ _ _ (show mo_X g t_X11_groupsInside Q 6 [some (.inr (.inr (0, 0))), some (.inl a), some (.inl b), some (.inl c), some (.inl (mo_fo (fun k s => mo_ite (σ.1 7 0 k = a ∧ σ.1 9 0 k = b ∧ (σ.1 10 0 k ≤ c ∧ c < σ.1 11 0 k)) (s ||| (σ.1 29 0 (σ.1 4 0 (σ.1 8 0 k).toNatClampNeg).toNatClampNeg &&& -(σ.1 29 0 (σ.1 4 0 (σ.1 8 0 k).toNatClampNeg).toNatClampNeg))) s) 0 k)), some (.inl ((nI k) + (1 : Int32))), none] [] (σ) from ?_); (try simp only [hkc]); exact hih)
          · refine And.intro (show vp_in (nI k) 200 by exact mo_inN (by omega) (by decide)) ?_
            refine And.intro (show vp_in (σ.1 8 0 ((nI k).toNatClampNeg)) 60 by rw [hkc]; exact (hin k hk).1) ?_
            refine And.intro (show vp_in (σ.1 4 0 ((σ.1 8 0 ((nI k).toNatClampNeg)).toNatClampNeg)) 30 by rw [hkc]; exact (hin k hk).2) ?_
            (have hih := ih (k + 1) (by omega) (by omega) trivial; have e : mo_fo (fun k s => mo_ite (σ.1 7 0 k = a ∧ σ.1 9 0 k = b ∧ (σ.1 10 0 k ≤ c ∧ c < σ.1 11 0 k)) (s ||| (σ.1 29 0 (σ.1 4 0 (σ.1 8 0 k).toNatClampNeg).toNatClampNeg &&& -(σ.1 29 0 (σ.1 4 0 (σ.1 8 0 k).toNatClampNeg).toNatClampNeg))) s) 0 (k + 1) = (mo_fo (fun k s => mo_ite (σ.1 7 0 k = a ∧ σ.1 9 0 k = b ∧ (σ.1 10 0 k ≤ c ∧ c < σ.1 11 0 k)) (s ||| (σ.1 29 0 (σ.1 4 0 (σ.1 8 0 k).toNatClampNeg).toNatClampNeg &&& -(σ.1 29 0 (σ.1 4 0 (σ.1 8 0 k).toNatClampNeg).toNatClampNeg))) s) 0 k) ||| ((σ.1 29 0 ((σ.1 4 0 ((σ.1 8 0 (k)).toNatClampNeg)).toNatClampNeg)) &&& (-(σ.1 29 0 ((σ.1 4 0 ((σ.1 8 0 (k)).toNatClampNeg)).toNatClampNeg)))) := mo_ite_t (by ((try simp only [hkc, mo_bl0, Classical.not_not, ← Int32.not_lt] at c2 c3 c4 ⊢); (try clear ih); (try clear hih); clear hK hQ; grind)); rw [nI_succ, e] at hih; refine hK _ _ _ _ (show mo_X g t_X11_groupsInside Q 6 [some (.inr (.inr (0, 0))), some (.inl a), some (.inl b), some (.inl c), some (.inl ((mo_fo (fun k s => mo_ite (σ.1 7 0 k = a ∧ σ.1 9 0 k = b ∧ (σ.1 10 0 k ≤ c ∧ c < σ.1 11 0 k)) (s ||| (σ.1 29 0 (σ.1 4 0 (σ.1 8 0 k).toNatClampNeg).toNatClampNeg &&& -(σ.1 29 0 (σ.1 4 0 (σ.1 8 0 k).toNatClampNeg).toNatClampNeg))) s) 0 k) ||| ((σ.1 29 0 ((σ.1 4 0 ((σ.1 8 0 ((nI k).toNatClampNeg)).toNatClampNeg)).toNatClampNeg)) &&& (-(σ.1 29 0 ((σ.1 4 0 ((σ.1 8 0 ((nI k).toNatClampNeg)).toNatClampNeg)).toNatClampNeg)))))), some (.inl ((nI k) + (1 : Int32))), some (.inl (σ.1 29 0 ((σ.1 4 0 ((σ.1 8 0 ((nI k).toNatClampNeg)).toNatClampNeg)).toNatClampNeg)))] [] (σ) from ?_); (try simp only [hkc]); refine mo_wk ?_ hih; exact (And.intro rfl (And.intro rfl (And.intro rfl (And.intro rfl (And.intro rfl (And.intro rfl trivial)))))))
set_option maxRecDepth 20000 in
set_option maxHeartbeats 2000000 in
theorem ct_X11_groupsInside : mo_ct yX11_groupsInside t_X11_groupsInside S_X11_groupsInside := by
  refine mo_ct_of (by decide) rfl ?_
  rintro g as σ Q ⟨a, b, c, rfl, hpre, hQ⟩
  refine ⟨Nat.le_of_ble_eq_true rfl, mo_go ok_X11_groupsInside (cs_X11_groupsInside_ok g) [6] 55 ?_⟩
  intro K hK
  exact hK _ _ _ _ (lp_X11_groupsInside g σ Q a b c _ hpre.1.1 hpre.1.2 hpre.2 hQ ((σ.1 6 0 5).toNatClampNeg + 1) 0 (by omega) (by omega) trivial)
def S_X11_raiseQuestions : mo_S := fun as σ Q => ∃ a : Int32, as = [.inr (.inr (0, 0)), .inl a] ∧ (mo_le (σ.1 6 0 5) 200 ∧ ∀ k, k < (σ.1 6 0 5).toNatClampNeg → vp_in (σ.1 7 0 k) 60 ∧ vp_in (σ.1 8 0 k) 60 ∧ vp_in (σ.1 4 0 (σ.1 7 0 k).toNatClampNeg) 30 ∧ vp_in (σ.1 4 0 (σ.1 8 0 k).toNatClampNeg) 30 ∧ vp_in (σ.1 2 0 (σ.1 4 0 (σ.1 7 0 k).toNatClampNeg).toNatClampNeg) 10) ∧ Q (none) (mo_rowI σ 37 0 (mo_fo (fun k r => mo_ite (σ.1 9 0 k = 3 ∧ (σ.1 10 0 k ≤ a ∧ a < σ.1 11 0 k)) (upd r (σ.1 2 0 (σ.1 4 0 (σ.1 7 0 k).toNatClampNeg).toNatClampNeg).toNatClampNeg (r (σ.1 2 0 (σ.1 4 0 (σ.1 7 0 k).toNatClampNeg).toNatClampNeg).toNatClampNeg ||| (1 : Int32) <<< (σ.1 2 0 (σ.1 4 0 (σ.1 8 0 k).toNatClampNeg).toNatClampNeg &&& 31))) r) (mo_fo (fun k r => upd r k 0) (σ.1 37 0) 10) (σ.1 6 0 5).toNatClampNeg))
theorem m_X11_raiseQuestions : ∀ (as : List mo_V) (σ : mo_M) (P P' : mo_Q), (∀ x τ, P x τ → P' x τ) → S_X11_raiseQuestions as σ P → S_X11_raiseQuestions as σ P' := by
  rintro as σ P P' h ⟨a, e, hp, hq⟩
  exact ⟨a, e, hp, h _ _ hq⟩
def cs_X11_raiseQuestions : Nat → mo_C := fun j => match j with
  | 0 => (1, true, 278, 6, S_X6_clear)
  | 1 => (3, true, 157, 2, S_X2_isLive)
  | 2 => (2, true, 281, 11, S_X11_makerOf)
  | 3 => (3, true, 284, 6, S_X6_add)
  | _ => (0, false, 0, 50, fun _ _ _ => False)
theorem cs_X11_raiseQuestions_ok (g : mo_E) : ∀ j, mo_cok g t_X11_raiseQuestions (cs_X11_raiseQuestions j) ∧ mo_mon (cs_X11_raiseQuestions j) := by
  intro j
  unfold cs_X11_raiseQuestions
  split
  · exact ⟨mo_cokV ct_X6_clear (by decide) ⟨_, _, rfl⟩ (by decide +kernel), m_X6_clear⟩
  · exact ⟨mo_cokV ct_X2_isLive (by decide) ⟨_, _, rfl⟩ (by decide +kernel), m_X2_isLive⟩
  · exact ⟨mo_cokV ct_X11_makerOf (by decide) ⟨_, _, rfl⟩ (by decide +kernel), m_X11_makerOf⟩
  · exact ⟨mo_cokV ct_X6_add (by decide) ⟨_, _, rfl⟩ (by decide +kernel), m_X6_add⟩
  · exact ⟨mo_cok0 g _, mo_mon0⟩
set_option maxRecDepth 20000 in
set_option maxHeartbeats 2000000 in
theorem lp_X11_raiseQuestions (g : mo_E) (σ : mo_M) (Q : mo_Q) (a : Int32) (n : Nat) (hn : σ.1 6 0 5 = nI n) (hle : n ≤ 200) (hin : ∀ k, k < n → vp_in (σ.1 7 0 k) 60 ∧ vp_in (σ.1 8 0 k) 60 ∧ vp_in (σ.1 4 0 (σ.1 7 0 k).toNatClampNeg) 30 ∧ vp_in (σ.1 4 0 (σ.1 8 0 k).toNatClampNeg) 30 ∧ vp_in (σ.1 2 0 (σ.1 4 0 (σ.1 7 0 k).toNatClampNeg).toNatClampNeg) 10) (hQ : Q none (mo_rowI σ 37 0 (mo_fo (fun k r => mo_ite (σ.1 9 0 k = 3 ∧ (σ.1 10 0 k ≤ a ∧ a < σ.1 11 0 k)) (upd r (σ.1 2 0 (σ.1 4 0 (σ.1 7 0 k).toNatClampNeg).toNatClampNeg).toNatClampNeg (r (σ.1 2 0 (σ.1 4 0 (σ.1 7 0 k).toNatClampNeg).toNatClampNeg).toNatClampNeg ||| (1 : Int32) <<< (σ.1 2 0 (σ.1 4 0 (σ.1 8 0 k).toNatClampNeg).toNatClampNeg &&& 31))) r) (mo_fo (fun k r => upd r k 0) (σ.1 37 0) 10) n))) : ∀ (d k : Nat), n < k + d → k ≤ n → (True) → mo_X g t_X11_raiseQuestions Q 9 [some (.inr (.inr (0, 0))), some (.inl a), some (.inl (nI k))] [] (mo_rowI σ 37 0 (mo_fo (fun k r => mo_ite (σ.1 9 0 k = 3 ∧ (σ.1 10 0 k ≤ a ∧ a < σ.1 11 0 k)) (upd r (σ.1 2 0 (σ.1 4 0 (σ.1 7 0 k).toNatClampNeg).toNatClampNeg).toNatClampNeg (r (σ.1 2 0 (σ.1 4 0 (σ.1 7 0 k).toNatClampNeg).toNatClampNeg).toNatClampNeg ||| (1 : Int32) <<< (σ.1 2 0 (σ.1 4 0 (σ.1 8 0 k).toNatClampNeg).toNatClampNeg &&& 31))) r) (mo_fo (fun k r => upd r k 0) (σ.1 37 0) 10) k)) := by
  intro d
  induction d with
  | zero => intro k h1 h2; omega
  | succ d ih =>
    intro k h1 h2 hinv
    have hkc : (nI k).toNatClampNeg = k := mo_cl (by omega)
    refine mo_go ok_X11_raiseQuestions (cs_X11_raiseQuestions_ok g) [9] 44 ?_
    intro K hK
    refine And.intro (fun (c1 : (σ.1 6 0 5) ≤ (nI k)) => ?_) (fun (c1 : ¬ (σ.1 6 0 5) ≤ (nI k)) => ?_)
    · have hk : n ≤ k := mo_cge hn (by omega) (by omega) c1
      (have e : k = n := (by omega); subst e; exact hQ)
    · have hk : k < n := mo_clt hn (by omega) (by omega) c1
      refine And.intro (show vp_in (nI k) 200 by exact mo_inN (by omega) (by decide)) ?_
      refine And.intro (fun (c2 : ¬ (σ.1 9 0 ((nI k).toNatClampNeg)) = (3 : Int32)) => ?_) (fun (c2 : (σ.1 9 0 ((nI k).toNatClampNeg)) = (3 : Int32)) => ?_)
      · (have hih := ih (k + 1) (by omega) (by omega) trivial; have e : mo_fo (fun k r => mo_ite (σ.1 9 0 k = 3 ∧ (σ.1 10 0 k ≤ a ∧ a < σ.1 11 0 k)) (upd r (σ.1 2 0 (σ.1 4 0 (σ.1 7 0 k).toNatClampNeg).toNatClampNeg).toNatClampNeg (r (σ.1 2 0 (σ.1 4 0 (σ.1 7 0 k).toNatClampNeg).toNatClampNeg).toNatClampNeg ||| (1 : Int32) <<< (σ.1 2 0 (σ.1 4 0 (σ.1 8 0 k).toNatClampNeg).toNatClampNeg &&& 31))) r) (mo_fo (fun k r => upd r k 0) (σ.1 37 0) 10) (k + 1) = mo_fo (fun k r => mo_ite (σ.1 9 0 k = 3 ∧ (σ.1 10 0 k ≤ a ∧ a < σ.1 11 0 k)) (upd r (σ.1 2 0 (σ.1 4 0 (σ.1 7 0 k).toNatClampNeg).toNatClampNeg).toNatClampNeg (r (σ.1 2 0 (σ.1 4 0 (σ.1 7 0 k).toNatClampNeg).toNatClampNeg).toNatClampNeg ||| (1 : Int32) <<< (σ.1 2 0 (σ.1 4 0 (σ.1 8 0 k).toNatClampNeg).toNatClampNeg &&& 31))) r) (mo_fo (fun k r => upd r k 0) (σ.1 37 0) 10) k := mo_ite_f (by ((try simp only [hkc, mo_bl0, Classical.not_not, ← Int32.not_lt] at c2 ⊢); (try clear ih); (try clear hih); clear hK hQ; grind)); rw [nI_succ, e] at hih; exact hK _ _ _ _ hih)
      · refine Exists.intro (nI k) (Exists.intro a (And.intro rfl (And.intro (show vp_in (nI k) 200 by exact mo_inN (by omega) (by decide)) ?_)))
        refine And.intro (fun (c3 : (mo_bl (σ.1 10 0 (nI k).toNatClampNeg ≤ a ∧ a < σ.1 11 0 (nI k).toNatClampNeg)) = 0) => ?_) (fun (c3 : ¬ (mo_bl (σ.1 10 0 (nI k).toNatClampNeg ≤ a ∧ a < σ.1 11 0 (nI k).toNatClampNeg)) = 0) => ?_)
        · (have hih := ih (k + 1) (by omega) (by omega) trivial; have e : mo_fo (fun k r => mo_ite (σ.1 9 0 k = 3 ∧ (σ.1 10 0 k ≤ a ∧ a < σ.1 11 0 k)) (upd r (σ.1 2 0 (σ.1 4 0 (σ.1 7 0 k).toNatClampNeg).toNatClampNeg).toNatClampNeg (r (σ.1 2 0 (σ.1 4 0 (σ.1 7 0 k).toNatClampNeg).toNatClampNeg).toNatClampNeg ||| (1 : Int32) <<< (σ.1 2 0 (σ.1 4 0 (σ.1 8 0 k).toNatClampNeg).toNatClampNeg &&& 31))) r) (mo_fo (fun k r => upd r k 0) (σ.1 37 0) 10) (k + 1) = mo_fo (fun k r => mo_ite (σ.1 9 0 k = 3 ∧ (σ.1 10 0 k ≤ a ∧ a < σ.1 11 0 k)) (upd r (σ.1 2 0 (σ.1 4 0 (σ.1 7 0 k).toNatClampNeg).toNatClampNeg).toNatClampNeg (r (σ.1 2 0 (σ.1 4 0 (σ.1 7 0 k).toNatClampNeg).toNatClampNeg).toNatClampNeg ||| (1 : Int32) <<< (σ.1 2 0 (σ.1 4 0 (σ.1 8 0 k).toNatClampNeg).toNatClampNeg &&& 31))) r) (mo_fo (fun k r => upd r k 0) (σ.1 37 0) 10) k := mo_ite_f (by ((try simp only [hkc, mo_bl0, Classical.not_not, ← Int32.not_lt] at c2 c3 ⊢); (try clear ih); (try clear hih); clear hK hQ; grind)); rw [nI_succ, e] at hih; exact hK _ _ _ _ hih)
        · refine And.intro (show vp_in (nI k) 200 by exact mo_inN (by omega) (by decide)) ?_
          refine Exists.intro (σ.1 7 0 ((nI k).toNatClampNeg)) (And.intro rfl (And.intro (show vp_in (σ.1 7 0 ((nI k).toNatClampNeg)) 60 ∧ vp_in (σ.1 4 0 (σ.1 7 0 ((nI k).toNatClampNeg)).toNatClampNeg) 30 by rw [hkc]; exact ⟨(hin k hk).1, (hin k hk).2.2.1⟩) ?_))
          refine And.intro (show vp_in (nI k) 200 by exact mo_inN (by omega) (by decide)) ?_
          refine Exists.intro (σ.1 8 0 ((nI k).toNatClampNeg)) (And.intro rfl (And.intro (show vp_in (σ.1 8 0 ((nI k).toNatClampNeg)) 60 ∧ vp_in (σ.1 4 0 (σ.1 8 0 ((nI k).toNatClampNeg)).toNatClampNeg) 30 by rw [hkc]; exact ⟨(hin k hk).2.1, (hin k hk).2.2.2.1⟩) ?_))
          refine Exists.intro (σ.1 2 0 (σ.1 4 0 (σ.1 7 0 ((nI k).toNatClampNeg)).toNatClampNeg).toNatClampNeg) (Exists.intro (σ.1 2 0 (σ.1 4 0 (σ.1 8 0 ((nI k).toNatClampNeg)).toNatClampNeg).toNatClampNeg) (And.intro rfl (And.intro (show vp_in (σ.1 2 0 (σ.1 4 0 (σ.1 7 0 ((nI k).toNatClampNeg)).toNatClampNeg).toNatClampNeg) 10 by rw [hkc]; exact (hin k hk).2.2.2.2) ?_)))
          (have hih := ih (k + 1) (by omega) (by omega) trivial; have e : mo_fo (fun k r => mo_ite (σ.1 9 0 k = 3 ∧ (σ.1 10 0 k ≤ a ∧ a < σ.1 11 0 k)) (upd r (σ.1 2 0 (σ.1 4 0 (σ.1 7 0 k).toNatClampNeg).toNatClampNeg).toNatClampNeg (r (σ.1 2 0 (σ.1 4 0 (σ.1 7 0 k).toNatClampNeg).toNatClampNeg).toNatClampNeg ||| (1 : Int32) <<< (σ.1 2 0 (σ.1 4 0 (σ.1 8 0 k).toNatClampNeg).toNatClampNeg &&& 31))) r) (mo_fo (fun k r => upd r k 0) (σ.1 37 0) 10) (k + 1) = upd (mo_fo (fun k r => mo_ite (σ.1 9 0 k = 3 ∧ (σ.1 10 0 k ≤ a ∧ a < σ.1 11 0 k)) (upd r (σ.1 2 0 (σ.1 4 0 (σ.1 7 0 k).toNatClampNeg).toNatClampNeg).toNatClampNeg (r (σ.1 2 0 (σ.1 4 0 (σ.1 7 0 k).toNatClampNeg).toNatClampNeg).toNatClampNeg ||| (1 : Int32) <<< (σ.1 2 0 (σ.1 4 0 (σ.1 8 0 k).toNatClampNeg).toNatClampNeg &&& 31))) r) (mo_fo (fun k r => upd r k 0) (σ.1 37 0) 10) k) ((σ.1 2 0 (σ.1 4 0 (σ.1 7 0 (k)).toNatClampNeg).toNatClampNeg).toNatClampNeg) ((mo_rowI σ 37 0 (mo_fo (fun k r => mo_ite (σ.1 9 0 k = 3 ∧ (σ.1 10 0 k ≤ a ∧ a < σ.1 11 0 k)) (upd r (σ.1 2 0 (σ.1 4 0 (σ.1 7 0 k).toNatClampNeg).toNatClampNeg).toNatClampNeg (r (σ.1 2 0 (σ.1 4 0 (σ.1 7 0 k).toNatClampNeg).toNatClampNeg).toNatClampNeg ||| (1 : Int32) <<< (σ.1 2 0 (σ.1 4 0 (σ.1 8 0 k).toNatClampNeg).toNatClampNeg &&& 31))) r) (mo_fo (fun k r => upd r k 0) (σ.1 37 0) 10) k)).1 37 0 (σ.1 2 0 (σ.1 4 0 (σ.1 7 0 (k)).toNatClampNeg).toNatClampNeg).toNatClampNeg ||| (1 : Int32) <<< ((σ.1 2 0 (σ.1 4 0 (σ.1 8 0 (k)).toNatClampNeg).toNatClampNeg) &&& 31)) := mo_ite_t (by ((try simp only [hkc, mo_bl0, Classical.not_not, ← Int32.not_lt] at c2 c3 ⊢); (try clear ih); (try clear hih); clear hK hQ; grind)); rw [nI_succ, e] at hih; refine hK _ _ _ _ (show mo_X g t_X11_raiseQuestions Q 9 [some (.inr (.inr (0, 0))), some (.inl a), some (.inl ((nI k) + (1 : Int32)))] [] (mo_wI (mo_rowI σ 37 0 (mo_fo (fun k r => mo_ite (σ.1 9 0 k = 3 ∧ (σ.1 10 0 k ≤ a ∧ a < σ.1 11 0 k)) (upd r (σ.1 2 0 (σ.1 4 0 (σ.1 7 0 k).toNatClampNeg).toNatClampNeg).toNatClampNeg (r (σ.1 2 0 (σ.1 4 0 (σ.1 7 0 k).toNatClampNeg).toNatClampNeg).toNatClampNeg ||| (1 : Int32) <<< (σ.1 2 0 (σ.1 4 0 (σ.1 8 0 k).toNatClampNeg).toNatClampNeg &&& 31))) r) (mo_fo (fun k r => upd r k 0) (σ.1 37 0) 10) k)) 37 0 ((σ.1 2 0 (σ.1 4 0 (σ.1 7 0 ((nI k).toNatClampNeg)).toNatClampNeg).toNatClampNeg).toNatClampNeg) ((mo_rowI σ 37 0 (mo_fo (fun k r => mo_ite (σ.1 9 0 k = 3 ∧ (σ.1 10 0 k ≤ a ∧ a < σ.1 11 0 k)) (upd r (σ.1 2 0 (σ.1 4 0 (σ.1 7 0 k).toNatClampNeg).toNatClampNeg).toNatClampNeg (r (σ.1 2 0 (σ.1 4 0 (σ.1 7 0 k).toNatClampNeg).toNatClampNeg).toNatClampNeg ||| (1 : Int32) <<< (σ.1 2 0 (σ.1 4 0 (σ.1 8 0 k).toNatClampNeg).toNatClampNeg &&& 31))) r) (mo_fo (fun k r => upd r k 0) (σ.1 37 0) 10) k)).1 37 0 (σ.1 2 0 (σ.1 4 0 (σ.1 7 0 ((nI k).toNatClampNeg)).toNatClampNeg).toNatClampNeg).toNatClampNeg ||| (1 : Int32) <<< ((σ.1 2 0 (σ.1 4 0 (σ.1 8 0 ((nI k).toNatClampNeg)).toNatClampNeg).toNatClampNeg) &&& 31))) from ?_); simp only [hkc, mo_rowI_w]; exact hih)
set_option maxRecDepth 20000 in
set_option maxHeartbeats 2000000 in
theorem ct_X11_raiseQuestions : mo_ct yX11_raiseQuestions t_X11_raiseQuestions S_X11_raiseQuestions := by
  refine mo_ct_of (by decide) rfl ?_
  rintro g as σ Q ⟨a, rfl, hpre, hQ⟩
  refine ⟨Nat.le_of_ble_eq_true rfl, mo_go ok_X11_raiseQuestions (cs_X11_raiseQuestions_ok g) [9] 44 ?_⟩
  intro K hK
  refine And.intro rfl (And.intro (show True by trivial) ?_)
  exact hK _ _ _ _ (lp_X11_raiseQuestions g σ Q a _ hpre.1.1 hpre.1.2 hpre.2 hQ ((σ.1 6 0 5).toNatClampNeg + 1) 0 (by omega) (by omega) trivial)
end
section
/-- one ring of a spread: what is reached, the ring, the rows of rings, how many -/
noncomputable def mo_spS (σ : mo_M) (s : Int64 × Int64 × (Nat → Int64) × Nat) : Int64 × Int64 × (Nat → Int64) × Nat := mo_ite (s.2.1 = 0) s (s.1 ||| s.2.1, (mo_fo (fun k a => mo_ite (¬ (σ.2 34 0 k &&& s.2.1) = 0) (a ||| (1 : Int64) <<< ((nI k).toInt64 &&& 63)) a) 0 60) &&& ((s.1 ||| s.2.1) ^^^ (-1 : Int64)), vp_updL s.2.2.1 s.2.2.2 s.2.1, s.2.2.2 + 1)
noncomputable def mo_spr (σ : mo_M) (g : Int64) : Nat → Int64 × Int64 × (Nat → Int64) × Nat := mo_fo (fun _ s => mo_spS σ s) (0, g, σ.2 35 0, 0)
theorem mo_spr_st {σ : mo_M} {g : Int64} {k : Nat} (h : (mo_spr σ g k).2.1 = 0) : ∀ m, mo_spr σ g (k + m) = mo_spr σ g k
  | 0 => rfl
  | m + 1 => by
    have e : mo_spr σ g (k + (m + 1)) = mo_spS σ (mo_spr σ g (k + m)) := rfl
    rw [e, mo_spr_st h m]
    exact mo_ite_t h
theorem mo_wIwI (σ : mo_M) (o w k : Nat) (v v' : Int32) : mo_wI (mo_wI σ o w k v) o w k v' = mo_wI σ o w k v' := by
  refine Prod.ext ?_ rfl
  funext a b c
  show (if a = o ∧ b = w ∧ c = k then v' else if a = o ∧ b = w ∧ c = k then v else σ.1 a b c) = if a = o ∧ b = w ∧ c = k then v' else σ.1 a b c
  by_cases h : a = o ∧ b = w ∧ c = k
  · rw [if_pos h, if_pos h]
  · rw [if_neg h, if_neg h, if_neg h]
theorem mo_wLwI (σ : mo_M) (o w k : Nat) (v : Int32) (o' w' k' : Nat) (v' : Int64) : mo_wL (mo_wI σ o w k v) o' w' k' v' = mo_wI (mo_wL σ o' w' k' v') o w k v := rfl
def S_X10_spread : mo_S := fun as σ Q => ∃ s : Int64, as = [.inr (.inr (33, 0)), .inr (.inl s)] ∧ (True) ∧ Q (some (.inr (.inl ((mo_spr σ s 60).1)))) (mo_wI (mo_rowL σ 35 0 (mo_spr σ s 60).2.2.1) 33 0 2 (nI (mo_spr σ s 60).2.2.2))
theorem m_X10_spread : ∀ (as : List mo_V) (σ : mo_M) (P P' : mo_Q), (∀ x τ, P x τ → P' x τ) → S_X10_spread as σ P → S_X10_spread as σ P' := by
  rintro as σ P P' h ⟨s, e, hp, hq⟩
  exact ⟨s, e, hp, h _ _ hq⟩
def cs_X10_spread : Nat → mo_C := fun j => match j with
  | 0 => (2, true, 47, 10, S_X10_holdersOf)
  | _ => (0, false, 0, 50, fun _ _ _ => False)
theorem cs_X10_spread_ok (g : mo_E) : ∀ j, mo_cok g t_X10_spread (cs_X10_spread j) ∧ mo_mon (cs_X10_spread j) := by
  intro j
  unfold cs_X10_spread
  split
  · exact ⟨mo_cokV ct_X10_holdersOf (by decide) ⟨_, _, rfl⟩ (by decide +kernel), m_X10_holdersOf⟩
  · exact ⟨mo_cok0 g _, mo_mon0⟩
set_option maxRecDepth 20000 in
set_option maxHeartbeats 2000000 in
theorem lp_X10_spread (g : mo_E) (σ : mo_M) (Q : mo_Q) (s : Int64) (n : Nat) (hle : n = 60) (hQ : Q (some (.inr (.inl (mo_spr σ s 60).1))) (mo_wI (mo_rowL σ 35 0 (mo_spr σ s 60).2.2.1) 33 0 2 (nI (mo_spr σ s 60).2.2.2))) : ∀ (d k : Nat), n < k + d → k ≤ n → ((mo_spr σ s k).2.2.2 = k) → mo_X g t_X10_spread Q 10 [some (.inr (.inr (33, 0))), some (.inr (.inl s)), none, some (.inr (.inl ((mo_spr σ s k).1))), none, some (.inr (.inl ((mo_spr σ s k).2.1))), none] [] (mo_wI (mo_rowL σ 35 0 ((mo_spr σ s k).2.2.1)) 33 0 2 (nI k)) := by
  intro d
  induction d with
  | zero => intro k h1 h2; omega
  | succ d ih =>
    intro k h1 h2 hinv
    have hkc : (nI k).toNatClampNeg = k := mo_cl (by omega)
    refine mo_go ok_X10_spread (cs_X10_spread_ok g) [10] 43 ?_
    intro K hK
    refine And.intro (fun (c1 : (lg_cmp ((mo_spr σ s k).2.1) (0 : Int64)) = 0) => ?_) (fun (c1 : ¬ (lg_cmp ((mo_spr σ s k).2.1) (0 : Int64)) = 0) => ?_)
    · (rw [lg_cmp_eq] at c1; have e : mo_spr σ s 60 = mo_spr σ s k := (by have e := mo_spr_st c1 (60 - k); rw [show k + (60 - k) = 60 from by omega] at e; exact e); rw [e, hinv] at hQ; exact hQ)
    · refine And.intro (fun (c2 : (60 : Int32) ≤ (nI k)) => ?_) (fun (c2 : ¬ (60 : Int32) ≤ (nI k)) => ?_)
      · (have e : k = 60 := (by rw [show (60 : Int32) = nI 60 from rfl, nI_leI (by omega) (by omega)] at c2; omega); subst e; rw [hinv] at hQ; exact hQ)
      · have hk : k < 60 := (by rw [show (60 : Int32) = nI 60 from rfl, nI_leI (by omega) (by omega)] at c2; omega)
        refine And.intro (show vp_in (nI k) 60 by exact mo_inN (by omega) (by decide)) ?_
        refine Exists.intro ((mo_spr σ s k).2.1) (And.intro rfl (And.intro (show True by trivial) ?_))
        (rw [lg_cmp_eq] at c1; have e : mo_spr σ s (k + 1) = ((mo_spr σ s k).1 ||| (mo_spr σ s k).2.1, (mo_fo (fun u a => mo_ite (¬ (σ.2 34 0 u &&& (mo_spr σ s k).2.1) = 0) (a ||| (1 : Int64) <<< ((nI u).toInt64 &&& 63)) a) 0 60) &&& (((mo_spr σ s k).1 ||| (mo_spr σ s k).2.1) ^^^ (-1 : Int64)), vp_updL (mo_spr σ s k).2.2.1 (mo_spr σ s k).2.2.2 (mo_spr σ s k).2.1, (mo_spr σ s k).2.2.2 + 1) := mo_ite_f c1; have hih := ih (k + 1) (by omega) (by omega) (by rw [e]; show (mo_spr σ s k).2.2.2 + 1 = k + 1; rw [hinv]); rw [e, hinv, nI_succ] at hih; refine hK _ _ _ _ (show mo_X g t_X10_spread Q 10 [some (.inr (.inr (33, 0))), some (.inr (.inl s)), none, some (.inr (.inl (((mo_spr σ s k).1) ||| ((mo_spr σ s k).2.1)))), none, some (.inr (.inl ((mo_fo (fun k_ a_ => mo_ite (¬ (σ.2 34 0 k_ &&& ((mo_spr σ s k).2.1)) = 0) (a_ ||| (1 : Int64) <<< ((nI k_).toInt64 &&& 63)) a_) 0 60) &&& ((((mo_spr σ s k).1) ||| ((mo_spr σ s k).2.1)) ^^^ (-1 : Int64))))), none] [] (mo_wI (mo_wL (mo_wI (mo_rowL σ 35 0 ((mo_spr σ s k).2.2.1)) 33 0 2 (nI k)) 35 0 ((nI k).toNatClampNeg) ((mo_spr σ s k).2.1)) 33 0 2 ((nI k) + (1 : Int32))) from ?_); rw [hkc, mo_wLwI, mo_wIwI, mo_rowL_w]; exact hih)
set_option maxRecDepth 20000 in
set_option maxHeartbeats 2000000 in
theorem ct_X10_spread : mo_ct yX10_spread t_X10_spread S_X10_spread := by
  refine mo_ct_of (by decide) rfl ?_
  rintro g as σ Q ⟨s, rfl, hpre, hQ⟩
  refine ⟨Nat.le_of_ble_eq_true rfl, mo_go ok_X10_spread (cs_X10_spread_ok g) [10] 43 ?_⟩
  intro K hK
  (have h0 := lp_X10_spread g σ Q s 60 rfl hQ 61 0 (by omega) (by omega) rfl; rw [show mo_rowL σ 35 0 (mo_spr σ s 0).2.2.1 = σ from mo_rowL_id σ 35 0] at h0; exact hK _ _ _ _ h0)
noncomputable def mo_layR (σ : mo_M) (day z : Int32) : Nat → Int64 := mo_fo (fun k r => mo_ite ((σ.1 10 0 k ≤ day ∧ day < σ.1 11 0 k) ∧ (¬ z = 0 ∨ ¬ σ.1 9 0 k = 3)) (vp_updL r (σ.1 7 0 k).toNatClampNeg (r (σ.1 7 0 k).toNatClampNeg ||| (1 : Int64) <<< ((σ.1 8 0 k).toInt64 &&& 63))) r) (mo_fo (fun k r => vp_updL r k 0) (σ.2 34 0) 60) (σ.1 6 0 5).toNatClampNeg
noncomputable def mo_badS (σ : mo_M) (a b : Int32) : Int64 := mo_bad σ ((mo_set1 σ b (σ.1 18 0 4).toNatClampNeg).1 (σ.1 39 a.toNatClampNeg 3).toNatClampNeg) a.toNatClampNeg (σ.1 3 0 2).toNatClampNeg
noncomputable def mo_grp (σ : mo_M) (b : Int32) : Nat → Int32 := (mo_set1 σ b (σ.1 18 0 4).toNatClampNeg).1
noncomputable def mo_hit (σ : mo_M) (a b z : Int32) : Int64 × Int64 × (Nat → Int64) × Nat := mo_spr (mo_rowL σ 34 0 (mo_layR σ b z)) (mo_badS σ a b) 60
def S_X11_hitMakes : mo_S := fun as σ Q => ∃ a : Int32, ∃ b : Int32, ∃ z : Int32, as = [.inr (.inr (0, 0)), .inl a, .inl b, .inl z] ∧ ((mo_le (σ.1 6 0 5) 200 ∧ ∀ k, k < (σ.1 6 0 5).toNatClampNeg → vp_in (σ.1 7 0 k) 60) ∧ ((mo_le (σ.1 18 0 4) 40 ∧ mo_le (σ.1 23 0 4) 40 ∧ ∀ k, k < (σ.1 18 0 4).toNatClampNeg → vp_in (σ.1 19 0 k) 30 ∧ vp_in (σ.1 20 0 k) 30) ∧ vp_in a 20 ∧ vp_in (σ.1 39 a.toNatClampNeg 3) 30 ∧ mo_le (σ.1 3 0 2) 60 ∧ mo_le (σ.1 39 a.toNatClampNeg 2) 30)) ∧ Q (some (.inr (.inl ((mo_hit σ a b z).1)))) (mo_wI (mo_rowL (mo_rowI (mo_rowL σ 34 0 (mo_layR σ b z)) 29 0 (mo_grp σ b)) 35 0 (mo_hit σ a b z).2.2.1) 33 0 2 (nI (mo_hit σ a b z).2.2.2))
theorem m_X11_hitMakes : ∀ (as : List mo_V) (σ : mo_M) (P P' : mo_Q), (∀ x τ, P x τ → P' x τ) → S_X11_hitMakes as σ P → S_X11_hitMakes as σ P' := by
  rintro as σ P P' h ⟨a, b, z, e, hp, hq⟩
  exact ⟨a, b, z, e, hp, h _ _ hq⟩
def cs_X11_hitMakes : Nat → mo_C := fun j => match j with
  | 0 => (4, true, 234, 10, S_X10_lay)
  | 1 => (3, true, 197, 11, S_X11_badMakes)
  | 2 => (2, true, 238, 10, S_X10_spread)
  | _ => (0, false, 0, 50, fun _ _ _ => False)
theorem cs_X11_hitMakes_ok (g : mo_E) : ∀ j, mo_cok g t_X11_hitMakes (cs_X11_hitMakes j) ∧ mo_mon (cs_X11_hitMakes j) := by
  intro j
  unfold cs_X11_hitMakes
  split
  · exact ⟨mo_cokV ct_X10_lay (by decide) ⟨_, _, rfl⟩ (by decide +kernel), m_X10_lay⟩
  · exact ⟨mo_cokV ct_X11_badMakes (by decide) ⟨_, _, rfl⟩ (by decide +kernel), m_X11_badMakes⟩
  · exact ⟨mo_cokV ct_X10_spread (by decide) ⟨_, _, rfl⟩ (by decide +kernel), m_X10_spread⟩
  · exact ⟨mo_cok0 g _, mo_mon0⟩
set_option maxRecDepth 20000 in
set_option maxHeartbeats 2000000 in
theorem ct_X11_hitMakes : mo_ct yX11_hitMakes t_X11_hitMakes S_X11_hitMakes := by
  refine mo_ct_of (by decide) rfl ?_
  rintro g as σ Q ⟨a, b, z, rfl, hpre, hQ⟩
  refine ⟨Nat.le_of_ble_eq_true rfl, mo_go ok_X11_hitMakes (cs_X11_hitMakes_ok g) [] 16 ?_⟩
  intro K hK
  refine Exists.intro b (Exists.intro z (And.intro rfl (And.intro (show mo_le (σ.1 6 0 5) 200 ∧ ∀ k_, k_ < (σ.1 6 0 5).toNatClampNeg → vp_in (σ.1 7 0 k_) 60 by exact hpre.1) ?_)))
  refine Exists.intro a (Exists.intro b (And.intro rfl (And.intro (show (mo_le (σ.1 18 0 4) 40 ∧ mo_le (σ.1 23 0 4) 40 ∧ ∀ k_, k_ < (σ.1 18 0 4).toNatClampNeg → vp_in (σ.1 19 0 k_) 30 ∧ vp_in (σ.1 20 0 k_) 30) ∧ vp_in a 20 ∧ vp_in (σ.1 39 a.toNatClampNeg 3) 30 ∧ mo_le (σ.1 3 0 2) 60 ∧ mo_le (σ.1 39 a.toNatClampNeg 2) 30 by exact hpre.2) ?_)))
  refine Exists.intro (mo_badS (mo_rowL σ 34 0 (mo_layR σ b z)) a b) (And.intro rfl (And.intro (show True by trivial) ?_))
  exact hQ
def mo_pc (n : Int32) : Int32 := (((((((n - (((n.toUInt32 >>> ((1 : Int32).toUInt32 &&& Int32.toUInt32 31)).toInt32) &&& (1431655765 : Int32))) &&& (858993459 : Int32)) + ((((n - (((n.toUInt32 >>> ((1 : Int32).toUInt32 &&& Int32.toUInt32 31)).toInt32) &&& (1431655765 : Int32))).toUInt32 >>> ((2 : Int32).toUInt32 &&& Int32.toUInt32 31)).toInt32) &&& (858993459 : Int32))) + (((((n - (((n.toUInt32 >>> ((1 : Int32).toUInt32 &&& Int32.toUInt32 31)).toInt32) &&& (1431655765 : Int32))) &&& (858993459 : Int32)) + ((((n - (((n.toUInt32 >>> ((1 : Int32).toUInt32 &&& Int32.toUInt32 31)).toInt32) &&& (1431655765 : Int32))).toUInt32 >>> ((2 : Int32).toUInt32 &&& Int32.toUInt32 31)).toInt32) &&& (858993459 : Int32))).toUInt32 >>> ((4 : Int32).toUInt32 &&& Int32.toUInt32 31)).toInt32)) &&& (252645135 : Int32)) + (((((((n - (((n.toUInt32 >>> ((1 : Int32).toUInt32 &&& Int32.toUInt32 31)).toInt32) &&& (1431655765 : Int32))) &&& (858993459 : Int32)) + ((((n - (((n.toUInt32 >>> ((1 : Int32).toUInt32 &&& Int32.toUInt32 31)).toInt32) &&& (1431655765 : Int32))).toUInt32 >>> ((2 : Int32).toUInt32 &&& Int32.toUInt32 31)).toInt32) &&& (858993459 : Int32))) + (((((n - (((n.toUInt32 >>> ((1 : Int32).toUInt32 &&& Int32.toUInt32 31)).toInt32) &&& (1431655765 : Int32))) &&& (858993459 : Int32)) + ((((n - (((n.toUInt32 >>> ((1 : Int32).toUInt32 &&& Int32.toUInt32 31)).toInt32) &&& (1431655765 : Int32))).toUInt32 >>> ((2 : Int32).toUInt32 &&& Int32.toUInt32 31)).toInt32) &&& (858993459 : Int32))).toUInt32 >>> ((4 : Int32).toUInt32 &&& Int32.toUInt32 31)).toInt32)) &&& (252645135 : Int32)).toUInt32 >>> ((8 : Int32).toUInt32 &&& Int32.toUInt32 31)).toInt32)) + ((((((((n - (((n.toUInt32 >>> ((1 : Int32).toUInt32 &&& Int32.toUInt32 31)).toInt32) &&& (1431655765 : Int32))) &&& (858993459 : Int32)) + ((((n - (((n.toUInt32 >>> ((1 : Int32).toUInt32 &&& Int32.toUInt32 31)).toInt32) &&& (1431655765 : Int32))).toUInt32 >>> ((2 : Int32).toUInt32 &&& Int32.toUInt32 31)).toInt32) &&& (858993459 : Int32))) + (((((n - (((n.toUInt32 >>> ((1 : Int32).toUInt32 &&& Int32.toUInt32 31)).toInt32) &&& (1431655765 : Int32))) &&& (858993459 : Int32)) + ((((n - (((n.toUInt32 >>> ((1 : Int32).toUInt32 &&& Int32.toUInt32 31)).toInt32) &&& (1431655765 : Int32))).toUInt32 >>> ((2 : Int32).toUInt32 &&& Int32.toUInt32 31)).toInt32) &&& (858993459 : Int32))).toUInt32 >>> ((4 : Int32).toUInt32 &&& Int32.toUInt32 31)).toInt32)) &&& (252645135 : Int32)) + (((((((n - (((n.toUInt32 >>> ((1 : Int32).toUInt32 &&& Int32.toUInt32 31)).toInt32) &&& (1431655765 : Int32))) &&& (858993459 : Int32)) + ((((n - (((n.toUInt32 >>> ((1 : Int32).toUInt32 &&& Int32.toUInt32 31)).toInt32) &&& (1431655765 : Int32))).toUInt32 >>> ((2 : Int32).toUInt32 &&& Int32.toUInt32 31)).toInt32) &&& (858993459 : Int32))) + (((((n - (((n.toUInt32 >>> ((1 : Int32).toUInt32 &&& Int32.toUInt32 31)).toInt32) &&& (1431655765 : Int32))) &&& (858993459 : Int32)) + ((((n - (((n.toUInt32 >>> ((1 : Int32).toUInt32 &&& Int32.toUInt32 31)).toInt32) &&& (1431655765 : Int32))).toUInt32 >>> ((2 : Int32).toUInt32 &&& Int32.toUInt32 31)).toInt32) &&& (858993459 : Int32))).toUInt32 >>> ((4 : Int32).toUInt32 &&& Int32.toUInt32 31)).toInt32)) &&& (252645135 : Int32)).toUInt32 >>> ((8 : Int32).toUInt32 &&& Int32.toUInt32 31)).toInt32)).toUInt32 >>> ((16 : Int32).toUInt32 &&& Int32.toUInt32 31)).toInt32)) &&& (63 : Int32)
def S_J6_bitCount_0f7a4 : mo_S := fun as σ Q => ∃ n : Int32, as = [.inl n] ∧ (True) ∧ Q (some (.inl (mo_pc n))) (σ)
theorem m_J6_bitCount_0f7a4 : ∀ (as : List mo_V) (σ : mo_M) (P P' : mo_Q), (∀ x τ, P x τ → P' x τ) → S_J6_bitCount_0f7a4 as σ P → S_J6_bitCount_0f7a4 as σ P' := by
  rintro as σ P P' h ⟨n, e, hp, hq⟩
  exact ⟨n, e, hp, h _ _ hq⟩
set_option maxRecDepth 20000 in
set_option maxHeartbeats 2000000 in
theorem ct_J6_bitCount_0f7a4 : mo_ct yJ6_bitCount_0f7a4 t_J6_bitCount_0f7a4 S_J6_bitCount_0f7a4 := by
  refine mo_ct_of (by decide) rfl ?_
  rintro g as σ Q ⟨n, rfl, hpre, hQ⟩
  refine ⟨Nat.le_of_ble_eq_true rfl, mo_go ok_J6_bitCount_0f7a4 (mo_no_ok g _) [] 43 ?_⟩
  intro K hK
  exact hQ
end
section
def S_X11_trace : mo_S := fun as σ Q => ∃ a : Int32, ∃ b : Int32, ∃ c : Int32, as = [.inr (.inr (0, 0)), .inl a, .inl b, .inl c] ∧ (((mo_le (σ.1 6 0 5) 200 ∧ ∀ k_, k_ < (σ.1 6 0 5).toNatClampNeg → vp_in (σ.1 7 0 k_) 60) ∧ ((mo_le (σ.1 18 0 4) 40 ∧ mo_le (σ.1 23 0 4) 40 ∧ ∀ k_, k_ < (σ.1 18 0 4).toNatClampNeg → vp_in (σ.1 19 0 k_) 30 ∧ vp_in (σ.1 20 0 k_) 30) ∧ vp_in a 20 ∧ vp_in (σ.1 39 a.toNatClampNeg 3) 30 ∧ mo_le (σ.1 3 0 2) 60 ∧ mo_le (σ.1 39 a.toNatClampNeg 2) 30)) ∧ ((¬ (mo_bt ((mo_hit σ a c (0 : Int32)).1) b) → (((mo_le (σ.1 6 0 5) 200 ∧ ∀ k_, k_ < (σ.1 6 0 5).toNatClampNeg → vp_in (σ.1 7 0 k_) 60) ∧ ((mo_le (σ.1 18 0 4) 40 ∧ mo_le (σ.1 23 0 4) 40 ∧ ∀ k_, k_ < (σ.1 18 0 4).toNatClampNeg → vp_in (σ.1 19 0 k_) 30 ∧ vp_in (σ.1 20 0 k_) 30) ∧ vp_in a 20 ∧ vp_in (σ.1 39 a.toNatClampNeg 3) 30 ∧ mo_le (σ.1 3 0 2) 60 ∧ mo_le (σ.1 39 a.toNatClampNeg 2) 30)) ∧ ((¬ (mo_bt ((mo_hit (mo_wI (mo_rowL (mo_rowI (mo_rowL σ 34 0 (mo_layR σ c (0 : Int32))) 29 0 (mo_grp σ c)) 35 0 ((mo_hit σ a c (0 : Int32)).2.2.1)) 33 0 2 (nI (mo_hit σ a c (0 : Int32)).2.2.2)) a c (1 : Int32)).1) b) → Q (some (.inl (0 : Int32))) (mo_wI (mo_rowL (mo_rowI (mo_rowL (mo_wI (mo_rowL (mo_rowI (mo_rowL σ 34 0 (mo_layR σ c (0 : Int32))) 29 0 (mo_grp σ c)) 35 0 ((mo_hit σ a c (0 : Int32)).2.2.1)) 33 0 2 (nI (mo_hit σ a c (0 : Int32)).2.2.2)) 34 0 (mo_layR (mo_wI (mo_rowL (mo_rowI (mo_rowL σ 34 0 (mo_layR σ c (0 : Int32))) 29 0 (mo_grp σ c)) 35 0 ((mo_hit σ a c (0 : Int32)).2.2.1)) 33 0 2 (nI (mo_hit σ a c (0 : Int32)).2.2.2)) c (1 : Int32))) 29 0 (mo_grp (mo_wI (mo_rowL (mo_rowI (mo_rowL σ 34 0 (mo_layR σ c (0 : Int32))) 29 0 (mo_grp σ c)) 35 0 ((mo_hit σ a c (0 : Int32)).2.2.1)) 33 0 2 (nI (mo_hit σ a c (0 : Int32)).2.2.2)) c)) 35 0 ((mo_hit (mo_wI (mo_rowL (mo_rowI (mo_rowL σ 34 0 (mo_layR σ c (0 : Int32))) 29 0 (mo_grp σ c)) 35 0 ((mo_hit σ a c (0 : Int32)).2.2.1)) 33 0 2 (nI (mo_hit σ a c (0 : Int32)).2.2.2)) a c (1 : Int32)).2.2.1)) 33 0 2 (nI (mo_hit (mo_wI (mo_rowL (mo_rowI (mo_rowL σ 34 0 (mo_layR σ c (0 : Int32))) 29 0 (mo_grp σ c)) 35 0 ((mo_hit σ a c (0 : Int32)).2.2.1)) 33 0 2 (nI (mo_hit σ a c (0 : Int32)).2.2.2)) a c (1 : Int32)).2.2.2))) ∧ (mo_bt ((mo_hit (mo_wI (mo_rowL (mo_rowI (mo_rowL σ 34 0 (mo_layR σ c (0 : Int32))) 29 0 (mo_grp σ c)) 35 0 ((mo_hit σ a c (0 : Int32)).2.2.1)) 33 0 2 (nI (mo_hit σ a c (0 : Int32)).2.2.2)) a c (1 : Int32)).1) b → Q (some (.inl (1 : Int32))) (mo_wI (mo_rowL (mo_rowI (mo_rowL (mo_wI (mo_rowL (mo_rowI (mo_rowL σ 34 0 (mo_layR σ c (0 : Int32))) 29 0 (mo_grp σ c)) 35 0 ((mo_hit σ a c (0 : Int32)).2.2.1)) 33 0 2 (nI (mo_hit σ a c (0 : Int32)).2.2.2)) 34 0 (mo_layR (mo_wI (mo_rowL (mo_rowI (mo_rowL σ 34 0 (mo_layR σ c (0 : Int32))) 29 0 (mo_grp σ c)) 35 0 ((mo_hit σ a c (0 : Int32)).2.2.1)) 33 0 2 (nI (mo_hit σ a c (0 : Int32)).2.2.2)) c (1 : Int32))) 29 0 (mo_grp (mo_wI (mo_rowL (mo_rowI (mo_rowL σ 34 0 (mo_layR σ c (0 : Int32))) 29 0 (mo_grp σ c)) 35 0 ((mo_hit σ a c (0 : Int32)).2.2.1)) 33 0 2 (nI (mo_hit σ a c (0 : Int32)).2.2.2)) c)) 35 0 ((mo_hit (mo_wI (mo_rowL (mo_rowI (mo_rowL σ 34 0 (mo_layR σ c (0 : Int32))) 29 0 (mo_grp σ c)) 35 0 ((mo_hit σ a c (0 : Int32)).2.2.1)) 33 0 2 (nI (mo_hit σ a c (0 : Int32)).2.2.2)) a c (1 : Int32)).2.2.1)) 33 0 2 (nI (mo_hit (mo_wI (mo_rowL (mo_rowI (mo_rowL σ 34 0 (mo_layR σ c (0 : Int32))) 29 0 (mo_grp σ c)) 35 0 ((mo_hit σ a c (0 : Int32)).2.2.1)) 33 0 2 (nI (mo_hit σ a c (0 : Int32)).2.2.2)) a c (1 : Int32)).2.2.2)))))) ∧ (mo_bt ((mo_hit σ a c (0 : Int32)).1) b → Q (some (.inl (2 : Int32))) (mo_wI (mo_rowL (mo_rowI (mo_rowL σ 34 0 (mo_layR σ c (0 : Int32))) 29 0 (mo_grp σ c)) 35 0 ((mo_hit σ a c (0 : Int32)).2.2.1)) 33 0 2 (nI (mo_hit σ a c (0 : Int32)).2.2.2)))))
theorem m_X11_trace : ∀ (as : List mo_V) (σ : mo_M) (P P' : mo_Q), (∀ x τ, P x τ → P' x τ) → S_X11_trace as σ P → S_X11_trace as σ P' := by
  rintro as σ P P' hm ⟨a, b, c, e, hq⟩
  exact ⟨a, b, c, e, ⟨hq.1, ⟨fun c1 => ⟨(hq.2.1 c1).1, ⟨fun c2 => hm _ _ ((hq.2.1 c1).2.1 c2), fun c2 => hm _ _ ((hq.2.1 c1).2.2 c2)⟩⟩, fun c1 => hm _ _ (hq.2.2 c1)⟩⟩⟩
def cs_X11_trace : Nat → mo_C := fun j => match j with
  | 0 => (4, true, 214, 11, S_X11_hitMakes)
  | 1 => (2, false, 201, 50, S_X11_contains)
  | _ => (0, false, 0, 50, fun _ _ _ => False)
theorem cs_X11_trace_ok (g : mo_E) : ∀ j, mo_cok g t_X11_trace (cs_X11_trace j) ∧ mo_mon (cs_X11_trace j) := by
  intro j
  unfold cs_X11_trace
  split
  · exact ⟨mo_cokV ct_X11_hitMakes (by decide) ⟨_, _, rfl⟩ (by decide +kernel), m_X11_hitMakes⟩
  · exact ⟨mo_cokS ct_X11_contains (by decide +kernel), m_X11_contains⟩
  · exact ⟨mo_cok0 g _, mo_mon0⟩
set_option maxRecDepth 20000 in
set_option maxHeartbeats 2000000 in
theorem ct_X11_trace : mo_ct yX11_trace t_X11_trace S_X11_trace := by
  refine mo_ct_of (by decide) rfl ?_
  rintro g as σ Q ⟨a, b, c, rfl, hQ⟩
  refine ⟨Nat.le_of_ble_eq_true rfl, mo_go ok_X11_trace (cs_X11_trace_ok g) [] 23 ?_⟩
  intro K hK
  refine Exists.intro a (Exists.intro c (Exists.intro (0 : Int32) (And.intro rfl (And.intro (show (mo_le (σ.1 6 0 5) 200 ∧ ∀ k_, k_ < (σ.1 6 0 5).toNatClampNeg → vp_in (σ.1 7 0 k_) 60) ∧ ((mo_le (σ.1 18 0 4) 40 ∧ mo_le (σ.1 23 0 4) 40 ∧ ∀ k_, k_ < (σ.1 18 0 4).toNatClampNeg → vp_in (σ.1 19 0 k_) 30 ∧ vp_in (σ.1 20 0 k_) 30) ∧ vp_in a 20 ∧ vp_in (σ.1 39 a.toNatClampNeg 3) 30 ∧ mo_le (σ.1 3 0 2) 60 ∧ mo_le (σ.1 39 a.toNatClampNeg 2) 30) from hQ.1) ?_))))
  refine Exists.intro ((mo_hit σ a c (0 : Int32)).1) (Exists.intro b (And.intro rfl (And.intro trivial ?_)))
  refine And.intro (fun (c1 : (mo_bl (mo_bt ((mo_hit σ a c (0 : Int32)).1) b)) = 0) => ?_) (fun (c1 : ¬ (mo_bl (mo_bt ((mo_hit σ a c (0 : Int32)).1) b)) = 0) => ?_)
  · replace c1 : ¬ (mo_bt ((mo_hit σ a c (0 : Int32)).1) b) := mo_bl0.mp c1
    refine Exists.intro a (Exists.intro c (Exists.intro (1 : Int32) (And.intro rfl (And.intro (show (mo_le (σ.1 6 0 5) 200 ∧ ∀ k_, k_ < (σ.1 6 0 5).toNatClampNeg → vp_in (σ.1 7 0 k_) 60) ∧ ((mo_le (σ.1 18 0 4) 40 ∧ mo_le (σ.1 23 0 4) 40 ∧ ∀ k_, k_ < (σ.1 18 0 4).toNatClampNeg → vp_in (σ.1 19 0 k_) 30 ∧ vp_in (σ.1 20 0 k_) 30) ∧ vp_in a 20 ∧ vp_in (σ.1 39 a.toNatClampNeg 3) 30 ∧ mo_le (σ.1 3 0 2) 60 ∧ mo_le (σ.1 39 a.toNatClampNeg 2) 30) from (hQ.2.1 c1).1) ?_))))
    refine Exists.intro ((mo_hit (mo_wI (mo_rowL (mo_rowI (mo_rowL σ 34 0 (mo_layR σ c (0 : Int32))) 29 0 (mo_grp σ c)) 35 0 ((mo_hit σ a c (0 : Int32)).2.2.1)) 33 0 2 (nI (mo_hit σ a c (0 : Int32)).2.2.2)) a c (1 : Int32)).1) (Exists.intro b (And.intro rfl (And.intro trivial ?_)))
    refine And.intro (fun (c2 : (mo_bl (mo_bt ((mo_hit (mo_wI (mo_rowL (mo_rowI (mo_rowL σ 34 0 (mo_layR σ c (0 : Int32))) 29 0 (mo_grp σ c)) 35 0 ((mo_hit σ a c (0 : Int32)).2.2.1)) 33 0 2 (nI (mo_hit σ a c (0 : Int32)).2.2.2)) a c (1 : Int32)).1) b)) = 0) => ?_) (fun (c2 : ¬ (mo_bl (mo_bt ((mo_hit (mo_wI (mo_rowL (mo_rowI (mo_rowL σ 34 0 (mo_layR σ c (0 : Int32))) 29 0 (mo_grp σ c)) 35 0 ((mo_hit σ a c (0 : Int32)).2.2.1)) 33 0 2 (nI (mo_hit σ a c (0 : Int32)).2.2.2)) a c (1 : Int32)).1) b)) = 0) => ?_)
    · replace c2 : ¬ (mo_bt ((mo_hit (mo_wI (mo_rowL (mo_rowI (mo_rowL σ 34 0 (mo_layR σ c (0 : Int32))) 29 0 (mo_grp σ c)) 35 0 ((mo_hit σ a c (0 : Int32)).2.2.1)) 33 0 2 (nI (mo_hit σ a c (0 : Int32)).2.2.2)) a c (1 : Int32)).1) b) := mo_bl0.mp c2
      exact ((hQ.2.1 c1).2.1 c2)
    · replace c2 : mo_bt ((mo_hit (mo_wI (mo_rowL (mo_rowI (mo_rowL σ 34 0 (mo_layR σ c (0 : Int32))) 29 0 (mo_grp σ c)) 35 0 ((mo_hit σ a c (0 : Int32)).2.2.1)) 33 0 2 (nI (mo_hit σ a c (0 : Int32)).2.2.2)) a c (1 : Int32)).1) b := mo_blT c2
      exact ((hQ.2.1 c1).2.2 c2)
  · replace c1 : mo_bt ((mo_hit σ a c (0 : Int32)).1) b := mo_blT c1
    exact (hQ.2.2 c1)
def S_X11_bad : mo_S := fun as σ Q => ∃ a : Int32, ∃ b : Int32, ∃ c : Int32, as = [.inr (.inr (0, 0)), .inl a, .inl b, .inl c] ∧ ((¬ (0 ≤ a ∧ a < σ.1 0 0 12) → Q (some (.inl (-1 : Int32))) (σ)) ∧ (0 ≤ a ∧ a < σ.1 0 0 12 → ((¬ (0 ≤ b ∧ b < σ.1 3 0 2) → Q (some (.inl (-1 : Int32))) (σ)) ∧ (0 ≤ b ∧ b < σ.1 3 0 2 → ((0 ≤ c ∧ c ≤ (10000 : Int32) → (((mo_le (σ.1 18 0 4) 40 ∧ mo_le (σ.1 23 0 4) 40 ∧ ∀ k_, k_ < (σ.1 18 0 4).toNatClampNeg → vp_in (σ.1 19 0 k_) 30 ∧ vp_in (σ.1 20 0 k_) 30) ∧ vp_in a 20 ∧ vp_in (σ.1 39 a.toNatClampNeg 3) 30 ∧ mo_le (σ.1 3 0 2) 60 ∧ mo_le (σ.1 39 a.toNatClampNeg 2) 30) ∧ ((¬ (mo_bt (mo_badS σ a c) b) → Q (some (.inl (0 : Int32))) (mo_rowI σ 29 0 (mo_grp σ c))) ∧ (mo_bt (mo_badS σ a c) b → Q (some (.inl (1 : Int32))) (mo_rowI σ 29 0 (mo_grp σ c)))))) ∧ (¬ (0 ≤ c ∧ c ≤ (10000 : Int32)) → Q (some (.inl (-1 : Int32))) (σ)))))))
theorem m_X11_bad : ∀ (as : List mo_V) (σ : mo_M) (P P' : mo_Q), (∀ x τ, P x τ → P' x τ) → S_X11_bad as σ P → S_X11_bad as σ P' := by
  rintro as σ P P' hm ⟨a, b, c, e, hq⟩
  exact ⟨a, b, c, e, ⟨fun c1 => hm _ _ (hq.1 c1), fun c1 => ⟨fun c2 => hm _ _ ((hq.2 c1).1 c2), fun c2 => ⟨fun c3 => ⟨(((hq.2 c1).2 c2).1 c3).1, ⟨fun c4 => hm _ _ ((((hq.2 c1).2 c2).1 c3).2.1 c4), fun c4 => hm _ _ ((((hq.2 c1).2 c2).1 c3).2.2 c4)⟩⟩, fun c3 => hm _ _ (((hq.2 c1).2 c2).2 c3)⟩⟩⟩⟩
def cs_X11_bad : Nat → mo_C := fun j => match j with
  | 0 => (2, true, 194, 11, S_X11_isWarning)
  | 1 => (2, true, 140, 11, S_X11_isMake)
  | 2 => (1, false, 137, 50, S_X11_isDay)
  | 3 => (3, true, 197, 11, S_X11_badMakes)
  | 4 => (2, false, 201, 50, S_X11_contains)
  | _ => (0, false, 0, 50, fun _ _ _ => False)
theorem cs_X11_bad_ok (g : mo_E) : ∀ j, mo_cok g t_X11_bad (cs_X11_bad j) ∧ mo_mon (cs_X11_bad j) := by
  intro j
  unfold cs_X11_bad
  split
  · exact ⟨mo_cokV ct_X11_isWarning (by decide) ⟨_, _, rfl⟩ (by decide +kernel), m_X11_isWarning⟩
  · exact ⟨mo_cokV ct_X11_isMake (by decide) ⟨_, _, rfl⟩ (by decide +kernel), m_X11_isMake⟩
  · exact ⟨mo_cokS ct_X11_isDay (by decide +kernel), m_X11_isDay⟩
  · exact ⟨mo_cokV ct_X11_badMakes (by decide) ⟨_, _, rfl⟩ (by decide +kernel), m_X11_badMakes⟩
  · exact ⟨mo_cokS ct_X11_contains (by decide +kernel), m_X11_contains⟩
  · exact ⟨mo_cok0 g _, mo_mon0⟩
set_option maxRecDepth 20000 in
set_option maxHeartbeats 2000000 in
theorem ct_X11_bad : mo_ct yX11_bad t_X11_bad S_X11_bad := by
  refine mo_ct_of (by decide) rfl ?_
  rintro g as σ Q ⟨a, b, c, rfl, hQ⟩
  refine ⟨Nat.le_of_ble_eq_true rfl, mo_go ok_X11_bad (cs_X11_bad_ok g) [] 25 ?_⟩
  intro K hK
  refine Exists.intro a (And.intro rfl (And.intro trivial ?_))
  refine And.intro (fun (c1 : (mo_bl (0 ≤ a ∧ a < σ.1 0 0 12)) = 0) => ?_) (fun (c1 : ¬ (mo_bl (0 ≤ a ∧ a < σ.1 0 0 12)) = 0) => ?_)
  · replace c1 : ¬ (0 ≤ a ∧ a < σ.1 0 0 12) := mo_bl0.mp c1
    exact (hQ.1 c1)
  · replace c1 : 0 ≤ a ∧ a < σ.1 0 0 12 := mo_blT c1
    refine Exists.intro b (And.intro rfl (And.intro trivial ?_))
    refine And.intro (fun (c2 : (mo_bl (0 ≤ b ∧ b < σ.1 3 0 2)) = 0) => ?_) (fun (c2 : ¬ (mo_bl (0 ≤ b ∧ b < σ.1 3 0 2)) = 0) => ?_)
    · replace c2 : ¬ (0 ≤ b ∧ b < σ.1 3 0 2) := mo_bl0.mp c2
      exact ((hQ.2 c1).1 c2)
    · replace c2 : 0 ≤ b ∧ b < σ.1 3 0 2 := mo_blT c2
      refine Exists.intro c (And.intro rfl (And.intro trivial ?_))
      refine And.intro (fun (c3 : ¬ (mo_bl (0 ≤ c ∧ c ≤ (10000 : Int32))) = 0) => ?_) (fun (c3 : (mo_bl (0 ≤ c ∧ c ≤ (10000 : Int32))) = 0) => ?_)
      · replace c3 : 0 ≤ c ∧ c ≤ (10000 : Int32) := mo_blT c3
        refine Exists.intro a (Exists.intro c (And.intro rfl (And.intro (show (mo_le (σ.1 18 0 4) 40 ∧ mo_le (σ.1 23 0 4) 40 ∧ ∀ k_, k_ < (σ.1 18 0 4).toNatClampNeg → vp_in (σ.1 19 0 k_) 30 ∧ vp_in (σ.1 20 0 k_) 30) ∧ vp_in a 20 ∧ vp_in (σ.1 39 a.toNatClampNeg 3) 30 ∧ mo_le (σ.1 3 0 2) 60 ∧ mo_le (σ.1 39 a.toNatClampNeg 2) 30 from (((hQ.2 c1).2 c2).1 c3).1) ?_)))
        refine Exists.intro (mo_badS σ a c) (Exists.intro b (And.intro rfl (And.intro trivial ?_)))
        refine And.intro (fun (c4 : (mo_bl (mo_bt (mo_badS σ a c) b)) = 0) => ?_) (fun (c4 : ¬ (mo_bl (mo_bt (mo_badS σ a c) b)) = 0) => ?_)
        · replace c4 : ¬ (mo_bt (mo_badS σ a c) b) := mo_bl0.mp c4
          exact ((((hQ.2 c1).2 c2).1 c3).2.1 c4)
        · replace c4 : mo_bt (mo_badS σ a c) b := mo_blT c4
          exact ((((hQ.2 c1).2 c2).1 c3).2.2 c4)
      · replace c3 : ¬ (0 ≤ c ∧ c ≤ (10000 : Int32)) := mo_bl0.mp c3
        exact (((hQ.2 c1).2 c2).2 c3)
def S_X11_hit : mo_S := fun as σ Q => ∃ a : Int32, ∃ b : Int32, ∃ c : Int32, as = [.inr (.inr (0, 0)), .inl a, .inl b, .inl c] ∧ ((¬ (0 ≤ a ∧ a < σ.1 0 0 12) → Q (some (.inl (-1 : Int32))) (σ)) ∧ (0 ≤ a ∧ a < σ.1 0 0 12 → ((¬ (0 ≤ b ∧ b < σ.1 3 0 2) → Q (some (.inl (-1 : Int32))) (σ)) ∧ (0 ≤ b ∧ b < σ.1 3 0 2 → ((0 ≤ c ∧ c ≤ (10000 : Int32) → (((mo_le (σ.1 6 0 5) 200 ∧ ∀ k_, k_ < (σ.1 6 0 5).toNatClampNeg → vp_in (σ.1 7 0 k_) 60) ∧ ((mo_le (σ.1 18 0 4) 40 ∧ mo_le (σ.1 23 0 4) 40 ∧ ∀ k_, k_ < (σ.1 18 0 4).toNatClampNeg → vp_in (σ.1 19 0 k_) 30 ∧ vp_in (σ.1 20 0 k_) 30) ∧ vp_in a 20 ∧ vp_in (σ.1 39 a.toNatClampNeg 3) 30 ∧ mo_le (σ.1 3 0 2) 60 ∧ mo_le (σ.1 39 a.toNatClampNeg 2) 30)) ∧ ((¬ (mo_bt ((mo_hit σ a c (0 : Int32)).1) b) → (((mo_le (σ.1 6 0 5) 200 ∧ ∀ k_, k_ < (σ.1 6 0 5).toNatClampNeg → vp_in (σ.1 7 0 k_) 60) ∧ ((mo_le (σ.1 18 0 4) 40 ∧ mo_le (σ.1 23 0 4) 40 ∧ ∀ k_, k_ < (σ.1 18 0 4).toNatClampNeg → vp_in (σ.1 19 0 k_) 30 ∧ vp_in (σ.1 20 0 k_) 30) ∧ vp_in a 20 ∧ vp_in (σ.1 39 a.toNatClampNeg 3) 30 ∧ mo_le (σ.1 3 0 2) 60 ∧ mo_le (σ.1 39 a.toNatClampNeg 2) 30)) ∧ ((¬ (mo_bt ((mo_hit (mo_wI (mo_rowL (mo_rowI (mo_rowL σ 34 0 (mo_layR σ c (0 : Int32))) 29 0 (mo_grp σ c)) 35 0 ((mo_hit σ a c (0 : Int32)).2.2.1)) 33 0 2 (nI (mo_hit σ a c (0 : Int32)).2.2.2)) a c (1 : Int32)).1) b) → Q (some (.inl (0 : Int32))) (mo_wI (mo_rowL (mo_rowI (mo_rowL (mo_wI (mo_rowL (mo_rowI (mo_rowL σ 34 0 (mo_layR σ c (0 : Int32))) 29 0 (mo_grp σ c)) 35 0 ((mo_hit σ a c (0 : Int32)).2.2.1)) 33 0 2 (nI (mo_hit σ a c (0 : Int32)).2.2.2)) 34 0 (mo_layR (mo_wI (mo_rowL (mo_rowI (mo_rowL σ 34 0 (mo_layR σ c (0 : Int32))) 29 0 (mo_grp σ c)) 35 0 ((mo_hit σ a c (0 : Int32)).2.2.1)) 33 0 2 (nI (mo_hit σ a c (0 : Int32)).2.2.2)) c (1 : Int32))) 29 0 (mo_grp (mo_wI (mo_rowL (mo_rowI (mo_rowL σ 34 0 (mo_layR σ c (0 : Int32))) 29 0 (mo_grp σ c)) 35 0 ((mo_hit σ a c (0 : Int32)).2.2.1)) 33 0 2 (nI (mo_hit σ a c (0 : Int32)).2.2.2)) c)) 35 0 ((mo_hit (mo_wI (mo_rowL (mo_rowI (mo_rowL σ 34 0 (mo_layR σ c (0 : Int32))) 29 0 (mo_grp σ c)) 35 0 ((mo_hit σ a c (0 : Int32)).2.2.1)) 33 0 2 (nI (mo_hit σ a c (0 : Int32)).2.2.2)) a c (1 : Int32)).2.2.1)) 33 0 2 (nI (mo_hit (mo_wI (mo_rowL (mo_rowI (mo_rowL σ 34 0 (mo_layR σ c (0 : Int32))) 29 0 (mo_grp σ c)) 35 0 ((mo_hit σ a c (0 : Int32)).2.2.1)) 33 0 2 (nI (mo_hit σ a c (0 : Int32)).2.2.2)) a c (1 : Int32)).2.2.2))) ∧ (mo_bt ((mo_hit (mo_wI (mo_rowL (mo_rowI (mo_rowL σ 34 0 (mo_layR σ c (0 : Int32))) 29 0 (mo_grp σ c)) 35 0 ((mo_hit σ a c (0 : Int32)).2.2.1)) 33 0 2 (nI (mo_hit σ a c (0 : Int32)).2.2.2)) a c (1 : Int32)).1) b → Q (some (.inl (1 : Int32))) (mo_wI (mo_rowL (mo_rowI (mo_rowL (mo_wI (mo_rowL (mo_rowI (mo_rowL σ 34 0 (mo_layR σ c (0 : Int32))) 29 0 (mo_grp σ c)) 35 0 ((mo_hit σ a c (0 : Int32)).2.2.1)) 33 0 2 (nI (mo_hit σ a c (0 : Int32)).2.2.2)) 34 0 (mo_layR (mo_wI (mo_rowL (mo_rowI (mo_rowL σ 34 0 (mo_layR σ c (0 : Int32))) 29 0 (mo_grp σ c)) 35 0 ((mo_hit σ a c (0 : Int32)).2.2.1)) 33 0 2 (nI (mo_hit σ a c (0 : Int32)).2.2.2)) c (1 : Int32))) 29 0 (mo_grp (mo_wI (mo_rowL (mo_rowI (mo_rowL σ 34 0 (mo_layR σ c (0 : Int32))) 29 0 (mo_grp σ c)) 35 0 ((mo_hit σ a c (0 : Int32)).2.2.1)) 33 0 2 (nI (mo_hit σ a c (0 : Int32)).2.2.2)) c)) 35 0 ((mo_hit (mo_wI (mo_rowL (mo_rowI (mo_rowL σ 34 0 (mo_layR σ c (0 : Int32))) 29 0 (mo_grp σ c)) 35 0 ((mo_hit σ a c (0 : Int32)).2.2.1)) 33 0 2 (nI (mo_hit σ a c (0 : Int32)).2.2.2)) a c (1 : Int32)).2.2.1)) 33 0 2 (nI (mo_hit (mo_wI (mo_rowL (mo_rowI (mo_rowL σ 34 0 (mo_layR σ c (0 : Int32))) 29 0 (mo_grp σ c)) 35 0 ((mo_hit σ a c (0 : Int32)).2.2.1)) 33 0 2 (nI (mo_hit σ a c (0 : Int32)).2.2.2)) a c (1 : Int32)).2.2.2)))))) ∧ (mo_bt ((mo_hit σ a c (0 : Int32)).1) b → Q (some (.inl (2 : Int32))) (mo_wI (mo_rowL (mo_rowI (mo_rowL σ 34 0 (mo_layR σ c (0 : Int32))) 29 0 (mo_grp σ c)) 35 0 ((mo_hit σ a c (0 : Int32)).2.2.1)) 33 0 2 (nI (mo_hit σ a c (0 : Int32)).2.2.2)))))) ∧ (¬ (0 ≤ c ∧ c ≤ (10000 : Int32)) → Q (some (.inl (-1 : Int32))) (σ)))))))
theorem m_X11_hit : ∀ (as : List mo_V) (σ : mo_M) (P P' : mo_Q), (∀ x τ, P x τ → P' x τ) → S_X11_hit as σ P → S_X11_hit as σ P' := by
  rintro as σ P P' hm ⟨a, b, c, e, hq⟩
  exact ⟨a, b, c, e, ⟨fun c1 => hm _ _ (hq.1 c1), fun c1 => ⟨fun c2 => hm _ _ ((hq.2 c1).1 c2), fun c2 => ⟨fun c3 => ⟨(((hq.2 c1).2 c2).1 c3).1, ⟨fun c4 => ⟨((((hq.2 c1).2 c2).1 c3).2.1 c4).1, ⟨fun c5 => hm _ _ (((((hq.2 c1).2 c2).1 c3).2.1 c4).2.1 c5), fun c5 => hm _ _ (((((hq.2 c1).2 c2).1 c3).2.1 c4).2.2 c5)⟩⟩, fun c4 => hm _ _ ((((hq.2 c1).2 c2).1 c3).2.2 c4)⟩⟩, fun c3 => hm _ _ (((hq.2 c1).2 c2).2 c3)⟩⟩⟩⟩
def cs_X11_hit : Nat → mo_C := fun j => match j with
  | 0 => (2, true, 194, 11, S_X11_isWarning)
  | 1 => (2, true, 140, 11, S_X11_isMake)
  | 2 => (1, false, 137, 50, S_X11_isDay)
  | 3 => (4, true, 205, 11, S_X11_trace)
  | _ => (0, false, 0, 50, fun _ _ _ => False)
theorem cs_X11_hit_ok (g : mo_E) : ∀ j, mo_cok g t_X11_hit (cs_X11_hit j) ∧ mo_mon (cs_X11_hit j) := by
  intro j
  unfold cs_X11_hit
  split
  · exact ⟨mo_cokV ct_X11_isWarning (by decide) ⟨_, _, rfl⟩ (by decide +kernel), m_X11_isWarning⟩
  · exact ⟨mo_cokV ct_X11_isMake (by decide) ⟨_, _, rfl⟩ (by decide +kernel), m_X11_isMake⟩
  · exact ⟨mo_cokS ct_X11_isDay (by decide +kernel), m_X11_isDay⟩
  · exact ⟨mo_cokV ct_X11_trace (by decide) ⟨_, _, rfl⟩ (by decide +kernel), m_X11_trace⟩
  · exact ⟨mo_cok0 g _, mo_mon0⟩
set_option maxRecDepth 20000 in
set_option maxHeartbeats 2000000 in
theorem ct_X11_hit : mo_ct yX11_hit t_X11_hit S_X11_hit := by
  refine mo_ct_of (by decide) rfl ?_
  rintro g as σ Q ⟨a, b, c, rfl, hQ⟩
  refine ⟨Nat.le_of_ble_eq_true rfl, mo_go ok_X11_hit (cs_X11_hit_ok g) [] 20 ?_⟩
  intro K hK
  refine Exists.intro a (And.intro rfl (And.intro trivial ?_))
  refine And.intro (fun (c1 : (mo_bl (0 ≤ a ∧ a < σ.1 0 0 12)) = 0) => ?_) (fun (c1 : ¬ (mo_bl (0 ≤ a ∧ a < σ.1 0 0 12)) = 0) => ?_)
  · replace c1 : ¬ (0 ≤ a ∧ a < σ.1 0 0 12) := mo_bl0.mp c1
    exact (hQ.1 c1)
  · replace c1 : 0 ≤ a ∧ a < σ.1 0 0 12 := mo_blT c1
    refine Exists.intro b (And.intro rfl (And.intro trivial ?_))
    refine And.intro (fun (c2 : (mo_bl (0 ≤ b ∧ b < σ.1 3 0 2)) = 0) => ?_) (fun (c2 : ¬ (mo_bl (0 ≤ b ∧ b < σ.1 3 0 2)) = 0) => ?_)
    · replace c2 : ¬ (0 ≤ b ∧ b < σ.1 3 0 2) := mo_bl0.mp c2
      exact ((hQ.2 c1).1 c2)
    · replace c2 : 0 ≤ b ∧ b < σ.1 3 0 2 := mo_blT c2
      refine Exists.intro c (And.intro rfl (And.intro trivial ?_))
      refine And.intro (fun (c3 : ¬ (mo_bl (0 ≤ c ∧ c ≤ (10000 : Int32))) = 0) => ?_) (fun (c3 : (mo_bl (0 ≤ c ∧ c ≤ (10000 : Int32))) = 0) => ?_)
      · replace c3 : 0 ≤ c ∧ c ≤ (10000 : Int32) := mo_blT c3
        refine Exists.intro a (Exists.intro b (Exists.intro c (And.intro rfl ?_)))
        refine And.intro (show (mo_le (σ.1 6 0 5) 200 ∧ ∀ k_, k_ < (σ.1 6 0 5).toNatClampNeg → vp_in (σ.1 7 0 k_) 60) ∧ ((mo_le (σ.1 18 0 4) 40 ∧ mo_le (σ.1 23 0 4) 40 ∧ ∀ k_, k_ < (σ.1 18 0 4).toNatClampNeg → vp_in (σ.1 19 0 k_) 30 ∧ vp_in (σ.1 20 0 k_) 30) ∧ vp_in a 20 ∧ vp_in (σ.1 39 a.toNatClampNeg 3) 30 ∧ mo_le (σ.1 3 0 2) 60 ∧ mo_le (σ.1 39 a.toNatClampNeg 2) 30) from (((hQ.2 c1).2 c2).1 c3).1) ?_
        refine And.intro (fun (c4 : ¬ (mo_bt ((mo_hit σ a c (0 : Int32)).1) b)) => ?_) (fun (c4 : mo_bt ((mo_hit σ a c (0 : Int32)).1) b) => ?_)
        · refine And.intro (show (mo_le (σ.1 6 0 5) 200 ∧ ∀ k_, k_ < (σ.1 6 0 5).toNatClampNeg → vp_in (σ.1 7 0 k_) 60) ∧ ((mo_le (σ.1 18 0 4) 40 ∧ mo_le (σ.1 23 0 4) 40 ∧ ∀ k_, k_ < (σ.1 18 0 4).toNatClampNeg → vp_in (σ.1 19 0 k_) 30 ∧ vp_in (σ.1 20 0 k_) 30) ∧ vp_in a 20 ∧ vp_in (σ.1 39 a.toNatClampNeg 3) 30 ∧ mo_le (σ.1 3 0 2) 60 ∧ mo_le (σ.1 39 a.toNatClampNeg 2) 30) from ((((hQ.2 c1).2 c2).1 c3).2.1 c4).1) ?_
          refine And.intro (fun (c5 : ¬ (mo_bt ((mo_hit (mo_wI (mo_rowL (mo_rowI (mo_rowL σ 34 0 (mo_layR σ c (0 : Int32))) 29 0 (mo_grp σ c)) 35 0 ((mo_hit σ a c (0 : Int32)).2.2.1)) 33 0 2 (nI (mo_hit σ a c (0 : Int32)).2.2.2)) a c (1 : Int32)).1) b)) => ?_) (fun (c5 : mo_bt ((mo_hit (mo_wI (mo_rowL (mo_rowI (mo_rowL σ 34 0 (mo_layR σ c (0 : Int32))) 29 0 (mo_grp σ c)) 35 0 ((mo_hit σ a c (0 : Int32)).2.2.1)) 33 0 2 (nI (mo_hit σ a c (0 : Int32)).2.2.2)) a c (1 : Int32)).1) b) => ?_)
          · exact (((((hQ.2 c1).2 c2).1 c3).2.1 c4).2.1 c5)
          · exact (((((hQ.2 c1).2 c2).1 c3).2.1 c4).2.2 c5)
        · exact ((((hQ.2 c1).2 c2).1 c3).2.2 c4)
      · replace c3 : ¬ (0 ≤ c ∧ c ≤ (10000 : Int32)) := mo_bl0.mp c3
        exact (((hQ.2 c1).2 c2).2 c3)
def S_X11_has : mo_S := fun as σ Q => ∃ a : Int32, ∃ b : Int32, ∃ c : Int32, ∃ d : Int32, as = [.inr (.inr (0, 0)), .inl a, .inl b, .inl c, .inl d] ∧ ((¬ (0 ≤ a ∧ a < σ.1 0 0 12) → Q (some (.inl (-1 : Int32))) (σ)) ∧ (0 ≤ a ∧ a < σ.1 0 0 12 → ((¬ (0 ≤ b ∧ b ≤ (29 : Int32)) → Q (some (.inl (-1 : Int32))) (σ)) ∧ (0 ≤ b ∧ b ≤ (29 : Int32) → ((¬ (0 ≤ c ∧ c ≤ (10000 : Int32)) → Q (some (.inl (-1 : Int32))) (σ)) ∧ (0 ≤ c ∧ c ≤ (10000 : Int32) → ((0 ≤ d ∧ d ≤ (10000 : Int32) → (((mo_le (σ.1 6 0 5) 200 ∧ ∀ k_, k_ < (σ.1 6 0 5).toNatClampNeg → vp_in (σ.1 7 0 k_) 60) ∧ ((mo_le (σ.1 18 0 4) 40 ∧ mo_le (σ.1 23 0 4) 40 ∧ ∀ k_, k_ < (σ.1 18 0 4).toNatClampNeg → vp_in (σ.1 19 0 k_) 30 ∧ vp_in (σ.1 20 0 k_) 30) ∧ vp_in a 20 ∧ vp_in (σ.1 39 a.toNatClampNeg 3) 30 ∧ mo_le (σ.1 3 0 2) 60 ∧ mo_le (σ.1 39 a.toNatClampNeg 2) 30)) ∧ ((mo_le (σ.1 12 0 5) 100) ∧ ((¬ (mo_bt ((mo_fo (fun k_ a_ => mo_ite ((σ.1 17 0 k_ ≤ d ∧ mo_bt ((mo_hit σ a d (0 : Int32)).1) (σ.1 14 0 k_)) ∧ σ.1 15 0 k_ ≤ c ∧ c ≤ σ.1 16 0 k_) (a_ ||| (1 : Int32) <<< (σ.1 13 0 k_ &&& 31)) a_) 0 (σ.1 12 0 5).toNatClampNeg).toInt64) b) → (((mo_le (σ.1 6 0 5) 200 ∧ ∀ k_, k_ < (σ.1 6 0 5).toNatClampNeg → vp_in (σ.1 7 0 k_) 60) ∧ ((mo_le (σ.1 18 0 4) 40 ∧ mo_le (σ.1 23 0 4) 40 ∧ ∀ k_, k_ < (σ.1 18 0 4).toNatClampNeg → vp_in (σ.1 19 0 k_) 30 ∧ vp_in (σ.1 20 0 k_) 30) ∧ vp_in a 20 ∧ vp_in (σ.1 39 a.toNatClampNeg 3) 30 ∧ mo_le (σ.1 3 0 2) 60 ∧ mo_le (σ.1 39 a.toNatClampNeg 2) 30)) ∧ ((mo_le (σ.1 12 0 5) 100) ∧ ((¬ (mo_bt ((mo_fo (fun k_ a_ => mo_ite ((σ.1 17 0 k_ ≤ d ∧ mo_bt ((mo_hit (mo_wI (mo_rowL (mo_rowI (mo_rowL σ 34 0 (mo_layR σ d (0 : Int32))) 29 0 (mo_grp σ d)) 35 0 ((mo_hit σ a d (0 : Int32)).2.2.1)) 33 0 2 (nI (mo_hit σ a d (0 : Int32)).2.2.2)) a d (1 : Int32)).1) (σ.1 14 0 k_)) ∧ σ.1 15 0 k_ ≤ c ∧ c ≤ σ.1 16 0 k_) (a_ ||| (1 : Int32) <<< (σ.1 13 0 k_ &&& 31)) a_) 0 (σ.1 12 0 5).toNatClampNeg).toInt64) b) → Q (some (.inl (0 : Int32))) (mo_wI (mo_rowL (mo_rowI (mo_rowL (mo_wI (mo_rowL (mo_rowI (mo_rowL σ 34 0 (mo_layR σ d (0 : Int32))) 29 0 (mo_grp σ d)) 35 0 ((mo_hit σ a d (0 : Int32)).2.2.1)) 33 0 2 (nI (mo_hit σ a d (0 : Int32)).2.2.2)) 34 0 (mo_layR (mo_wI (mo_rowL (mo_rowI (mo_rowL σ 34 0 (mo_layR σ d (0 : Int32))) 29 0 (mo_grp σ d)) 35 0 ((mo_hit σ a d (0 : Int32)).2.2.1)) 33 0 2 (nI (mo_hit σ a d (0 : Int32)).2.2.2)) d (1 : Int32))) 29 0 (mo_grp (mo_wI (mo_rowL (mo_rowI (mo_rowL σ 34 0 (mo_layR σ d (0 : Int32))) 29 0 (mo_grp σ d)) 35 0 ((mo_hit σ a d (0 : Int32)).2.2.1)) 33 0 2 (nI (mo_hit σ a d (0 : Int32)).2.2.2)) d)) 35 0 ((mo_hit (mo_wI (mo_rowL (mo_rowI (mo_rowL σ 34 0 (mo_layR σ d (0 : Int32))) 29 0 (mo_grp σ d)) 35 0 ((mo_hit σ a d (0 : Int32)).2.2.1)) 33 0 2 (nI (mo_hit σ a d (0 : Int32)).2.2.2)) a d (1 : Int32)).2.2.1)) 33 0 2 (nI (mo_hit (mo_wI (mo_rowL (mo_rowI (mo_rowL σ 34 0 (mo_layR σ d (0 : Int32))) 29 0 (mo_grp σ d)) 35 0 ((mo_hit σ a d (0 : Int32)).2.2.1)) 33 0 2 (nI (mo_hit σ a d (0 : Int32)).2.2.2)) a d (1 : Int32)).2.2.2))) ∧ (mo_bt ((mo_fo (fun k_ a_ => mo_ite ((σ.1 17 0 k_ ≤ d ∧ mo_bt ((mo_hit (mo_wI (mo_rowL (mo_rowI (mo_rowL σ 34 0 (mo_layR σ d (0 : Int32))) 29 0 (mo_grp σ d)) 35 0 ((mo_hit σ a d (0 : Int32)).2.2.1)) 33 0 2 (nI (mo_hit σ a d (0 : Int32)).2.2.2)) a d (1 : Int32)).1) (σ.1 14 0 k_)) ∧ σ.1 15 0 k_ ≤ c ∧ c ≤ σ.1 16 0 k_) (a_ ||| (1 : Int32) <<< (σ.1 13 0 k_ &&& 31)) a_) 0 (σ.1 12 0 5).toNatClampNeg).toInt64) b → Q (some (.inl (1 : Int32))) (mo_wI (mo_rowL (mo_rowI (mo_rowL (mo_wI (mo_rowL (mo_rowI (mo_rowL σ 34 0 (mo_layR σ d (0 : Int32))) 29 0 (mo_grp σ d)) 35 0 ((mo_hit σ a d (0 : Int32)).2.2.1)) 33 0 2 (nI (mo_hit σ a d (0 : Int32)).2.2.2)) 34 0 (mo_layR (mo_wI (mo_rowL (mo_rowI (mo_rowL σ 34 0 (mo_layR σ d (0 : Int32))) 29 0 (mo_grp σ d)) 35 0 ((mo_hit σ a d (0 : Int32)).2.2.1)) 33 0 2 (nI (mo_hit σ a d (0 : Int32)).2.2.2)) d (1 : Int32))) 29 0 (mo_grp (mo_wI (mo_rowL (mo_rowI (mo_rowL σ 34 0 (mo_layR σ d (0 : Int32))) 29 0 (mo_grp σ d)) 35 0 ((mo_hit σ a d (0 : Int32)).2.2.1)) 33 0 2 (nI (mo_hit σ a d (0 : Int32)).2.2.2)) d)) 35 0 ((mo_hit (mo_wI (mo_rowL (mo_rowI (mo_rowL σ 34 0 (mo_layR σ d (0 : Int32))) 29 0 (mo_grp σ d)) 35 0 ((mo_hit σ a d (0 : Int32)).2.2.1)) 33 0 2 (nI (mo_hit σ a d (0 : Int32)).2.2.2)) a d (1 : Int32)).2.2.1)) 33 0 2 (nI (mo_hit (mo_wI (mo_rowL (mo_rowI (mo_rowL σ 34 0 (mo_layR σ d (0 : Int32))) 29 0 (mo_grp σ d)) 35 0 ((mo_hit σ a d (0 : Int32)).2.2.1)) 33 0 2 (nI (mo_hit σ a d (0 : Int32)).2.2.2)) a d (1 : Int32)).2.2.2))))))) ∧ (mo_bt ((mo_fo (fun k_ a_ => mo_ite ((σ.1 17 0 k_ ≤ d ∧ mo_bt ((mo_hit σ a d (0 : Int32)).1) (σ.1 14 0 k_)) ∧ σ.1 15 0 k_ ≤ c ∧ c ≤ σ.1 16 0 k_) (a_ ||| (1 : Int32) <<< (σ.1 13 0 k_ &&& 31)) a_) 0 (σ.1 12 0 5).toNatClampNeg).toInt64) b → Q (some (.inl (2 : Int32))) (mo_wI (mo_rowL (mo_rowI (mo_rowL σ 34 0 (mo_layR σ d (0 : Int32))) 29 0 (mo_grp σ d)) 35 0 ((mo_hit σ a d (0 : Int32)).2.2.1)) 33 0 2 (nI (mo_hit σ a d (0 : Int32)).2.2.2))))))) ∧ (¬ (0 ≤ d ∧ d ≤ (10000 : Int32)) → Q (some (.inl (-1 : Int32))) (σ)))))))))
theorem m_X11_has : ∀ (as : List mo_V) (σ : mo_M) (P P' : mo_Q), (∀ x τ, P x τ → P' x τ) → S_X11_has as σ P → S_X11_has as σ P' := by
  rintro as σ P P' hm ⟨a, b, c, d, e, hq⟩
  exact ⟨a, b, c, d, e, ⟨fun c1 => hm _ _ (hq.1 c1), fun c1 => ⟨fun c2 => hm _ _ ((hq.2 c1).1 c2), fun c2 => ⟨fun c3 => hm _ _ (((hq.2 c1).2 c2).1 c3), fun c3 => ⟨fun c4 => ⟨((((hq.2 c1).2 c2).2 c3).1 c4).1, ⟨((((hq.2 c1).2 c2).2 c3).1 c4).2.1, ⟨fun c5 => ⟨(((((hq.2 c1).2 c2).2 c3).1 c4).2.2.1 c5).1, ⟨(((((hq.2 c1).2 c2).2 c3).1 c4).2.2.1 c5).2.1, ⟨fun c6 => hm _ _ ((((((hq.2 c1).2 c2).2 c3).1 c4).2.2.1 c5).2.2.1 c6), fun c6 => hm _ _ ((((((hq.2 c1).2 c2).2 c3).1 c4).2.2.1 c5).2.2.2 c6)⟩⟩⟩, fun c5 => hm _ _ (((((hq.2 c1).2 c2).2 c3).1 c4).2.2.2 c5)⟩⟩⟩, fun c4 => hm _ _ ((((hq.2 c1).2 c2).2 c3).2 c4)⟩⟩⟩⟩⟩
def cs_X11_has : Nat → mo_C := fun j => match j with
  | 0 => (2, true, 194, 11, S_X11_isWarning)
  | 1 => (2, false, 101, 50, S_X11_isWithin)
  | 2 => (1, false, 137, 50, S_X11_isDay)
  | 3 => (4, true, 214, 11, S_X11_hitMakes)
  | 4 => (4, true, 218, 1, S_X1_sitesWith)
  | 5 => (2, false, 201, 50, S_X11_contains)
  | _ => (0, false, 0, 50, fun _ _ _ => False)
theorem cs_X11_has_ok (g : mo_E) : ∀ j, mo_cok g t_X11_has (cs_X11_has j) ∧ mo_mon (cs_X11_has j) := by
  intro j
  unfold cs_X11_has
  split
  · exact ⟨mo_cokV ct_X11_isWarning (by decide) ⟨_, _, rfl⟩ (by decide +kernel), m_X11_isWarning⟩
  · exact ⟨mo_cokS ct_X11_isWithin (by decide +kernel), m_X11_isWithin⟩
  · exact ⟨mo_cokS ct_X11_isDay (by decide +kernel), m_X11_isDay⟩
  · exact ⟨mo_cokV ct_X11_hitMakes (by decide) ⟨_, _, rfl⟩ (by decide +kernel), m_X11_hitMakes⟩
  · exact ⟨mo_cokV ct_X1_sitesWith (by decide) ⟨_, _, rfl⟩ (by decide +kernel), m_X1_sitesWith⟩
  · exact ⟨mo_cokS ct_X11_contains (by decide +kernel), m_X11_contains⟩
  · exact ⟨mo_cok0 g _, mo_mon0⟩
set_option maxRecDepth 20000 in
set_option maxHeartbeats 2000000 in
theorem ct_X11_has : mo_ct yX11_has t_X11_has S_X11_has := by
  refine mo_ct_of (by decide) rfl ?_
  rintro g as σ Q ⟨a, b, c, d, rfl, hQ⟩
  refine ⟨Nat.le_of_ble_eq_true rfl, mo_go ok_X11_has (cs_X11_has_ok g) [] 51 ?_⟩
  intro K hK
  refine Exists.intro a (And.intro rfl (And.intro trivial ?_))
  refine And.intro (fun (c1 : (mo_bl (0 ≤ a ∧ a < σ.1 0 0 12)) = 0) => ?_) (fun (c1 : ¬ (mo_bl (0 ≤ a ∧ a < σ.1 0 0 12)) = 0) => ?_)
  · replace c1 : ¬ (0 ≤ a ∧ a < σ.1 0 0 12) := mo_bl0.mp c1
    exact (hQ.1 c1)
  · replace c1 : 0 ≤ a ∧ a < σ.1 0 0 12 := mo_blT c1
    refine Exists.intro b (Exists.intro (29 : Int32) (And.intro rfl (And.intro trivial ?_)))
    refine And.intro (fun (c2 : (mo_bl (0 ≤ b ∧ b ≤ (29 : Int32))) = 0) => ?_) (fun (c2 : ¬ (mo_bl (0 ≤ b ∧ b ≤ (29 : Int32))) = 0) => ?_)
    · replace c2 : ¬ (0 ≤ b ∧ b ≤ (29 : Int32)) := mo_bl0.mp c2
      exact ((hQ.2 c1).1 c2)
    · replace c2 : 0 ≤ b ∧ b ≤ (29 : Int32) := mo_blT c2
      refine Exists.intro c (And.intro rfl (And.intro trivial ?_))
      refine And.intro (fun (c3 : (mo_bl (0 ≤ c ∧ c ≤ (10000 : Int32))) = 0) => ?_) (fun (c3 : ¬ (mo_bl (0 ≤ c ∧ c ≤ (10000 : Int32))) = 0) => ?_)
      · replace c3 : ¬ (0 ≤ c ∧ c ≤ (10000 : Int32)) := mo_bl0.mp c3
        exact (((hQ.2 c1).2 c2).1 c3)
      · replace c3 : 0 ≤ c ∧ c ≤ (10000 : Int32) := mo_blT c3
        refine Exists.intro d (And.intro rfl (And.intro trivial ?_))
        refine And.intro (fun (c4 : ¬ (mo_bl (0 ≤ d ∧ d ≤ (10000 : Int32))) = 0) => ?_) (fun (c4 : (mo_bl (0 ≤ d ∧ d ≤ (10000 : Int32))) = 0) => ?_)
        · replace c4 : 0 ≤ d ∧ d ≤ (10000 : Int32) := mo_blT c4
          refine Exists.intro a (Exists.intro d (Exists.intro (0 : Int32) (And.intro rfl (And.intro (show (mo_le (σ.1 6 0 5) 200 ∧ ∀ k_, k_ < (σ.1 6 0 5).toNatClampNeg → vp_in (σ.1 7 0 k_) 60) ∧ ((mo_le (σ.1 18 0 4) 40 ∧ mo_le (σ.1 23 0 4) 40 ∧ ∀ k_, k_ < (σ.1 18 0 4).toNatClampNeg → vp_in (σ.1 19 0 k_) 30 ∧ vp_in (σ.1 20 0 k_) 30) ∧ vp_in a 20 ∧ vp_in (σ.1 39 a.toNatClampNeg 3) 30 ∧ mo_le (σ.1 3 0 2) 60 ∧ mo_le (σ.1 39 a.toNatClampNeg 2) 30) from ((((hQ.2 c1).2 c2).2 c3).1 c4).1) ?_))))
          refine Exists.intro ((mo_hit σ a d (0 : Int32)).1) (Exists.intro c (Exists.intro d (And.intro rfl (And.intro (show mo_le (σ.1 12 0 5) 100 from ((((hQ.2 c1).2 c2).2 c3).1 c4).2.1) ?_))))
          refine Exists.intro ((mo_fo (fun k_ a_ => mo_ite ((σ.1 17 0 k_ ≤ d ∧ mo_bt ((mo_hit σ a d (0 : Int32)).1) (σ.1 14 0 k_)) ∧ σ.1 15 0 k_ ≤ c ∧ c ≤ σ.1 16 0 k_) (a_ ||| (1 : Int32) <<< (σ.1 13 0 k_ &&& 31)) a_) 0 (σ.1 12 0 5).toNatClampNeg).toInt64) (Exists.intro b (And.intro rfl (And.intro trivial ?_)))
          refine And.intro (fun (c5 : (mo_bl (mo_bt ((mo_fo (fun k_ a_ => mo_ite ((σ.1 17 0 k_ ≤ d ∧ mo_bt ((mo_hit σ a d (0 : Int32)).1) (σ.1 14 0 k_)) ∧ σ.1 15 0 k_ ≤ c ∧ c ≤ σ.1 16 0 k_) (a_ ||| (1 : Int32) <<< (σ.1 13 0 k_ &&& 31)) a_) 0 (σ.1 12 0 5).toNatClampNeg).toInt64) b)) = 0) => ?_) (fun (c5 : ¬ (mo_bl (mo_bt ((mo_fo (fun k_ a_ => mo_ite ((σ.1 17 0 k_ ≤ d ∧ mo_bt ((mo_hit σ a d (0 : Int32)).1) (σ.1 14 0 k_)) ∧ σ.1 15 0 k_ ≤ c ∧ c ≤ σ.1 16 0 k_) (a_ ||| (1 : Int32) <<< (σ.1 13 0 k_ &&& 31)) a_) 0 (σ.1 12 0 5).toNatClampNeg).toInt64) b)) = 0) => ?_)
          · replace c5 : ¬ (mo_bt ((mo_fo (fun k_ a_ => mo_ite ((σ.1 17 0 k_ ≤ d ∧ mo_bt ((mo_hit σ a d (0 : Int32)).1) (σ.1 14 0 k_)) ∧ σ.1 15 0 k_ ≤ c ∧ c ≤ σ.1 16 0 k_) (a_ ||| (1 : Int32) <<< (σ.1 13 0 k_ &&& 31)) a_) 0 (σ.1 12 0 5).toNatClampNeg).toInt64) b) := mo_bl0.mp c5
            refine Exists.intro a (Exists.intro d (Exists.intro (1 : Int32) (And.intro rfl (And.intro (show (mo_le (σ.1 6 0 5) 200 ∧ ∀ k_, k_ < (σ.1 6 0 5).toNatClampNeg → vp_in (σ.1 7 0 k_) 60) ∧ ((mo_le (σ.1 18 0 4) 40 ∧ mo_le (σ.1 23 0 4) 40 ∧ ∀ k_, k_ < (σ.1 18 0 4).toNatClampNeg → vp_in (σ.1 19 0 k_) 30 ∧ vp_in (σ.1 20 0 k_) 30) ∧ vp_in a 20 ∧ vp_in (σ.1 39 a.toNatClampNeg 3) 30 ∧ mo_le (σ.1 3 0 2) 60 ∧ mo_le (σ.1 39 a.toNatClampNeg 2) 30) from (((((hQ.2 c1).2 c2).2 c3).1 c4).2.2.1 c5).1) ?_))))
            refine Exists.intro ((mo_hit (mo_wI (mo_rowL (mo_rowI (mo_rowL σ 34 0 (mo_layR σ d (0 : Int32))) 29 0 (mo_grp σ d)) 35 0 ((mo_hit σ a d (0 : Int32)).2.2.1)) 33 0 2 (nI (mo_hit σ a d (0 : Int32)).2.2.2)) a d (1 : Int32)).1) (Exists.intro c (Exists.intro d (And.intro rfl (And.intro (show mo_le (σ.1 12 0 5) 100 from (((((hQ.2 c1).2 c2).2 c3).1 c4).2.2.1 c5).2.1) ?_))))
            refine Exists.intro ((mo_fo (fun k_ a_ => mo_ite ((σ.1 17 0 k_ ≤ d ∧ mo_bt ((mo_hit (mo_wI (mo_rowL (mo_rowI (mo_rowL σ 34 0 (mo_layR σ d (0 : Int32))) 29 0 (mo_grp σ d)) 35 0 ((mo_hit σ a d (0 : Int32)).2.2.1)) 33 0 2 (nI (mo_hit σ a d (0 : Int32)).2.2.2)) a d (1 : Int32)).1) (σ.1 14 0 k_)) ∧ σ.1 15 0 k_ ≤ c ∧ c ≤ σ.1 16 0 k_) (a_ ||| (1 : Int32) <<< (σ.1 13 0 k_ &&& 31)) a_) 0 (σ.1 12 0 5).toNatClampNeg).toInt64) (Exists.intro b (And.intro rfl (And.intro trivial ?_)))
            refine And.intro (fun (c6 : (mo_bl (mo_bt ((mo_fo (fun k_ a_ => mo_ite ((σ.1 17 0 k_ ≤ d ∧ mo_bt ((mo_hit (mo_wI (mo_rowL (mo_rowI (mo_rowL σ 34 0 (mo_layR σ d (0 : Int32))) 29 0 (mo_grp σ d)) 35 0 ((mo_hit σ a d (0 : Int32)).2.2.1)) 33 0 2 (nI (mo_hit σ a d (0 : Int32)).2.2.2)) a d (1 : Int32)).1) (σ.1 14 0 k_)) ∧ σ.1 15 0 k_ ≤ c ∧ c ≤ σ.1 16 0 k_) (a_ ||| (1 : Int32) <<< (σ.1 13 0 k_ &&& 31)) a_) 0 (σ.1 12 0 5).toNatClampNeg).toInt64) b)) = 0) => ?_) (fun (c6 : ¬ (mo_bl (mo_bt ((mo_fo (fun k_ a_ => mo_ite ((σ.1 17 0 k_ ≤ d ∧ mo_bt ((mo_hit (mo_wI (mo_rowL (mo_rowI (mo_rowL σ 34 0 (mo_layR σ d (0 : Int32))) 29 0 (mo_grp σ d)) 35 0 ((mo_hit σ a d (0 : Int32)).2.2.1)) 33 0 2 (nI (mo_hit σ a d (0 : Int32)).2.2.2)) a d (1 : Int32)).1) (σ.1 14 0 k_)) ∧ σ.1 15 0 k_ ≤ c ∧ c ≤ σ.1 16 0 k_) (a_ ||| (1 : Int32) <<< (σ.1 13 0 k_ &&& 31)) a_) 0 (σ.1 12 0 5).toNatClampNeg).toInt64) b)) = 0) => ?_)
            · replace c6 : ¬ (mo_bt ((mo_fo (fun k_ a_ => mo_ite ((σ.1 17 0 k_ ≤ d ∧ mo_bt ((mo_hit (mo_wI (mo_rowL (mo_rowI (mo_rowL σ 34 0 (mo_layR σ d (0 : Int32))) 29 0 (mo_grp σ d)) 35 0 ((mo_hit σ a d (0 : Int32)).2.2.1)) 33 0 2 (nI (mo_hit σ a d (0 : Int32)).2.2.2)) a d (1 : Int32)).1) (σ.1 14 0 k_)) ∧ σ.1 15 0 k_ ≤ c ∧ c ≤ σ.1 16 0 k_) (a_ ||| (1 : Int32) <<< (σ.1 13 0 k_ &&& 31)) a_) 0 (σ.1 12 0 5).toNatClampNeg).toInt64) b) := mo_bl0.mp c6
              exact ((((((hQ.2 c1).2 c2).2 c3).1 c4).2.2.1 c5).2.2.1 c6)
            · replace c6 : mo_bt ((mo_fo (fun k_ a_ => mo_ite ((σ.1 17 0 k_ ≤ d ∧ mo_bt ((mo_hit (mo_wI (mo_rowL (mo_rowI (mo_rowL σ 34 0 (mo_layR σ d (0 : Int32))) 29 0 (mo_grp σ d)) 35 0 ((mo_hit σ a d (0 : Int32)).2.2.1)) 33 0 2 (nI (mo_hit σ a d (0 : Int32)).2.2.2)) a d (1 : Int32)).1) (σ.1 14 0 k_)) ∧ σ.1 15 0 k_ ≤ c ∧ c ≤ σ.1 16 0 k_) (a_ ||| (1 : Int32) <<< (σ.1 13 0 k_ &&& 31)) a_) 0 (σ.1 12 0 5).toNatClampNeg).toInt64) b := mo_blT c6
              exact ((((((hQ.2 c1).2 c2).2 c3).1 c4).2.2.1 c5).2.2.2 c6)
          · replace c5 : mo_bt ((mo_fo (fun k_ a_ => mo_ite ((σ.1 17 0 k_ ≤ d ∧ mo_bt ((mo_hit σ a d (0 : Int32)).1) (σ.1 14 0 k_)) ∧ σ.1 15 0 k_ ≤ c ∧ c ≤ σ.1 16 0 k_) (a_ ||| (1 : Int32) <<< (σ.1 13 0 k_ &&& 31)) a_) 0 (σ.1 12 0 5).toNatClampNeg).toInt64) b := mo_blT c5
            exact (((((hQ.2 c1).2 c2).2 c3).1 c4).2.2.2 c5)
        · replace c4 : ¬ (0 ≤ d ∧ d ≤ (10000 : Int32)) := mo_bl0.mp c4
          exact ((((hQ.2 c1).2 c2).2 c3).2 c4)
def S_X11_since : mo_S := fun as σ Q => ∃ a : Int32, ∃ b : Int32, ∃ c : Int32, as = [.inr (.inr (0, 0)), .inl a, .inl b, .inl c] ∧ ((¬ (0 ≤ a ∧ a < σ.1 0 0 12) → Q (some (.inl (-1 : Int32))) (σ)) ∧ (0 ≤ a ∧ a < σ.1 0 0 12 → ((¬ (0 ≤ b ∧ b ≤ (29 : Int32)) → Q (some (.inl (-1 : Int32))) (σ)) ∧ (0 ≤ b ∧ b ≤ (29 : Int32) → ((0 ≤ c ∧ c ≤ (10000 : Int32) → (((mo_le (σ.1 6 0 5) 200 ∧ ∀ k_, k_ < (σ.1 6 0 5).toNatClampNeg → vp_in (σ.1 7 0 k_) 60) ∧ ((mo_le (σ.1 18 0 4) 40 ∧ mo_le (σ.1 23 0 4) 40 ∧ ∀ k_, k_ < (σ.1 18 0 4).toNatClampNeg → vp_in (σ.1 19 0 k_) 30 ∧ vp_in (σ.1 20 0 k_) 30) ∧ vp_in a 20 ∧ vp_in (σ.1 39 a.toNatClampNeg 3) 30 ∧ mo_le (σ.1 3 0 2) 60 ∧ mo_le (σ.1 39 a.toNatClampNeg 2) 30)) ∧ ((mo_le (σ.1 12 0 5) 100) ∧ Q (some (.inl (mo_fo (fun k_ a_ => mo_ite (σ.1 13 0 k_ = b ∧ (σ.1 17 0 k_ ≤ c ∧ mo_bt ((mo_hit σ a c (1 : Int32)).1) (σ.1 14 0 k_)) ∧ (a_ = (-1 : Int32) ∨ σ.1 15 0 k_ < a_)) (σ.1 15 0 k_) a_) (-1 : Int32) (σ.1 12 0 5).toNatClampNeg))) (mo_wI (mo_rowL (mo_rowI (mo_rowL σ 34 0 (mo_layR σ c (1 : Int32))) 29 0 (mo_grp σ c)) 35 0 ((mo_hit σ a c (1 : Int32)).2.2.1)) 33 0 2 (nI (mo_hit σ a c (1 : Int32)).2.2.2))))) ∧ (¬ (0 ≤ c ∧ c ≤ (10000 : Int32)) → Q (some (.inl (-1 : Int32))) (σ)))))))
theorem m_X11_since : ∀ (as : List mo_V) (σ : mo_M) (P P' : mo_Q), (∀ x τ, P x τ → P' x τ) → S_X11_since as σ P → S_X11_since as σ P' := by
  rintro as σ P P' hm ⟨a, b, c, e, hq⟩
  exact ⟨a, b, c, e, ⟨fun c1 => hm _ _ (hq.1 c1), fun c1 => ⟨fun c2 => hm _ _ ((hq.2 c1).1 c2), fun c2 => ⟨fun c3 => ⟨(((hq.2 c1).2 c2).1 c3).1, ⟨(((hq.2 c1).2 c2).1 c3).2.1, hm _ _ (((hq.2 c1).2 c2).1 c3).2.2⟩⟩, fun c3 => hm _ _ (((hq.2 c1).2 c2).2 c3)⟩⟩⟩⟩
def cs_X11_since : Nat → mo_C := fun j => match j with
  | 0 => (2, true, 194, 11, S_X11_isWarning)
  | 1 => (2, false, 101, 50, S_X11_isWithin)
  | 2 => (1, false, 137, 50, S_X11_isDay)
  | 3 => (4, true, 214, 11, S_X11_hitMakes)
  | 4 => (4, true, 222, 1, S_X1_firstDay)
  | _ => (0, false, 0, 50, fun _ _ _ => False)
theorem cs_X11_since_ok (g : mo_E) : ∀ j, mo_cok g t_X11_since (cs_X11_since j) ∧ mo_mon (cs_X11_since j) := by
  intro j
  unfold cs_X11_since
  split
  · exact ⟨mo_cokV ct_X11_isWarning (by decide) ⟨_, _, rfl⟩ (by decide +kernel), m_X11_isWarning⟩
  · exact ⟨mo_cokS ct_X11_isWithin (by decide +kernel), m_X11_isWithin⟩
  · exact ⟨mo_cokS ct_X11_isDay (by decide +kernel), m_X11_isDay⟩
  · exact ⟨mo_cokV ct_X11_hitMakes (by decide) ⟨_, _, rfl⟩ (by decide +kernel), m_X11_hitMakes⟩
  · exact ⟨mo_cokV ct_X1_firstDay (by decide) ⟨_, _, rfl⟩ (by decide +kernel), m_X1_firstDay⟩
  · exact ⟨mo_cok0 g _, mo_mon0⟩
set_option maxRecDepth 20000 in
set_option maxHeartbeats 2000000 in
theorem ct_X11_since : mo_ct yX11_since t_X11_since S_X11_since := by
  refine mo_ct_of (by decide) rfl ?_
  rintro g as σ Q ⟨a, b, c, rfl, hQ⟩
  refine ⟨Nat.le_of_ble_eq_true rfl, mo_go ok_X11_since (cs_X11_since_ok g) [] 25 ?_⟩
  intro K hK
  refine Exists.intro a (And.intro rfl (And.intro trivial ?_))
  refine And.intro (fun (c1 : (mo_bl (0 ≤ a ∧ a < σ.1 0 0 12)) = 0) => ?_) (fun (c1 : ¬ (mo_bl (0 ≤ a ∧ a < σ.1 0 0 12)) = 0) => ?_)
  · replace c1 : ¬ (0 ≤ a ∧ a < σ.1 0 0 12) := mo_bl0.mp c1
    exact (hQ.1 c1)
  · replace c1 : 0 ≤ a ∧ a < σ.1 0 0 12 := mo_blT c1
    refine Exists.intro b (Exists.intro (29 : Int32) (And.intro rfl (And.intro trivial ?_)))
    refine And.intro (fun (c2 : (mo_bl (0 ≤ b ∧ b ≤ (29 : Int32))) = 0) => ?_) (fun (c2 : ¬ (mo_bl (0 ≤ b ∧ b ≤ (29 : Int32))) = 0) => ?_)
    · replace c2 : ¬ (0 ≤ b ∧ b ≤ (29 : Int32)) := mo_bl0.mp c2
      exact ((hQ.2 c1).1 c2)
    · replace c2 : 0 ≤ b ∧ b ≤ (29 : Int32) := mo_blT c2
      refine Exists.intro c (And.intro rfl (And.intro trivial ?_))
      refine And.intro (fun (c3 : ¬ (mo_bl (0 ≤ c ∧ c ≤ (10000 : Int32))) = 0) => ?_) (fun (c3 : (mo_bl (0 ≤ c ∧ c ≤ (10000 : Int32))) = 0) => ?_)
      · replace c3 : 0 ≤ c ∧ c ≤ (10000 : Int32) := mo_blT c3
        refine Exists.intro a (Exists.intro c (Exists.intro (1 : Int32) (And.intro rfl (And.intro (show (mo_le (σ.1 6 0 5) 200 ∧ ∀ k_, k_ < (σ.1 6 0 5).toNatClampNeg → vp_in (σ.1 7 0 k_) 60) ∧ ((mo_le (σ.1 18 0 4) 40 ∧ mo_le (σ.1 23 0 4) 40 ∧ ∀ k_, k_ < (σ.1 18 0 4).toNatClampNeg → vp_in (σ.1 19 0 k_) 30 ∧ vp_in (σ.1 20 0 k_) 30) ∧ vp_in a 20 ∧ vp_in (σ.1 39 a.toNatClampNeg 3) 30 ∧ mo_le (σ.1 3 0 2) 60 ∧ mo_le (σ.1 39 a.toNatClampNeg 2) 30) from (((hQ.2 c1).2 c2).1 c3).1) ?_))))
        refine Exists.intro b (Exists.intro ((mo_hit σ a c (1 : Int32)).1) (Exists.intro c (And.intro rfl (And.intro (show mo_le (σ.1 12 0 5) 100 from (((hQ.2 c1).2 c2).1 c3).2.1) ?_))))
        exact (((hQ.2 c1).2 c2).1 c3).2.2
      · replace c3 : ¬ (0 ≤ c ∧ c ≤ (10000 : Int32)) := mo_bl0.mp c3
        exact (((hQ.2 c1).2 c2).2 c3)
def S_X11_ring : mo_S := fun as σ Q => ∃ a : Int32, ∃ b : Int32, as = [.inr (.inr (0, 0)), .inl a, .inl b] ∧ ((¬ (0 ≤ a ∧ a < σ.1 3 0 2) → Q (some (.inl (-1 : Int32))) (σ)) ∧ (0 ≤ a ∧ a < σ.1 3 0 2 → ((0 ≤ b ∧ b ≤ (10000 : Int32) → ((mo_le (σ.1 6 0 5) 200 ∧ ∀ k_, k_ < (σ.1 6 0 5).toNatClampNeg → vp_in (σ.1 7 0 k_) 60) ∧ (vp_in a 60 ∧ (((lg_cmp (((mo_layR σ b (1 : Int32)) a.toNatClampNeg) &&& ((mo_spr (mo_rowL σ 34 0 (mo_layR σ b (1 : Int32))) ((1 : Int64) <<< (a.toInt64 &&& 63)) 60).1)) (0 : Int64)) = 0 → Q (some (.inl (0 : Int32))) (mo_wI (mo_rowL (mo_rowL σ 34 0 (mo_layR σ b (1 : Int32))) 35 0 ((mo_spr (mo_rowL σ 34 0 (mo_layR σ b (1 : Int32))) ((1 : Int64) <<< (a.toInt64 &&& 63)) 60).2.2.1)) 33 0 2 (nI (mo_spr (mo_rowL σ 34 0 (mo_layR σ b (1 : Int32))) ((1 : Int64) <<< (a.toInt64 &&& 63)) 60).2.2.2))) ∧ (¬ (lg_cmp (((mo_layR σ b (1 : Int32)) a.toNatClampNeg) &&& ((mo_spr (mo_rowL σ 34 0 (mo_layR σ b (1 : Int32))) ((1 : Int64) <<< (a.toInt64 &&& 63)) 60).1)) (0 : Int64)) = 0 → Q (some (.inl (1 : Int32))) (mo_wI (mo_rowL (mo_rowL σ 34 0 (mo_layR σ b (1 : Int32))) 35 0 ((mo_spr (mo_rowL σ 34 0 (mo_layR σ b (1 : Int32))) ((1 : Int64) <<< (a.toInt64 &&& 63)) 60).2.2.1)) 33 0 2 (nI (mo_spr (mo_rowL σ 34 0 (mo_layR σ b (1 : Int32))) ((1 : Int64) <<< (a.toInt64 &&& 63)) 60).2.2.2))))))) ∧ (¬ (0 ≤ b ∧ b ≤ (10000 : Int32)) → Q (some (.inl (-1 : Int32))) (σ)))))
theorem m_X11_ring : ∀ (as : List mo_V) (σ : mo_M) (P P' : mo_Q), (∀ x τ, P x τ → P' x τ) → S_X11_ring as σ P → S_X11_ring as σ P' := by
  rintro as σ P P' hm ⟨a, b, e, hq⟩
  exact ⟨a, b, e, ⟨fun c1 => hm _ _ (hq.1 c1), fun c1 => ⟨fun c2 => ⟨((hq.2 c1).1 c2).1, ⟨((hq.2 c1).1 c2).2.1, ⟨fun c3 => hm _ _ (((hq.2 c1).1 c2).2.2.1 c3), fun c3 => hm _ _ (((hq.2 c1).1 c2).2.2.2 c3)⟩⟩⟩, fun c2 => hm _ _ ((hq.2 c1).2 c2)⟩⟩⟩
def cs_X11_ring : Nat → mo_C := fun j => match j with
  | 0 => (2, true, 140, 11, S_X11_isMake)
  | 1 => (1, false, 137, 50, S_X11_isDay)
  | 2 => (4, true, 234, 10, S_X10_lay)
  | 3 => (2, true, 238, 10, S_X10_spread)
  | _ => (0, false, 0, 50, fun _ _ _ => False)
theorem cs_X11_ring_ok (g : mo_E) : ∀ j, mo_cok g t_X11_ring (cs_X11_ring j) ∧ mo_mon (cs_X11_ring j) := by
  intro j
  unfold cs_X11_ring
  split
  · exact ⟨mo_cokV ct_X11_isMake (by decide) ⟨_, _, rfl⟩ (by decide +kernel), m_X11_isMake⟩
  · exact ⟨mo_cokS ct_X11_isDay (by decide +kernel), m_X11_isDay⟩
  · exact ⟨mo_cokV ct_X10_lay (by decide) ⟨_, _, rfl⟩ (by decide +kernel), m_X10_lay⟩
  · exact ⟨mo_cokV ct_X10_spread (by decide) ⟨_, _, rfl⟩ (by decide +kernel), m_X10_spread⟩
  · exact ⟨mo_cok0 g _, mo_mon0⟩
set_option maxRecDepth 20000 in
set_option maxHeartbeats 2000000 in
theorem ct_X11_ring : mo_ct yX11_ring t_X11_ring S_X11_ring := by
  refine mo_ct_of (by decide) rfl ?_
  rintro g as σ Q ⟨a, b, rfl, hQ⟩
  refine ⟨Nat.le_of_ble_eq_true rfl, mo_go ok_X11_ring (cs_X11_ring_ok g) [] 38 ?_⟩
  intro K hK
  refine Exists.intro a (And.intro rfl (And.intro trivial ?_))
  refine And.intro (fun (c1 : (mo_bl (0 ≤ a ∧ a < σ.1 3 0 2)) = 0) => ?_) (fun (c1 : ¬ (mo_bl (0 ≤ a ∧ a < σ.1 3 0 2)) = 0) => ?_)
  · replace c1 : ¬ (0 ≤ a ∧ a < σ.1 3 0 2) := mo_bl0.mp c1
    exact (hQ.1 c1)
  · replace c1 : 0 ≤ a ∧ a < σ.1 3 0 2 := mo_blT c1
    refine Exists.intro b (And.intro rfl (And.intro trivial ?_))
    refine And.intro (fun (c2 : ¬ (mo_bl (0 ≤ b ∧ b ≤ (10000 : Int32))) = 0) => ?_) (fun (c2 : (mo_bl (0 ≤ b ∧ b ≤ (10000 : Int32))) = 0) => ?_)
    · replace c2 : 0 ≤ b ∧ b ≤ (10000 : Int32) := mo_blT c2
      refine Exists.intro b (Exists.intro (1 : Int32) (And.intro rfl (And.intro (show mo_le (σ.1 6 0 5) 200 ∧ ∀ k_, k_ < (σ.1 6 0 5).toNatClampNeg → vp_in (σ.1 7 0 k_) 60 from ((hQ.2 c1).1 c2).1) ?_)))
      refine Exists.intro ((1 : Int64) <<< (a.toInt64 &&& 63)) (And.intro rfl (And.intro trivial ?_))
      refine And.intro (show vp_in a 60 from ((hQ.2 c1).1 c2).2.1) ?_
      refine And.intro (fun (c3 : (lg_cmp (((mo_layR σ b (1 : Int32)) a.toNatClampNeg) &&& ((mo_spr (mo_rowL σ 34 0 (mo_layR σ b (1 : Int32))) ((1 : Int64) <<< (a.toInt64 &&& 63)) 60).1)) (0 : Int64)) = 0) => ?_) (fun (c3 : ¬ (lg_cmp (((mo_layR σ b (1 : Int32)) a.toNatClampNeg) &&& ((mo_spr (mo_rowL σ 34 0 (mo_layR σ b (1 : Int32))) ((1 : Int64) <<< (a.toInt64 &&& 63)) 60).1)) (0 : Int64)) = 0) => ?_)
      · exact (((hQ.2 c1).1 c2).2.2.1 c3)
      · exact (((hQ.2 c1).1 c2).2.2.2 c3)
    · replace c2 : ¬ (0 ≤ b ∧ b ≤ (10000 : Int32)) := mo_bl0.mp c2
      exact ((hQ.2 c1).2 c2)
def S_X11_recall : mo_S := fun as σ Q => ∃ a : Int32, ∃ b : Int32, ∃ c : Int32, as = [.inr (.inr (0, 0)), .inl a, .inl b, .inl c] ∧ ((¬ (0 ≤ b ∧ b ≤ (10000 : Int32)) → Q (some (.inl (-1 : Int32))) (mo_wI σ 0 0 14 (-1 : Int32))) ∧ (0 ≤ b ∧ b ≤ (10000 : Int32) → ((0 ≤ c ∧ c ≤ (10000 : Int32) → ((0 ≤ a ∧ a < σ.1 0 0 12 → (((mo_le (σ.1 6 0 5) 200 ∧ ∀ k_, k_ < (σ.1 6 0 5).toNatClampNeg → vp_in (σ.1 7 0 k_) 60) ∧ ((mo_le (σ.1 18 0 4) 40 ∧ mo_le (σ.1 23 0 4) 40 ∧ ∀ k_, k_ < (σ.1 18 0 4).toNatClampNeg → vp_in (σ.1 19 0 k_) 30 ∧ vp_in (σ.1 20 0 k_) 30) ∧ vp_in a 20 ∧ vp_in (σ.1 39 a.toNatClampNeg 3) 30 ∧ mo_le (σ.1 3 0 2) 60 ∧ mo_le (σ.1 39 a.toNatClampNeg 2) 30)) ∧ ((mo_le (σ.1 12 0 5) 100) ∧ (vp_in a 20 ∧ (a.toNatClampNeg < 20 ∧ (vp_in a 20 ∧ (a.toNatClampNeg < 20 ∧ (a.toNatClampNeg < 20 ∧ Q (some (.inl ((mo_pc ((mo_fo (fun k_ a_ => mo_ite ((σ.1 17 0 k_ ≤ c ∧ mo_bt ((mo_hit σ a c (1 : Int32)).1) (σ.1 14 0 k_)) ∧ σ.1 15 0 k_ ≤ b ∧ b ≤ σ.1 16 0 k_) (a_ ||| (1 : Int32) <<< (σ.1 13 0 k_ &&& 31)) a_) 0 (σ.1 12 0 5).toNatClampNeg) &&& ((σ.1 39 a.toNatClampNeg 4) ^^^ (-1 : Int32))))))) (mo_wI (mo_wI (mo_wI (mo_rowL (mo_rowI (mo_rowL σ 34 0 (mo_layR σ c (1 : Int32))) 29 0 (mo_grp σ c)) 35 0 ((mo_hit σ a c (1 : Int32)).2.2.1)) 33 0 2 (nI (mo_hit σ a c (1 : Int32)).2.2.2)) 39 a.toNatClampNeg 4 ((σ.1 39 a.toNatClampNeg 4) ||| ((mo_fo (fun k_ a_ => mo_ite ((σ.1 17 0 k_ ≤ c ∧ mo_bt ((mo_hit σ a c (1 : Int32)).1) (σ.1 14 0 k_)) ∧ σ.1 15 0 k_ ≤ b ∧ b ≤ σ.1 16 0 k_) (a_ ||| (1 : Int32) <<< (σ.1 13 0 k_ &&& 31)) a_) 0 (σ.1 12 0 5).toNatClampNeg) &&& ((σ.1 39 a.toNatClampNeg 4) ^^^ (-1 : Int32))))) 0 0 14 0))))))))) ∧ (¬ (0 ≤ a ∧ a < σ.1 0 0 12) → Q (some (.inl (-2 : Int32))) (mo_wI σ 0 0 14 (-2 : Int32))))) ∧ (¬ (0 ≤ c ∧ c ≤ (10000 : Int32)) → Q (some (.inl (-1 : Int32))) (mo_wI σ 0 0 14 (-1 : Int32))))))
theorem m_X11_recall : ∀ (as : List mo_V) (σ : mo_M) (P P' : mo_Q), (∀ x τ, P x τ → P' x τ) → S_X11_recall as σ P → S_X11_recall as σ P' := by
  rintro as σ P P' hm ⟨a, b, c, e, hq⟩
  exact ⟨a, b, c, e, ⟨fun c1 => hm _ _ (hq.1 c1), fun c1 => ⟨fun c2 => ⟨fun c3 => ⟨(((hq.2 c1).1 c2).1 c3).1, ⟨(((hq.2 c1).1 c2).1 c3).2.1, ⟨(((hq.2 c1).1 c2).1 c3).2.2.1, ⟨(((hq.2 c1).1 c2).1 c3).2.2.2.1, ⟨(((hq.2 c1).1 c2).1 c3).2.2.2.2.1, ⟨(((hq.2 c1).1 c2).1 c3).2.2.2.2.2.1, ⟨(((hq.2 c1).1 c2).1 c3).2.2.2.2.2.2.1, hm _ _ (((hq.2 c1).1 c2).1 c3).2.2.2.2.2.2.2⟩⟩⟩⟩⟩⟩⟩, fun c3 => hm _ _ (((hq.2 c1).1 c2).2 c3)⟩, fun c2 => hm _ _ ((hq.2 c1).2 c2)⟩⟩⟩
def cs_X11_recall : Nat → mo_C := fun j => match j with
  | 0 => (1, false, 137, 50, S_X11_isDay)
  | 1 => (2, true, 105, 11, S_X11_refuse)
  | 2 => (2, true, 194, 11, S_X11_isWarning)
  | 3 => (4, true, 214, 11, S_X11_hitMakes)
  | 4 => (4, true, 218, 1, S_X1_sitesWith)
  | 5 => (1, false, 229, 50, S_J6_bitCount_0f7a4)
  | 6 => (2, true, 115, 11, S_X11_accept)
  | _ => (0, false, 0, 50, fun _ _ _ => False)
theorem cs_X11_recall_ok (g : mo_E) : ∀ j, mo_cok g t_X11_recall (cs_X11_recall j) ∧ mo_mon (cs_X11_recall j) := by
  intro j
  unfold cs_X11_recall
  split
  · exact ⟨mo_cokS ct_X11_isDay (by decide +kernel), m_X11_isDay⟩
  · exact ⟨mo_cokV ct_X11_refuse (by decide) ⟨_, _, rfl⟩ (by decide +kernel), m_X11_refuse⟩
  · exact ⟨mo_cokV ct_X11_isWarning (by decide) ⟨_, _, rfl⟩ (by decide +kernel), m_X11_isWarning⟩
  · exact ⟨mo_cokV ct_X11_hitMakes (by decide) ⟨_, _, rfl⟩ (by decide +kernel), m_X11_hitMakes⟩
  · exact ⟨mo_cokV ct_X1_sitesWith (by decide) ⟨_, _, rfl⟩ (by decide +kernel), m_X1_sitesWith⟩
  · exact ⟨mo_cokS ct_J6_bitCount_0f7a4 (by decide +kernel), m_J6_bitCount_0f7a4⟩
  · exact ⟨mo_cokV ct_X11_accept (by decide) ⟨_, _, rfl⟩ (by decide +kernel), m_X11_accept⟩
  · exact ⟨mo_cok0 g _, mo_mon0⟩
set_option maxRecDepth 20000 in
set_option maxHeartbeats 2000000 in
theorem ct_X11_recall : mo_ct yX11_recall t_X11_recall S_X11_recall := by
  refine mo_ct_of (by decide) rfl ?_
  rintro g as σ Q ⟨a, b, c, rfl, hQ⟩
  refine ⟨Nat.le_of_ble_eq_true rfl, mo_go ok_X11_recall (cs_X11_recall_ok g) [] 54 ?_⟩
  intro K hK
  refine Exists.intro b (And.intro rfl (And.intro trivial ?_))
  refine And.intro (fun (c1 : (mo_bl (0 ≤ b ∧ b ≤ (10000 : Int32))) = 0) => ?_) (fun (c1 : ¬ (mo_bl (0 ≤ b ∧ b ≤ (10000 : Int32))) = 0) => ?_)
  · replace c1 : ¬ (0 ≤ b ∧ b ≤ (10000 : Int32)) := mo_bl0.mp c1
    refine Exists.intro (-1 : Int32) (And.intro rfl (And.intro trivial ?_))
    exact (hQ.1 c1)
  · replace c1 : 0 ≤ b ∧ b ≤ (10000 : Int32) := mo_blT c1
    refine Exists.intro c (And.intro rfl (And.intro trivial ?_))
    refine And.intro (fun (c2 : ¬ (mo_bl (0 ≤ c ∧ c ≤ (10000 : Int32))) = 0) => ?_) (fun (c2 : (mo_bl (0 ≤ c ∧ c ≤ (10000 : Int32))) = 0) => ?_)
    · replace c2 : 0 ≤ c ∧ c ≤ (10000 : Int32) := mo_blT c2
      refine Exists.intro a (And.intro rfl (And.intro trivial ?_))
      refine And.intro (fun (c3 : ¬ (mo_bl (0 ≤ a ∧ a < σ.1 0 0 12)) = 0) => ?_) (fun (c3 : (mo_bl (0 ≤ a ∧ a < σ.1 0 0 12)) = 0) => ?_)
      · replace c3 : 0 ≤ a ∧ a < σ.1 0 0 12 := mo_blT c3
        refine Exists.intro a (Exists.intro c (Exists.intro (1 : Int32) (And.intro rfl (And.intro (show (mo_le (σ.1 6 0 5) 200 ∧ ∀ k_, k_ < (σ.1 6 0 5).toNatClampNeg → vp_in (σ.1 7 0 k_) 60) ∧ ((mo_le (σ.1 18 0 4) 40 ∧ mo_le (σ.1 23 0 4) 40 ∧ ∀ k_, k_ < (σ.1 18 0 4).toNatClampNeg → vp_in (σ.1 19 0 k_) 30 ∧ vp_in (σ.1 20 0 k_) 30) ∧ vp_in a 20 ∧ vp_in (σ.1 39 a.toNatClampNeg 3) 30 ∧ mo_le (σ.1 3 0 2) 60 ∧ mo_le (σ.1 39 a.toNatClampNeg 2) 30) from (((hQ.2 c1).1 c2).1 c3).1) ?_))))
        refine Exists.intro ((mo_hit σ a c (1 : Int32)).1) (Exists.intro b (Exists.intro c (And.intro rfl (And.intro (show mo_le (σ.1 12 0 5) 100 from (((hQ.2 c1).1 c2).1 c3).2.1) ?_))))
        refine And.intro (show vp_in a 20 from (((hQ.2 c1).1 c2).1 c3).2.2.1) ?_
        refine And.intro (show a.toNatClampNeg < 20 from (((hQ.2 c1).1 c2).1 c3).2.2.2.1) ?_
        refine And.intro (show vp_in a 20 from (((hQ.2 c1).1 c2).1 c3).2.2.2.2.1) ?_
        refine And.intro (show a.toNatClampNeg < 20 from (((hQ.2 c1).1 c2).1 c3).2.2.2.2.2.1) ?_
        refine And.intro (show a.toNatClampNeg < 20 from (((hQ.2 c1).1 c2).1 c3).2.2.2.2.2.2.1) ?_
        refine Exists.intro ((mo_fo (fun k_ a_ => mo_ite ((σ.1 17 0 k_ ≤ c ∧ mo_bt ((mo_hit σ a c (1 : Int32)).1) (σ.1 14 0 k_)) ∧ σ.1 15 0 k_ ≤ b ∧ b ≤ σ.1 16 0 k_) (a_ ||| (1 : Int32) <<< (σ.1 13 0 k_ &&& 31)) a_) 0 (σ.1 12 0 5).toNatClampNeg) &&& ((σ.1 39 a.toNatClampNeg 4) ^^^ (-1 : Int32))) (And.intro rfl (And.intro trivial ?_))
        refine Exists.intro (mo_pc ((mo_fo (fun k_ a_ => mo_ite ((σ.1 17 0 k_ ≤ c ∧ mo_bt ((mo_hit σ a c (1 : Int32)).1) (σ.1 14 0 k_)) ∧ σ.1 15 0 k_ ≤ b ∧ b ≤ σ.1 16 0 k_) (a_ ||| (1 : Int32) <<< (σ.1 13 0 k_ &&& 31)) a_) 0 (σ.1 12 0 5).toNatClampNeg) &&& ((σ.1 39 a.toNatClampNeg 4) ^^^ (-1 : Int32)))) (And.intro rfl (And.intro trivial ?_))
        exact (((hQ.2 c1).1 c2).1 c3).2.2.2.2.2.2.2
      · replace c3 : ¬ (0 ≤ a ∧ a < σ.1 0 0 12) := mo_bl0.mp c3
        refine Exists.intro (-2 : Int32) (And.intro rfl (And.intro trivial ?_))
        exact (((hQ.2 c1).1 c2).2 c3)
    · replace c2 : ¬ (0 ≤ c ∧ c ≤ (10000 : Int32)) := mo_bl0.mp c2
      refine Exists.intro (-1 : Int32) (And.intro rfl (And.intro trivial ?_))
      exact ((hQ.2 c1).2 c2)
def S_X11_told : mo_S := fun as σ Q => ∃ a : Int32, as = [.inr (.inr (0, 0)), .inl a] ∧ ((¬ (0 ≤ a ∧ a < σ.1 0 0 12) → Q (some (.inl (0 : Int32))) (σ)) ∧ (0 ≤ a ∧ a < σ.1 0 0 12 → (vp_in a 20 ∧ (a.toNatClampNeg < 20 ∧ Q (some (.inl (σ.1 39 a.toNatClampNeg 4))) (σ)))))
theorem m_X11_told : ∀ (as : List mo_V) (σ : mo_M) (P P' : mo_Q), (∀ x τ, P x τ → P' x τ) → S_X11_told as σ P → S_X11_told as σ P' := by
  rintro as σ P P' hm ⟨a, e, hq⟩
  exact ⟨a, e, ⟨fun c1 => hm _ _ (hq.1 c1), fun c1 => ⟨(hq.2 c1).1, ⟨(hq.2 c1).2.1, hm _ _ (hq.2 c1).2.2⟩⟩⟩⟩
def cs_X11_told : Nat → mo_C := fun j => match j with
  | 0 => (2, true, 194, 11, S_X11_isWarning)
  | _ => (0, false, 0, 50, fun _ _ _ => False)
theorem cs_X11_told_ok (g : mo_E) : ∀ j, mo_cok g t_X11_told (cs_X11_told j) ∧ mo_mon (cs_X11_told j) := by
  intro j
  unfold cs_X11_told
  split
  · exact ⟨mo_cokV ct_X11_isWarning (by decide) ⟨_, _, rfl⟩ (by decide +kernel), m_X11_isWarning⟩
  · exact ⟨mo_cok0 g _, mo_mon0⟩
set_option maxRecDepth 20000 in
set_option maxHeartbeats 2000000 in
theorem ct_X11_told : mo_ct yX11_told t_X11_told S_X11_told := by
  refine mo_ct_of (by decide) rfl ?_
  rintro g as σ Q ⟨a, rfl, hQ⟩
  refine ⟨Nat.le_of_ble_eq_true rfl, mo_go ok_X11_told (cs_X11_told_ok g) [] 13 ?_⟩
  intro K hK
  refine Exists.intro a (And.intro rfl (And.intro trivial ?_))
  refine And.intro (fun (c1 : (mo_bl (0 ≤ a ∧ a < σ.1 0 0 12)) = 0) => ?_) (fun (c1 : ¬ (mo_bl (0 ≤ a ∧ a < σ.1 0 0 12)) = 0) => ?_)
  · replace c1 : ¬ (0 ≤ a ∧ a < σ.1 0 0 12) := mo_bl0.mp c1
    exact (hQ.1 c1)
  · replace c1 : 0 ≤ a ∧ a < σ.1 0 0 12 := mo_blT c1
    refine And.intro (show vp_in a 20 from (hQ.2 c1).1) ?_
    refine And.intro (show a.toNatClampNeg < 20 from (hQ.2 c1).2.1) ?_
    exact (hQ.2 c1).2.2
def S_X11_group : mo_S := fun as σ Q => ∃ a : Int32, ∃ b : Int32, as = [.inr (.inr (0, 0)), .inl a, .inl b] ∧ ((¬ (0 ≤ a ∧ a < σ.1 1 0 1) → Q (some (.inl (-1 : Int32))) (σ)) ∧ (0 ≤ a ∧ a < σ.1 1 0 1 → ((0 ≤ b ∧ b ≤ (10000 : Int32) → ((mo_le (σ.1 18 0 4) 40 ∧ mo_le (σ.1 23 0 4) 40 ∧ ∀ k_, k_ < (σ.1 18 0 4).toNatClampNeg → vp_in (σ.1 19 0 k_) 30 ∧ vp_in (σ.1 20 0 k_) 30) ∧ (vp_in a 30 ∧ Q (some (.inl (mo_fsI (fun k_ => mo_bt ((((mo_set1 σ b (σ.1 18 0 4).toNatClampNeg).1) a.toNatClampNeg).toInt64) (nI k_)) 64))) (mo_rowI σ 29 0 ((mo_set1 σ b (σ.1 18 0 4).toNatClampNeg).1))))) ∧ (¬ (0 ≤ b ∧ b ≤ (10000 : Int32)) → Q (some (.inl (-1 : Int32))) (σ)))))
theorem m_X11_group : ∀ (as : List mo_V) (σ : mo_M) (P P' : mo_Q), (∀ x τ, P x τ → P' x τ) → S_X11_group as σ P → S_X11_group as σ P' := by
  rintro as σ P P' hm ⟨a, b, e, hq⟩
  exact ⟨a, b, e, ⟨fun c1 => hm _ _ (hq.1 c1), fun c1 => ⟨fun c2 => ⟨((hq.2 c1).1 c2).1, ⟨((hq.2 c1).1 c2).2.1, hm _ _ ((hq.2 c1).1 c2).2.2⟩⟩, fun c2 => hm _ _ ((hq.2 c1).2 c2)⟩⟩⟩
def cs_X11_group : Nat → mo_C := fun j => match j with
  | 0 => (2, true, 122, 11, S_X11_isPart)
  | 1 => (1, false, 137, 50, S_X11_isDay)
  | 2 => (4, true, 175, 0, S_X0_settle)
  | 3 => (1, false, 182, 50, S_X11_lowest)
  | _ => (0, false, 0, 50, fun _ _ _ => False)
theorem cs_X11_group_ok (g : mo_E) : ∀ j, mo_cok g t_X11_group (cs_X11_group j) ∧ mo_mon (cs_X11_group j) := by
  intro j
  unfold cs_X11_group
  split
  · exact ⟨mo_cokV ct_X11_isPart (by decide) ⟨_, _, rfl⟩ (by decide +kernel), m_X11_isPart⟩
  · exact ⟨mo_cokS ct_X11_isDay (by decide +kernel), m_X11_isDay⟩
  · exact ⟨mo_cokV ct_X0_settle (by decide) ⟨_, _, rfl⟩ (by decide +kernel), m_X0_settle⟩
  · exact ⟨mo_cokS ct_X11_lowest (by decide +kernel), m_X11_lowest⟩
  · exact ⟨mo_cok0 g _, mo_mon0⟩
set_option maxRecDepth 20000 in
set_option maxHeartbeats 2000000 in
theorem ct_X11_group : mo_ct yX11_group t_X11_group S_X11_group := by
  refine mo_ct_of (by decide) rfl ?_
  rintro g as σ Q ⟨a, b, rfl, hQ⟩
  refine ⟨Nat.le_of_ble_eq_true rfl, mo_go ok_X11_group (cs_X11_group_ok g) [] 27 ?_⟩
  intro K hK
  refine Exists.intro a (And.intro rfl (And.intro trivial ?_))
  refine And.intro (fun (c1 : (mo_bl (0 ≤ a ∧ a < σ.1 1 0 1)) = 0) => ?_) (fun (c1 : ¬ (mo_bl (0 ≤ a ∧ a < σ.1 1 0 1)) = 0) => ?_)
  · replace c1 : ¬ (0 ≤ a ∧ a < σ.1 1 0 1) := mo_bl0.mp c1
    exact (hQ.1 c1)
  · replace c1 : 0 ≤ a ∧ a < σ.1 1 0 1 := mo_blT c1
    refine Exists.intro b (And.intro rfl (And.intro trivial ?_))
    refine And.intro (fun (c2 : ¬ (mo_bl (0 ≤ b ∧ b ≤ (10000 : Int32))) = 0) => ?_) (fun (c2 : (mo_bl (0 ≤ b ∧ b ≤ (10000 : Int32))) = 0) => ?_)
    · replace c2 : 0 ≤ b ∧ b ≤ (10000 : Int32) := mo_blT c2
      refine Exists.intro b (And.intro rfl (And.intro (show mo_le (σ.1 18 0 4) 40 ∧ mo_le (σ.1 23 0 4) 40 ∧ ∀ k_, k_ < (σ.1 18 0 4).toNatClampNeg → vp_in (σ.1 19 0 k_) 30 ∧ vp_in (σ.1 20 0 k_) 30 from ((hQ.2 c1).1 c2).1) ?_))
      refine And.intro (show vp_in a 30 from ((hQ.2 c1).1 c2).2.1) ?_
      refine Exists.intro ((((mo_set1 σ b (σ.1 18 0 4).toNatClampNeg).1) a.toNatClampNeg).toInt64) (And.intro rfl (And.intro trivial ?_))
      exact ((hQ.2 c1).1 c2).2.2
    · replace c2 : ¬ (0 ≤ b ∧ b ≤ (10000 : Int32)) := mo_bl0.mp c2
      exact ((hQ.2 c1).2 c2)
def S_X11_quarrels : mo_S := fun as σ Q => ∃ a : Int32, as = [.inr (.inr (0, 0)), .inl a] ∧ ((¬ (0 ≤ a ∧ a ≤ (10000 : Int32)) → Q (some (.inl (-1 : Int32))) (σ)) ∧ (0 ≤ a ∧ a ≤ (10000 : Int32) → ((mo_le (σ.1 18 0 4) 40 ∧ mo_le (σ.1 23 0 4) 40 ∧ ∀ k_, k_ < (σ.1 18 0 4).toNatClampNeg → vp_in (σ.1 19 0 k_) 30 ∧ vp_in (σ.1 20 0 k_) 30) ∧ Q (some (.inl ((mo_set1 σ a (σ.1 18 0 4).toNatClampNeg).2))) (mo_rowI σ 29 0 ((mo_set1 σ a (σ.1 18 0 4).toNatClampNeg).1)))))
theorem m_X11_quarrels : ∀ (as : List mo_V) (σ : mo_M) (P P' : mo_Q), (∀ x τ, P x τ → P' x τ) → S_X11_quarrels as σ P → S_X11_quarrels as σ P' := by
  rintro as σ P P' hm ⟨a, e, hq⟩
  exact ⟨a, e, ⟨fun c1 => hm _ _ (hq.1 c1), fun c1 => ⟨(hq.2 c1).1, hm _ _ (hq.2 c1).2⟩⟩⟩
def cs_X11_quarrels : Nat → mo_C := fun j => match j with
  | 0 => (1, false, 137, 50, S_X11_isDay)
  | 1 => (4, true, 175, 0, S_X0_settle)
  | _ => (0, false, 0, 50, fun _ _ _ => False)
theorem cs_X11_quarrels_ok (g : mo_E) : ∀ j, mo_cok g t_X11_quarrels (cs_X11_quarrels j) ∧ mo_mon (cs_X11_quarrels j) := by
  intro j
  unfold cs_X11_quarrels
  split
  · exact ⟨mo_cokS ct_X11_isDay (by decide +kernel), m_X11_isDay⟩
  · exact ⟨mo_cokV ct_X0_settle (by decide) ⟨_, _, rfl⟩ (by decide +kernel), m_X0_settle⟩
  · exact ⟨mo_cok0 g _, mo_mon0⟩
set_option maxRecDepth 20000 in
set_option maxHeartbeats 2000000 in
theorem ct_X11_quarrels : mo_ct yX11_quarrels t_X11_quarrels S_X11_quarrels := by
  refine mo_ct_of (by decide) rfl ?_
  rintro g as σ Q ⟨a, rfl, hQ⟩
  refine ⟨Nat.le_of_ble_eq_true rfl, mo_go ok_X11_quarrels (cs_X11_quarrels_ok g) [] 15 ?_⟩
  intro K hK
  refine Exists.intro a (And.intro rfl (And.intro trivial ?_))
  refine And.intro (fun (c1 : (mo_bl (0 ≤ a ∧ a ≤ (10000 : Int32))) = 0) => ?_) (fun (c1 : ¬ (mo_bl (0 ≤ a ∧ a ≤ (10000 : Int32))) = 0) => ?_)
  · replace c1 : ¬ (0 ≤ a ∧ a ≤ (10000 : Int32)) := mo_bl0.mp c1
    exact (hQ.1 c1)
  · replace c1 : 0 ≤ a ∧ a ≤ (10000 : Int32) := mo_blT c1
    refine Exists.intro a (And.intro rfl (And.intro (show mo_le (σ.1 18 0 4) 40 ∧ mo_le (σ.1 23 0 4) 40 ∧ ∀ k_, k_ < (σ.1 18 0 4).toNatClampNeg → vp_in (σ.1 19 0 k_) 30 ∧ vp_in (σ.1 20 0 k_) 30 from (hQ.2 c1).1) ?_))
    exact (hQ.2 c1).2
def S_X11_gaps : mo_S := fun as σ Q => ∃ a : Int32, ∃ b : Int32, ∃ c : Int32, as = [.inr (.inr (0, 0)), .inl a, .inl b, .inl c] ∧ ((¬ (0 ≤ a ∧ a < σ.1 3 0 2) → Q (some (.inl (-1 : Int32))) (σ)) ∧ (0 ≤ a ∧ a < σ.1 3 0 2 → ((¬ (0 ≤ b ∧ b ≤ (10000 : Int32)) → Q (some (.inl (-1 : Int32))) (σ)) ∧ (0 ≤ b ∧ b ≤ (10000 : Int32) → ((0 ≤ c ∧ c ≤ (1 : Int32) → ((mo_le (σ.1 18 0 4) 40 ∧ mo_le (σ.1 23 0 4) 40 ∧ ∀ k_, k_ < (σ.1 18 0 4).toNatClampNeg → vp_in (σ.1 19 0 k_) 30 ∧ vp_in (σ.1 20 0 k_) 30) ∧ ((mo_le (σ.1 6 0 5) 200 ∧ ∀ k_, k_ < (σ.1 6 0 5).toNatClampNeg → vp_in (σ.1 8 0 k_) 60 ∧ vp_in (σ.1 4 0 (σ.1 8 0 k_).toNatClampNeg) 30) ∧ ((mo_le (σ.1 6 0 5) 200 ∧ ∀ k_, k_ < (σ.1 6 0 5).toNatClampNeg → vp_in (σ.1 8 0 k_) 60 ∧ vp_in (σ.1 4 0 (σ.1 8 0 k_).toNatClampNeg) 30) ∧ ((¬ c = 0 → Q (some (.inl (mo_pc ((mo_fo (fun k_ s_ => mo_ite (σ.1 7 0 k_ = a ∧ σ.1 9 0 k_ = (0 : Int32) ∧ (σ.1 10 0 k_ ≤ b ∧ b < σ.1 11 0 k_)) (s_ ||| ((mo_rowI σ 29 0 ((mo_set1 σ b (σ.1 18 0 4).toNatClampNeg).1)).1 29 0 (σ.1 4 0 (σ.1 8 0 k_).toNatClampNeg).toNatClampNeg &&& -((mo_rowI σ 29 0 ((mo_set1 σ b (σ.1 18 0 4).toNatClampNeg).1)).1 29 0 (σ.1 4 0 (σ.1 8 0 k_).toNatClampNeg).toNatClampNeg))) s_) 0 (σ.1 6 0 5).toNatClampNeg) &&& ((mo_fo (fun k_ s_ => mo_ite (σ.1 7 0 k_ = a ∧ σ.1 9 0 k_ = (1 : Int32) ∧ (σ.1 10 0 k_ ≤ b ∧ b < σ.1 11 0 k_)) (s_ ||| ((mo_rowI σ 29 0 ((mo_set1 σ b (σ.1 18 0 4).toNatClampNeg).1)).1 29 0 (σ.1 4 0 (σ.1 8 0 k_).toNatClampNeg).toNatClampNeg &&& -((mo_rowI σ 29 0 ((mo_set1 σ b (σ.1 18 0 4).toNatClampNeg).1)).1 29 0 (σ.1 4 0 (σ.1 8 0 k_).toNatClampNeg).toNatClampNeg))) s_) 0 (σ.1 6 0 5).toNatClampNeg) ^^^ (-1 : Int32)))))) (mo_rowI σ 29 0 ((mo_set1 σ b (σ.1 18 0 4).toNatClampNeg).1))) ∧ (c = 0 → Q (some (.inl (mo_pc ((mo_fo (fun k_ s_ => mo_ite (σ.1 7 0 k_ = a ∧ σ.1 9 0 k_ = (1 : Int32) ∧ (σ.1 10 0 k_ ≤ b ∧ b < σ.1 11 0 k_)) (s_ ||| ((mo_rowI σ 29 0 ((mo_set1 σ b (σ.1 18 0 4).toNatClampNeg).1)).1 29 0 (σ.1 4 0 (σ.1 8 0 k_).toNatClampNeg).toNatClampNeg &&& -((mo_rowI σ 29 0 ((mo_set1 σ b (σ.1 18 0 4).toNatClampNeg).1)).1 29 0 (σ.1 4 0 (σ.1 8 0 k_).toNatClampNeg).toNatClampNeg))) s_) 0 (σ.1 6 0 5).toNatClampNeg) &&& ((mo_fo (fun k_ s_ => mo_ite (σ.1 7 0 k_ = a ∧ σ.1 9 0 k_ = (0 : Int32) ∧ (σ.1 10 0 k_ ≤ b ∧ b < σ.1 11 0 k_)) (s_ ||| ((mo_rowI σ 29 0 ((mo_set1 σ b (σ.1 18 0 4).toNatClampNeg).1)).1 29 0 (σ.1 4 0 (σ.1 8 0 k_).toNatClampNeg).toNatClampNeg &&& -((mo_rowI σ 29 0 ((mo_set1 σ b (σ.1 18 0 4).toNatClampNeg).1)).1 29 0 (σ.1 4 0 (σ.1 8 0 k_).toNatClampNeg).toNatClampNeg))) s_) 0 (σ.1 6 0 5).toNatClampNeg) ^^^ (-1 : Int32)))))) (mo_rowI σ 29 0 ((mo_set1 σ b (σ.1 18 0 4).toNatClampNeg).1)))))))) ∧ (¬ (0 ≤ c ∧ c ≤ (1 : Int32)) → Q (some (.inl (-1 : Int32))) (σ)))))))
theorem m_X11_gaps : ∀ (as : List mo_V) (σ : mo_M) (P P' : mo_Q), (∀ x τ, P x τ → P' x τ) → S_X11_gaps as σ P → S_X11_gaps as σ P' := by
  rintro as σ P P' hm ⟨a, b, c, e, hq⟩
  exact ⟨a, b, c, e, ⟨fun c1 => hm _ _ (hq.1 c1), fun c1 => ⟨fun c2 => hm _ _ ((hq.2 c1).1 c2), fun c2 => ⟨fun c3 => ⟨(((hq.2 c1).2 c2).1 c3).1, ⟨(((hq.2 c1).2 c2).1 c3).2.1, ⟨(((hq.2 c1).2 c2).1 c3).2.2.1, ⟨fun c4 => hm _ _ ((((hq.2 c1).2 c2).1 c3).2.2.2.1 c4), fun c4 => hm _ _ ((((hq.2 c1).2 c2).1 c3).2.2.2.2 c4)⟩⟩⟩⟩, fun c3 => hm _ _ (((hq.2 c1).2 c2).2 c3)⟩⟩⟩⟩
def cs_X11_gaps : Nat → mo_C := fun j => match j with
  | 0 => (2, true, 140, 11, S_X11_isMake)
  | 1 => (1, false, 137, 50, S_X11_isDay)
  | 2 => (2, false, 101, 50, S_X11_isWithin)
  | 3 => (4, true, 175, 0, S_X0_settle)
  | 4 => (4, true, 226, 11, S_X11_groupsInside)
  | 5 => (1, false, 229, 50, S_J6_bitCount_0f7a4)
  | _ => (0, false, 0, 50, fun _ _ _ => False)
theorem cs_X11_gaps_ok (g : mo_E) : ∀ j, mo_cok g t_X11_gaps (cs_X11_gaps j) ∧ mo_mon (cs_X11_gaps j) := by
  intro j
  unfold cs_X11_gaps
  split
  · exact ⟨mo_cokV ct_X11_isMake (by decide) ⟨_, _, rfl⟩ (by decide +kernel), m_X11_isMake⟩
  · exact ⟨mo_cokS ct_X11_isDay (by decide +kernel), m_X11_isDay⟩
  · exact ⟨mo_cokS ct_X11_isWithin (by decide +kernel), m_X11_isWithin⟩
  · exact ⟨mo_cokV ct_X0_settle (by decide) ⟨_, _, rfl⟩ (by decide +kernel), m_X0_settle⟩
  · exact ⟨mo_cokV ct_X11_groupsInside (by decide) ⟨_, _, rfl⟩ (by decide +kernel), m_X11_groupsInside⟩
  · exact ⟨mo_cokS ct_J6_bitCount_0f7a4 (by decide +kernel), m_J6_bitCount_0f7a4⟩
  · exact ⟨mo_cok0 g _, mo_mon0⟩
set_option maxRecDepth 20000 in
set_option maxHeartbeats 2000000 in
theorem ct_X11_gaps : mo_ct yX11_gaps t_X11_gaps S_X11_gaps := by
  refine mo_ct_of (by decide) rfl ?_
  rintro g as σ Q ⟨a, b, c, rfl, hQ⟩
  refine ⟨Nat.le_of_ble_eq_true rfl, mo_go ok_X11_gaps (cs_X11_gaps_ok g) [] 50 ?_⟩
  intro K hK
  refine Exists.intro a (And.intro rfl (And.intro trivial ?_))
  refine And.intro (fun (c1 : (mo_bl (0 ≤ a ∧ a < σ.1 3 0 2)) = 0) => ?_) (fun (c1 : ¬ (mo_bl (0 ≤ a ∧ a < σ.1 3 0 2)) = 0) => ?_)
  · replace c1 : ¬ (0 ≤ a ∧ a < σ.1 3 0 2) := mo_bl0.mp c1
    exact (hQ.1 c1)
  · replace c1 : 0 ≤ a ∧ a < σ.1 3 0 2 := mo_blT c1
    refine Exists.intro b (And.intro rfl (And.intro trivial ?_))
    refine And.intro (fun (c2 : (mo_bl (0 ≤ b ∧ b ≤ (10000 : Int32))) = 0) => ?_) (fun (c2 : ¬ (mo_bl (0 ≤ b ∧ b ≤ (10000 : Int32))) = 0) => ?_)
    · replace c2 : ¬ (0 ≤ b ∧ b ≤ (10000 : Int32)) := mo_bl0.mp c2
      exact ((hQ.2 c1).1 c2)
    · replace c2 : 0 ≤ b ∧ b ≤ (10000 : Int32) := mo_blT c2
      refine Exists.intro c (Exists.intro (1 : Int32) (And.intro rfl (And.intro trivial ?_)))
      refine And.intro (fun (c3 : ¬ (mo_bl (0 ≤ c ∧ c ≤ (1 : Int32))) = 0) => ?_) (fun (c3 : (mo_bl (0 ≤ c ∧ c ≤ (1 : Int32))) = 0) => ?_)
      · replace c3 : 0 ≤ c ∧ c ≤ (1 : Int32) := mo_blT c3
        refine Exists.intro b (And.intro rfl (And.intro (show mo_le (σ.1 18 0 4) 40 ∧ mo_le (σ.1 23 0 4) 40 ∧ ∀ k_, k_ < (σ.1 18 0 4).toNatClampNeg → vp_in (σ.1 19 0 k_) 30 ∧ vp_in (σ.1 20 0 k_) 30 from (((hQ.2 c1).2 c2).1 c3).1) ?_))
        refine Exists.intro a (Exists.intro (1 : Int32) (Exists.intro b (And.intro rfl (And.intro (show mo_le (σ.1 6 0 5) 200 ∧ ∀ k_, k_ < (σ.1 6 0 5).toNatClampNeg → vp_in (σ.1 8 0 k_) 60 ∧ vp_in (σ.1 4 0 (σ.1 8 0 k_).toNatClampNeg) 30 from (((hQ.2 c1).2 c2).1 c3).2.1) ?_))))
        refine Exists.intro a (Exists.intro (0 : Int32) (Exists.intro b (And.intro rfl (And.intro (show mo_le (σ.1 6 0 5) 200 ∧ ∀ k_, k_ < (σ.1 6 0 5).toNatClampNeg → vp_in (σ.1 8 0 k_) 60 ∧ vp_in (σ.1 4 0 (σ.1 8 0 k_).toNatClampNeg) 30 from (((hQ.2 c1).2 c2).1 c3).2.2.1) ?_))))
        refine And.intro (fun (c4 : ¬ c = 0) => ?_) (fun (c4 : c = 0) => ?_)
        · refine Exists.intro ((mo_fo (fun k_ s_ => mo_ite (σ.1 7 0 k_ = a ∧ σ.1 9 0 k_ = (0 : Int32) ∧ (σ.1 10 0 k_ ≤ b ∧ b < σ.1 11 0 k_)) (s_ ||| ((mo_rowI σ 29 0 ((mo_set1 σ b (σ.1 18 0 4).toNatClampNeg).1)).1 29 0 (σ.1 4 0 (σ.1 8 0 k_).toNatClampNeg).toNatClampNeg &&& -((mo_rowI σ 29 0 ((mo_set1 σ b (σ.1 18 0 4).toNatClampNeg).1)).1 29 0 (σ.1 4 0 (σ.1 8 0 k_).toNatClampNeg).toNatClampNeg))) s_) 0 (σ.1 6 0 5).toNatClampNeg) &&& ((mo_fo (fun k_ s_ => mo_ite (σ.1 7 0 k_ = a ∧ σ.1 9 0 k_ = (1 : Int32) ∧ (σ.1 10 0 k_ ≤ b ∧ b < σ.1 11 0 k_)) (s_ ||| ((mo_rowI σ 29 0 ((mo_set1 σ b (σ.1 18 0 4).toNatClampNeg).1)).1 29 0 (σ.1 4 0 (σ.1 8 0 k_).toNatClampNeg).toNatClampNeg &&& -((mo_rowI σ 29 0 ((mo_set1 σ b (σ.1 18 0 4).toNatClampNeg).1)).1 29 0 (σ.1 4 0 (σ.1 8 0 k_).toNatClampNeg).toNatClampNeg))) s_) 0 (σ.1 6 0 5).toNatClampNeg) ^^^ (-1 : Int32))) (And.intro rfl (And.intro trivial ?_))
          exact ((((hQ.2 c1).2 c2).1 c3).2.2.2.1 c4)
        · refine Exists.intro ((mo_fo (fun k_ s_ => mo_ite (σ.1 7 0 k_ = a ∧ σ.1 9 0 k_ = (1 : Int32) ∧ (σ.1 10 0 k_ ≤ b ∧ b < σ.1 11 0 k_)) (s_ ||| ((mo_rowI σ 29 0 ((mo_set1 σ b (σ.1 18 0 4).toNatClampNeg).1)).1 29 0 (σ.1 4 0 (σ.1 8 0 k_).toNatClampNeg).toNatClampNeg &&& -((mo_rowI σ 29 0 ((mo_set1 σ b (σ.1 18 0 4).toNatClampNeg).1)).1 29 0 (σ.1 4 0 (σ.1 8 0 k_).toNatClampNeg).toNatClampNeg))) s_) 0 (σ.1 6 0 5).toNatClampNeg) &&& ((mo_fo (fun k_ s_ => mo_ite (σ.1 7 0 k_ = a ∧ σ.1 9 0 k_ = (0 : Int32) ∧ (σ.1 10 0 k_ ≤ b ∧ b < σ.1 11 0 k_)) (s_ ||| ((mo_rowI σ 29 0 ((mo_set1 σ b (σ.1 18 0 4).toNatClampNeg).1)).1 29 0 (σ.1 4 0 (σ.1 8 0 k_).toNatClampNeg).toNatClampNeg &&& -((mo_rowI σ 29 0 ((mo_set1 σ b (σ.1 18 0 4).toNatClampNeg).1)).1 29 0 (σ.1 4 0 (σ.1 8 0 k_).toNatClampNeg).toNatClampNeg))) s_) 0 (σ.1 6 0 5).toNatClampNeg) ^^^ (-1 : Int32))) (And.intro rfl (And.intro trivial ?_))
          exact ((((hQ.2 c1).2 c2).1 c3).2.2.2.2 c4)
      · replace c3 : ¬ (0 ≤ c ∧ c ≤ (1 : Int32)) := mo_bl0.mp c3
        exact (((hQ.2 c1).2 c2).2 c3)
end
section
def S_X11_whyNoPair18 : mo_S := fun as σ Q => ∃ a : Int32, ∃ b : Int32, ∃ c : Int32, as = [.inr (.inr (0, 0)), .inl a, .inl b, .inl c, .inr (.inr (18, 0))] ∧ ((0 ≤ c ∧ c ≤ (10000 : Int32) → ((¬ (0 ≤ a ∧ a < σ.1 1 0 1) → Q (some (.inl (-2 : Int32))) (σ)) ∧ (0 ≤ a ∧ a < σ.1 1 0 1 → ((0 ≤ b ∧ b < σ.1 1 0 1 → ((¬ a = b → (((σ.1 18 0 4) < (40 : Int32) → Q (some (.inl (0 : Int32))) (σ)) ∧ (¬ (σ.1 18 0 4) < (40 : Int32) → Q (some (.inl (-5 : Int32))) (σ)))) ∧ (a = b → Q (some (.inl (-4 : Int32))) (σ)))) ∧ (¬ (0 ≤ b ∧ b < σ.1 1 0 1) → Q (some (.inl (-2 : Int32))) (σ)))))) ∧ (¬ (0 ≤ c ∧ c ≤ (10000 : Int32)) → Q (some (.inl (-1 : Int32))) (σ)))
theorem m_X11_whyNoPair18 : ∀ (as : List mo_V) (σ : mo_M) (P P' : mo_Q), (∀ x τ, P x τ → P' x τ) → S_X11_whyNoPair18 as σ P → S_X11_whyNoPair18 as σ P' := by
  rintro as σ P P' hm ⟨a, b, c, e, hq⟩
  exact ⟨a, b, c, e, ⟨fun c1 => ⟨fun c2 => hm _ _ ((hq.1 c1).1 c2), fun c2 => ⟨fun c3 => ⟨fun c4 => ⟨fun c5 => hm _ _ (((((hq.1 c1).2 c2).1 c3).1 c4).1 c5), fun c5 => hm _ _ (((((hq.1 c1).2 c2).1 c3).1 c4).2 c5)⟩, fun c4 => hm _ _ ((((hq.1 c1).2 c2).1 c3).2 c4)⟩, fun c3 => hm _ _ (((hq.1 c1).2 c2).2 c3)⟩⟩, fun c1 => hm _ _ (hq.2 c1)⟩⟩
def cs_X11_whyNoPair18 : Nat → mo_C := fun j => match j with
  | 0 => (1, false, 137, 50, S_X11_isDay)
  | 1 => (2, true, 122, 11, S_X11_isPart)
  | _ => (0, false, 0, 50, fun _ _ _ => False)
theorem cs_X11_whyNoPair18_ok (g : mo_E) : ∀ j, mo_cok g t_X11_whyNoPair (cs_X11_whyNoPair18 j) ∧ mo_mon (cs_X11_whyNoPair18 j) := by
  intro j
  unfold cs_X11_whyNoPair18
  split
  · exact ⟨mo_cokS ct_X11_isDay (by decide +kernel), m_X11_isDay⟩
  · exact ⟨mo_cokV ct_X11_isPart (by decide) ⟨_, _, rfl⟩ (by decide +kernel), m_X11_isPart⟩
  · exact ⟨mo_cok0 g _, mo_mon0⟩
set_option maxRecDepth 20000 in
set_option maxHeartbeats 2000000 in
theorem ct_X11_whyNoPair18 : mo_ct yX11_whyNoPair t_X11_whyNoPair S_X11_whyNoPair18 := by
  refine mo_ct_of (by decide) rfl ?_
  rintro g as σ Q ⟨a, b, c, rfl, hQ⟩
  refine ⟨Nat.le_of_ble_eq_true rfl, mo_go ok_X11_whyNoPair (cs_X11_whyNoPair18_ok g) [] 29 ?_⟩
  intro K hK
  refine Exists.intro c (And.intro rfl (And.intro trivial ?_))
  refine And.intro (fun (c1 : ¬ (mo_bl (0 ≤ c ∧ c ≤ (10000 : Int32))) = 0) => ?_) (fun (c1 : (mo_bl (0 ≤ c ∧ c ≤ (10000 : Int32))) = 0) => ?_)
  · replace c1 : 0 ≤ c ∧ c ≤ (10000 : Int32) := mo_blT c1
    refine Exists.intro a (And.intro rfl (And.intro trivial ?_))
    refine And.intro (fun (c2 : (mo_bl (0 ≤ a ∧ a < σ.1 1 0 1)) = 0) => ?_) (fun (c2 : ¬ (mo_bl (0 ≤ a ∧ a < σ.1 1 0 1)) = 0) => ?_)
    · replace c2 : ¬ (0 ≤ a ∧ a < σ.1 1 0 1) := mo_bl0.mp c2
      exact ((hQ.1 c1).1 c2)
    · replace c2 : 0 ≤ a ∧ a < σ.1 1 0 1 := mo_blT c2
      refine Exists.intro b (And.intro rfl (And.intro trivial ?_))
      refine And.intro (fun (c3 : ¬ (mo_bl (0 ≤ b ∧ b < σ.1 1 0 1)) = 0) => ?_) (fun (c3 : (mo_bl (0 ≤ b ∧ b < σ.1 1 0 1)) = 0) => ?_)
      · replace c3 : 0 ≤ b ∧ b < σ.1 1 0 1 := mo_blT c3
        refine And.intro (fun (c4 : ¬ a = b) => ?_) (fun (c4 : a = b) => ?_)
        · refine And.intro (fun (c5 : (σ.1 18 0 4) < (40 : Int32)) => ?_) (fun (c5 : ¬ (σ.1 18 0 4) < (40 : Int32)) => ?_)
          · exact (((((hQ.1 c1).2 c2).1 c3).1 c4).1 c5)
          · exact (((((hQ.1 c1).2 c2).1 c3).1 c4).2 c5)
        · exact ((((hQ.1 c1).2 c2).1 c3).2 c4)
      · replace c3 : ¬ (0 ≤ b ∧ b < σ.1 1 0 1) := mo_bl0.mp c3
        exact (((hQ.1 c1).2 c2).2 c3)
  · replace c1 : ¬ (0 ≤ c ∧ c ≤ (10000 : Int32)) := mo_bl0.mp c1
    exact (hQ.2 c1)
def S_X11_join : mo_S := fun as σ Q => ∃ a : Int32, ∃ b : Int32, ∃ c : Int32, as = [.inr (.inr (0, 0)), .inl a, .inl b, .inl c] ∧ ((0 ≤ c ∧ c ≤ (10000 : Int32) → ((¬ (0 ≤ a ∧ a < σ.1 1 0 1) → Q (some (.inl (-2 : Int32))) (mo_wI σ 0 0 14 (-2 : Int32))) ∧ (0 ≤ a ∧ a < σ.1 1 0 1 → ((0 ≤ b ∧ b < σ.1 1 0 1 → ((¬ a = b → (((σ.1 18 0 4) < (40 : Int32) → (((18 = 18 ∨ 18 = 23) ∧ vp_in (σ.1 18 0 4) 40) ∧ Q (some (.inl (σ.1 18 0 4 + 1 - 1))) (mo_wI (mo_wI (mo_wI (mo_wI (mo_wI σ 19 0 ((σ.1 18 0 4).toNatClampNeg) a) 20 0 ((σ.1 18 0 4).toNatClampNeg) b) 22 0 ((σ.1 18 0 4).toNatClampNeg) c) 18 0 4 (σ.1 18 0 4 + 1)) 0 0 14 0))) ∧ (¬ (σ.1 18 0 4) < (40 : Int32) → Q (some (.inl (-5 : Int32))) (mo_wI σ 0 0 14 (-5 : Int32))))) ∧ (a = b → Q (some (.inl (-4 : Int32))) (mo_wI σ 0 0 14 (-4 : Int32))))) ∧ (¬ (0 ≤ b ∧ b < σ.1 1 0 1) → Q (some (.inl (-2 : Int32))) (mo_wI σ 0 0 14 (-2 : Int32))))))) ∧ (¬ (0 ≤ c ∧ c ≤ (10000 : Int32)) → Q (some (.inl (-1 : Int32))) (mo_wI σ 0 0 14 (-1 : Int32))))
theorem m_X11_join : ∀ (as : List mo_V) (σ : mo_M) (P P' : mo_Q), (∀ x τ, P x τ → P' x τ) → S_X11_join as σ P → S_X11_join as σ P' := by
  rintro as σ P P' hm ⟨a, b, c, e, hq⟩
  exact ⟨a, b, c, e, ⟨fun c1 => ⟨fun c2 => hm _ _ ((hq.1 c1).1 c2), fun c2 => ⟨fun c3 => ⟨fun c4 => ⟨fun c5 => ⟨(((((hq.1 c1).2 c2).1 c3).1 c4).1 c5).1, hm _ _ (((((hq.1 c1).2 c2).1 c3).1 c4).1 c5).2⟩, fun c5 => hm _ _ (((((hq.1 c1).2 c2).1 c3).1 c4).2 c5)⟩, fun c4 => hm _ _ ((((hq.1 c1).2 c2).1 c3).2 c4)⟩, fun c3 => hm _ _ (((hq.1 c1).2 c2).2 c3)⟩⟩, fun c1 => hm _ _ (hq.2 c1)⟩⟩
def cs_X11_join : Nat → mo_C := fun j => match j with
  | 0 => (5, true, 164, 11, S_X11_whyNoPair18)
  | 1 => (2, true, 105, 11, S_X11_refuse)
  | 2 => (4, true, 168, 4, S_X4_add)
  | 3 => (2, true, 115, 11, S_X11_accept)
  | _ => (0, false, 0, 50, fun _ _ _ => False)
theorem cs_X11_join_ok (g : mo_E) : ∀ j, mo_cok g t_X11_join (cs_X11_join j) ∧ mo_mon (cs_X11_join j) := by
  intro j
  unfold cs_X11_join
  split
  · exact ⟨mo_cokV ct_X11_whyNoPair18 (by decide) ⟨_, _, rfl⟩ (by decide +kernel), m_X11_whyNoPair18⟩
  · exact ⟨mo_cokV ct_X11_refuse (by decide) ⟨_, _, rfl⟩ (by decide +kernel), m_X11_refuse⟩
  · exact ⟨mo_cokV ct_X4_add (by decide) ⟨_, _, rfl⟩ (by decide +kernel), m_X4_add⟩
  · exact ⟨mo_cokV ct_X11_accept (by decide) ⟨_, _, rfl⟩ (by decide +kernel), m_X11_accept⟩
  · exact ⟨mo_cok0 g _, mo_mon0⟩
set_option maxRecDepth 20000 in
set_option maxHeartbeats 2000000 in
theorem ct_X11_join : mo_ct yX11_join t_X11_join S_X11_join := by
  refine mo_ct_of (by decide) rfl ?_
  rintro g as σ Q ⟨a, b, c, rfl, hQ⟩
  refine ⟨Nat.le_of_ble_eq_true rfl, mo_go ok_X11_join (cs_X11_join_ok g) [] 24 ?_⟩
  intro K hK
  refine Exists.intro a (Exists.intro b (Exists.intro c (And.intro rfl ?_)))
  refine And.intro (fun (c1 : 0 ≤ c ∧ c ≤ (10000 : Int32)) => ?_) (fun (c1 : ¬ (0 ≤ c ∧ c ≤ (10000 : Int32))) => ?_)
  · refine And.intro (fun (c2 : ¬ (0 ≤ a ∧ a < σ.1 1 0 1)) => ?_) (fun (c2 : 0 ≤ a ∧ a < σ.1 1 0 1) => ?_)
    · refine And.intro (fun (c3 : (-2 : Int32) = 0) => ?_) (fun (c3 : ¬ (-2 : Int32) = 0) => ?_)
      · exact absurd c3 (by decide)
      · refine Exists.intro (-2 : Int32) (And.intro rfl (And.intro trivial ?_))
        exact ((hQ.1 c1).1 c2)
    · refine And.intro (fun (c3 : 0 ≤ b ∧ b < σ.1 1 0 1) => ?_) (fun (c3 : ¬ (0 ≤ b ∧ b < σ.1 1 0 1)) => ?_)
      · refine And.intro (fun (c4 : ¬ a = b) => ?_) (fun (c4 : a = b) => ?_)
        · refine And.intro (fun (c5 : (σ.1 18 0 4) < (40 : Int32)) => ?_) (fun (c5 : ¬ (σ.1 18 0 4) < (40 : Int32)) => ?_)
          · refine And.intro (fun (c6 : (0 : Int32) = 0) => ?_) (fun (c6 : ¬ (0 : Int32) = 0) => ?_)
            · refine Exists.intro 18 (Exists.intro a (Exists.intro b (Exists.intro c (And.intro rfl (And.intro (show (18 = 18 ∨ 18 = 23) ∧ vp_in (σ.1 18 0 4) 40 from (((((hQ.1 c1).2 c2).1 c3).1 c4).1 c5).1) ?_)))))
              refine Exists.intro (σ.1 18 0 4 + 1 - 1) (And.intro rfl (And.intro trivial ?_))
              exact (((((hQ.1 c1).2 c2).1 c3).1 c4).1 c5).2
            · exact absurd c6 (by decide)
          · refine And.intro (fun (c6 : (-5 : Int32) = 0) => ?_) (fun (c6 : ¬ (-5 : Int32) = 0) => ?_)
            · exact absurd c6 (by decide)
            · refine Exists.intro (-5 : Int32) (And.intro rfl (And.intro trivial ?_))
              exact (((((hQ.1 c1).2 c2).1 c3).1 c4).2 c5)
        · refine And.intro (fun (c5 : (-4 : Int32) = 0) => ?_) (fun (c5 : ¬ (-4 : Int32) = 0) => ?_)
          · exact absurd c5 (by decide)
          · refine Exists.intro (-4 : Int32) (And.intro rfl (And.intro trivial ?_))
            exact ((((hQ.1 c1).2 c2).1 c3).2 c4)
      · refine And.intro (fun (c4 : (-2 : Int32) = 0) => ?_) (fun (c4 : ¬ (-2 : Int32) = 0) => ?_)
        · exact absurd c4 (by decide)
        · refine Exists.intro (-2 : Int32) (And.intro rfl (And.intro trivial ?_))
          exact (((hQ.1 c1).2 c2).2 c3)
  · refine And.intro (fun (c2 : (-1 : Int32) = 0) => ?_) (fun (c2 : ¬ (-1 : Int32) = 0) => ?_)
    · exact absurd c2 (by decide)
    · refine Exists.intro (-1 : Int32) (And.intro rfl (And.intro trivial ?_))
      exact (hQ.2 c1)
def S_X11_whyNoPair23 : mo_S := fun as σ Q => ∃ a : Int32, ∃ b : Int32, ∃ c : Int32, as = [.inr (.inr (0, 0)), .inl a, .inl b, .inl c, .inr (.inr (23, 0))] ∧ ((0 ≤ c ∧ c ≤ (10000 : Int32) → ((¬ (0 ≤ a ∧ a < σ.1 1 0 1) → Q (some (.inl (-2 : Int32))) (σ)) ∧ (0 ≤ a ∧ a < σ.1 1 0 1 → ((0 ≤ b ∧ b < σ.1 1 0 1 → ((¬ a = b → (((σ.1 23 0 4) < (40 : Int32) → Q (some (.inl (0 : Int32))) (σ)) ∧ (¬ (σ.1 23 0 4) < (40 : Int32) → Q (some (.inl (-5 : Int32))) (σ)))) ∧ (a = b → Q (some (.inl (-4 : Int32))) (σ)))) ∧ (¬ (0 ≤ b ∧ b < σ.1 1 0 1) → Q (some (.inl (-2 : Int32))) (σ)))))) ∧ (¬ (0 ≤ c ∧ c ≤ (10000 : Int32)) → Q (some (.inl (-1 : Int32))) (σ)))
theorem m_X11_whyNoPair23 : ∀ (as : List mo_V) (σ : mo_M) (P P' : mo_Q), (∀ x τ, P x τ → P' x τ) → S_X11_whyNoPair23 as σ P → S_X11_whyNoPair23 as σ P' := by
  rintro as σ P P' hm ⟨a, b, c, e, hq⟩
  exact ⟨a, b, c, e, ⟨fun c1 => ⟨fun c2 => hm _ _ ((hq.1 c1).1 c2), fun c2 => ⟨fun c3 => ⟨fun c4 => ⟨fun c5 => hm _ _ (((((hq.1 c1).2 c2).1 c3).1 c4).1 c5), fun c5 => hm _ _ (((((hq.1 c1).2 c2).1 c3).1 c4).2 c5)⟩, fun c4 => hm _ _ ((((hq.1 c1).2 c2).1 c3).2 c4)⟩, fun c3 => hm _ _ (((hq.1 c1).2 c2).2 c3)⟩⟩, fun c1 => hm _ _ (hq.2 c1)⟩⟩
def cs_X11_whyNoPair23 : Nat → mo_C := fun j => match j with
  | 0 => (1, false, 137, 50, S_X11_isDay)
  | 1 => (2, true, 122, 11, S_X11_isPart)
  | _ => (0, false, 0, 50, fun _ _ _ => False)
theorem cs_X11_whyNoPair23_ok (g : mo_E) : ∀ j, mo_cok g t_X11_whyNoPair (cs_X11_whyNoPair23 j) ∧ mo_mon (cs_X11_whyNoPair23 j) := by
  intro j
  unfold cs_X11_whyNoPair23
  split
  · exact ⟨mo_cokS ct_X11_isDay (by decide +kernel), m_X11_isDay⟩
  · exact ⟨mo_cokV ct_X11_isPart (by decide) ⟨_, _, rfl⟩ (by decide +kernel), m_X11_isPart⟩
  · exact ⟨mo_cok0 g _, mo_mon0⟩
set_option maxRecDepth 20000 in
set_option maxHeartbeats 2000000 in
theorem ct_X11_whyNoPair23 : mo_ct yX11_whyNoPair t_X11_whyNoPair S_X11_whyNoPair23 := by
  refine mo_ct_of (by decide) rfl ?_
  rintro g as σ Q ⟨a, b, c, rfl, hQ⟩
  refine ⟨Nat.le_of_ble_eq_true rfl, mo_go ok_X11_whyNoPair (cs_X11_whyNoPair23_ok g) [] 29 ?_⟩
  intro K hK
  refine Exists.intro c (And.intro rfl (And.intro trivial ?_))
  refine And.intro (fun (c1 : ¬ (mo_bl (0 ≤ c ∧ c ≤ (10000 : Int32))) = 0) => ?_) (fun (c1 : (mo_bl (0 ≤ c ∧ c ≤ (10000 : Int32))) = 0) => ?_)
  · replace c1 : 0 ≤ c ∧ c ≤ (10000 : Int32) := mo_blT c1
    refine Exists.intro a (And.intro rfl (And.intro trivial ?_))
    refine And.intro (fun (c2 : (mo_bl (0 ≤ a ∧ a < σ.1 1 0 1)) = 0) => ?_) (fun (c2 : ¬ (mo_bl (0 ≤ a ∧ a < σ.1 1 0 1)) = 0) => ?_)
    · replace c2 : ¬ (0 ≤ a ∧ a < σ.1 1 0 1) := mo_bl0.mp c2
      exact ((hQ.1 c1).1 c2)
    · replace c2 : 0 ≤ a ∧ a < σ.1 1 0 1 := mo_blT c2
      refine Exists.intro b (And.intro rfl (And.intro trivial ?_))
      refine And.intro (fun (c3 : ¬ (mo_bl (0 ≤ b ∧ b < σ.1 1 0 1)) = 0) => ?_) (fun (c3 : (mo_bl (0 ≤ b ∧ b < σ.1 1 0 1)) = 0) => ?_)
      · replace c3 : 0 ≤ b ∧ b < σ.1 1 0 1 := mo_blT c3
        refine And.intro (fun (c4 : ¬ a = b) => ?_) (fun (c4 : a = b) => ?_)
        · refine And.intro (fun (c5 : (σ.1 23 0 4) < (40 : Int32)) => ?_) (fun (c5 : ¬ (σ.1 23 0 4) < (40 : Int32)) => ?_)
          · exact (((((hQ.1 c1).2 c2).1 c3).1 c4).1 c5)
          · exact (((((hQ.1 c1).2 c2).1 c3).1 c4).2 c5)
        · exact ((((hQ.1 c1).2 c2).1 c3).2 c4)
      · replace c3 : ¬ (0 ≤ b ∧ b < σ.1 1 0 1) := mo_bl0.mp c3
        exact (((hQ.1 c1).2 c2).2 c3)
  · replace c1 : ¬ (0 ≤ c ∧ c ≤ (10000 : Int32)) := mo_bl0.mp c1
    exact (hQ.2 c1)
def S_X11_unlike : mo_S := fun as σ Q => ∃ a : Int32, ∃ b : Int32, ∃ c : Int32, as = [.inr (.inr (0, 0)), .inl a, .inl b, .inl c] ∧ ((0 ≤ c ∧ c ≤ (10000 : Int32) → ((¬ (0 ≤ a ∧ a < σ.1 1 0 1) → Q (some (.inl (-2 : Int32))) (mo_wI σ 0 0 14 (-2 : Int32))) ∧ (0 ≤ a ∧ a < σ.1 1 0 1 → ((0 ≤ b ∧ b < σ.1 1 0 1 → ((¬ a = b → (((σ.1 23 0 4) < (40 : Int32) → (((23 = 18 ∨ 23 = 23) ∧ vp_in (σ.1 23 0 4) 40) ∧ Q (some (.inl (((σ.1 23 0 4 + 1 - 1) + (1 : Int32))))) (mo_wI (mo_wI (mo_wI (mo_wI (mo_wI σ 24 0 ((σ.1 23 0 4).toNatClampNeg) a) 25 0 ((σ.1 23 0 4).toNatClampNeg) b) 27 0 ((σ.1 23 0 4).toNatClampNeg) c) 23 0 4 (σ.1 23 0 4 + 1)) 0 0 14 0))) ∧ (¬ (σ.1 23 0 4) < (40 : Int32) → Q (some (.inl (-5 : Int32))) (mo_wI σ 0 0 14 (-5 : Int32))))) ∧ (a = b → Q (some (.inl (-4 : Int32))) (mo_wI σ 0 0 14 (-4 : Int32))))) ∧ (¬ (0 ≤ b ∧ b < σ.1 1 0 1) → Q (some (.inl (-2 : Int32))) (mo_wI σ 0 0 14 (-2 : Int32))))))) ∧ (¬ (0 ≤ c ∧ c ≤ (10000 : Int32)) → Q (some (.inl (-1 : Int32))) (mo_wI σ 0 0 14 (-1 : Int32))))
theorem m_X11_unlike : ∀ (as : List mo_V) (σ : mo_M) (P P' : mo_Q), (∀ x τ, P x τ → P' x τ) → S_X11_unlike as σ P → S_X11_unlike as σ P' := by
  rintro as σ P P' hm ⟨a, b, c, e, hq⟩
  exact ⟨a, b, c, e, ⟨fun c1 => ⟨fun c2 => hm _ _ ((hq.1 c1).1 c2), fun c2 => ⟨fun c3 => ⟨fun c4 => ⟨fun c5 => ⟨(((((hq.1 c1).2 c2).1 c3).1 c4).1 c5).1, hm _ _ (((((hq.1 c1).2 c2).1 c3).1 c4).1 c5).2⟩, fun c5 => hm _ _ (((((hq.1 c1).2 c2).1 c3).1 c4).2 c5)⟩, fun c4 => hm _ _ ((((hq.1 c1).2 c2).1 c3).2 c4)⟩, fun c3 => hm _ _ (((hq.1 c1).2 c2).2 c3)⟩⟩, fun c1 => hm _ _ (hq.2 c1)⟩⟩
def cs_X11_unlike : Nat → mo_C := fun j => match j with
  | 0 => (5, true, 164, 11, S_X11_whyNoPair23)
  | 1 => (2, true, 105, 11, S_X11_refuse)
  | 2 => (4, true, 168, 4, S_X4_add)
  | 3 => (2, true, 115, 11, S_X11_accept)
  | _ => (0, false, 0, 50, fun _ _ _ => False)
theorem cs_X11_unlike_ok (g : mo_E) : ∀ j, mo_cok g t_X11_unlike (cs_X11_unlike j) ∧ mo_mon (cs_X11_unlike j) := by
  intro j
  unfold cs_X11_unlike
  split
  · exact ⟨mo_cokV ct_X11_whyNoPair23 (by decide) ⟨_, _, rfl⟩ (by decide +kernel), m_X11_whyNoPair23⟩
  · exact ⟨mo_cokV ct_X11_refuse (by decide) ⟨_, _, rfl⟩ (by decide +kernel), m_X11_refuse⟩
  · exact ⟨mo_cokV ct_X4_add (by decide) ⟨_, _, rfl⟩ (by decide +kernel), m_X4_add⟩
  · exact ⟨mo_cokV ct_X11_accept (by decide) ⟨_, _, rfl⟩ (by decide +kernel), m_X11_accept⟩
  · exact ⟨mo_cok0 g _, mo_mon0⟩
set_option maxRecDepth 20000 in
set_option maxHeartbeats 2000000 in
theorem ct_X11_unlike : mo_ct yX11_unlike t_X11_unlike S_X11_unlike := by
  refine mo_ct_of (by decide) rfl ?_
  rintro g as σ Q ⟨a, b, c, rfl, hQ⟩
  refine ⟨Nat.le_of_ble_eq_true rfl, mo_go ok_X11_unlike (cs_X11_unlike_ok g) [] 26 ?_⟩
  intro K hK
  refine Exists.intro a (Exists.intro b (Exists.intro c (And.intro rfl ?_)))
  refine And.intro (fun (c1 : 0 ≤ c ∧ c ≤ (10000 : Int32)) => ?_) (fun (c1 : ¬ (0 ≤ c ∧ c ≤ (10000 : Int32))) => ?_)
  · refine And.intro (fun (c2 : ¬ (0 ≤ a ∧ a < σ.1 1 0 1)) => ?_) (fun (c2 : 0 ≤ a ∧ a < σ.1 1 0 1) => ?_)
    · refine And.intro (fun (c3 : (-2 : Int32) = 0) => ?_) (fun (c3 : ¬ (-2 : Int32) = 0) => ?_)
      · exact absurd c3 (by decide)
      · refine Exists.intro (-2 : Int32) (And.intro rfl (And.intro trivial ?_))
        exact ((hQ.1 c1).1 c2)
    · refine And.intro (fun (c3 : 0 ≤ b ∧ b < σ.1 1 0 1) => ?_) (fun (c3 : ¬ (0 ≤ b ∧ b < σ.1 1 0 1)) => ?_)
      · refine And.intro (fun (c4 : ¬ a = b) => ?_) (fun (c4 : a = b) => ?_)
        · refine And.intro (fun (c5 : (σ.1 23 0 4) < (40 : Int32)) => ?_) (fun (c5 : ¬ (σ.1 23 0 4) < (40 : Int32)) => ?_)
          · refine And.intro (fun (c6 : (0 : Int32) = 0) => ?_) (fun (c6 : ¬ (0 : Int32) = 0) => ?_)
            · refine Exists.intro 23 (Exists.intro a (Exists.intro b (Exists.intro c (And.intro rfl (And.intro (show (23 = 18 ∨ 23 = 23) ∧ vp_in (σ.1 23 0 4) 40 from (((((hQ.1 c1).2 c2).1 c3).1 c4).1 c5).1) ?_)))))
              refine Exists.intro ((σ.1 23 0 4 + 1 - 1) + (1 : Int32)) (And.intro rfl (And.intro trivial ?_))
              exact (((((hQ.1 c1).2 c2).1 c3).1 c4).1 c5).2
            · exact absurd c6 (by decide)
          · refine And.intro (fun (c6 : (-5 : Int32) = 0) => ?_) (fun (c6 : ¬ (-5 : Int32) = 0) => ?_)
            · exact absurd c6 (by decide)
            · refine Exists.intro (-5 : Int32) (And.intro rfl (And.intro trivial ?_))
              exact (((((hQ.1 c1).2 c2).1 c3).1 c4).2 c5)
        · refine And.intro (fun (c5 : (-4 : Int32) = 0) => ?_) (fun (c5 : ¬ (-4 : Int32) = 0) => ?_)
          · exact absurd c5 (by decide)
          · refine Exists.intro (-4 : Int32) (And.intro rfl (And.intro trivial ?_))
            exact ((((hQ.1 c1).2 c2).1 c3).2 c4)
      · refine And.intro (fun (c4 : (-2 : Int32) = 0) => ?_) (fun (c4 : ¬ (-2 : Int32) = 0) => ?_)
        · exact absurd c4 (by decide)
        · refine Exists.intro (-2 : Int32) (And.intro rfl (And.intro trivial ?_))
          exact (((hQ.1 c1).2 c2).2 c3)
  · refine And.intro (fun (c2 : (-1 : Int32) = 0) => ?_) (fun (c2 : ¬ (-1 : Int32) = 0) => ?_)
    · exact absurd c2 (by decide)
    · refine Exists.intro (-1 : Int32) (And.intro rfl (And.intro trivial ?_))
      exact (hQ.2 c1)
def mo_t1 (σ : mo_M) (a sh : Int32) : mo_M := mo_wI (mo_wI σ 31 0 (σ.1 30 0 1).toNatClampNeg ((a.toUInt32 >>> (sh.toUInt32 &&& Int32.toUInt32 31)).toInt32 &&& (255 : Int32))) 30 0 1 (σ.1 30 0 1 + 1)
def mo_t4 (σ : mo_M) (a : Int32) : mo_M := mo_t1 (mo_t1 (mo_t1 (mo_t1 σ a 24) a 16) a 8) a 0
theorem mo_t1_n (σ : mo_M) (a sh : Int32) {m : Nat} (h : σ.1 30 0 1 = nI m) : (mo_t1 σ a sh).1 30 0 1 = nI (m + 1) := by
  rw [nI_succ, ← h]; rfl
def S_X8_add : mo_S := fun as σ Q => ∃ a : Int32, as = [.inr (.inr (30, 0)), .inl a] ∧ (mo_le (σ.1 30 0 1) 196) ∧ Q (none) (mo_t4 σ a)
theorem m_X8_add : ∀ (as : List mo_V) (σ : mo_M) (P P' : mo_Q), (∀ x τ, P x τ → P' x τ) → S_X8_add as σ P → S_X8_add as σ P' := by
  rintro as σ P P' h ⟨a, e, hp, hq⟩
  exact ⟨a, e, hp, h _ _ hq⟩
set_option maxRecDepth 20000 in
set_option maxHeartbeats 2000000 in
theorem lp_X8_add_m8 (g : mo_E) (σ : mo_M) (Q : mo_Q) (a : Int32) (m : Nat) (hm : σ.1 30 0 1 = nI m) (hle : m + 0 ≤ 200) (hQ : Q none (σ)) : mo_X g t_X8_add Q 3 [some (.inr (.inr (30, 0))), some (.inl a), some (.inl (-8 : Int32))] [] σ := by
  refine mo_go ok_X8_add (mo_no_ok g _) [3] 28 ?_
  intro K hK
  refine And.intro (fun (c1 : (-8 : Int32) < 0) => ?_) (fun (c1 : ¬ (-8 : Int32) < 0) => ?_)
  · exact hQ
  · exact absurd c1 (by decide)
set_option maxRecDepth 20000 in
set_option maxHeartbeats 2000000 in
theorem lp_X8_add_0 (g : mo_E) (σ : mo_M) (Q : mo_Q) (a : Int32) (m : Nat) (hm : σ.1 30 0 1 = nI m) (hle : m + 1 ≤ 200) (hQ : Q none (mo_t1 σ a 0)) : mo_X g t_X8_add Q 3 [some (.inr (.inr (30, 0))), some (.inl a), some (.inl (0 : Int32))] [] σ := by
  refine mo_go ok_X8_add (mo_no_ok g _) [3] 28 ?_
  intro K hK
  refine And.intro (fun (c1 : (0 : Int32) < 0) => ?_) (fun (c1 : ¬ (0 : Int32) < 0) => ?_)
  · exact absurd c1 (by decide)
  · refine And.intro (fun (c2 : (200 : Int32) ≤ (σ.1 30 0 1)) => ?_) (fun (c2 : ¬ (200 : Int32) ≤ (σ.1 30 0 1)) => ?_)
    · exact absurd c2 (by rw [hm, show (200 : Int32) = nI 200 from rfl, nI_leI (by omega) (by omega)]; omega)
    · refine And.intro (show vp_in (σ.1 30 0 1) 200 by rw [hm]; exact mo_inN (by omega) (by decide)) ?_
      exact hK _ _ _ _ (lp_X8_add_m8 g (mo_t1 σ a 0) Q a (m + 1) (mo_t1_n σ a 0 hm) (by omega) hQ)
set_option maxRecDepth 20000 in
set_option maxHeartbeats 2000000 in
theorem lp_X8_add_8 (g : mo_E) (σ : mo_M) (Q : mo_Q) (a : Int32) (m : Nat) (hm : σ.1 30 0 1 = nI m) (hle : m + 2 ≤ 200) (hQ : Q none (mo_t1 (mo_t1 σ a 8) a 0)) : mo_X g t_X8_add Q 3 [some (.inr (.inr (30, 0))), some (.inl a), some (.inl (8 : Int32))] [] σ := by
  refine mo_go ok_X8_add (mo_no_ok g _) [3] 28 ?_
  intro K hK
  refine And.intro (fun (c1 : (8 : Int32) < 0) => ?_) (fun (c1 : ¬ (8 : Int32) < 0) => ?_)
  · exact absurd c1 (by decide)
  · refine And.intro (fun (c2 : (200 : Int32) ≤ (σ.1 30 0 1)) => ?_) (fun (c2 : ¬ (200 : Int32) ≤ (σ.1 30 0 1)) => ?_)
    · exact absurd c2 (by rw [hm, show (200 : Int32) = nI 200 from rfl, nI_leI (by omega) (by omega)]; omega)
    · refine And.intro (show vp_in (σ.1 30 0 1) 200 by rw [hm]; exact mo_inN (by omega) (by decide)) ?_
      exact hK _ _ _ _ (lp_X8_add_0 g (mo_t1 σ a 8) Q a (m + 1) (mo_t1_n σ a 8 hm) (by omega) hQ)
set_option maxRecDepth 20000 in
set_option maxHeartbeats 2000000 in
theorem lp_X8_add_16 (g : mo_E) (σ : mo_M) (Q : mo_Q) (a : Int32) (m : Nat) (hm : σ.1 30 0 1 = nI m) (hle : m + 3 ≤ 200) (hQ : Q none (mo_t1 (mo_t1 (mo_t1 σ a 16) a 8) a 0)) : mo_X g t_X8_add Q 3 [some (.inr (.inr (30, 0))), some (.inl a), some (.inl (16 : Int32))] [] σ := by
  refine mo_go ok_X8_add (mo_no_ok g _) [3] 28 ?_
  intro K hK
  refine And.intro (fun (c1 : (16 : Int32) < 0) => ?_) (fun (c1 : ¬ (16 : Int32) < 0) => ?_)
  · exact absurd c1 (by decide)
  · refine And.intro (fun (c2 : (200 : Int32) ≤ (σ.1 30 0 1)) => ?_) (fun (c2 : ¬ (200 : Int32) ≤ (σ.1 30 0 1)) => ?_)
    · exact absurd c2 (by rw [hm, show (200 : Int32) = nI 200 from rfl, nI_leI (by omega) (by omega)]; omega)
    · refine And.intro (show vp_in (σ.1 30 0 1) 200 by rw [hm]; exact mo_inN (by omega) (by decide)) ?_
      exact hK _ _ _ _ (lp_X8_add_8 g (mo_t1 σ a 16) Q a (m + 1) (mo_t1_n σ a 16 hm) (by omega) hQ)
set_option maxRecDepth 20000 in
set_option maxHeartbeats 2000000 in
theorem lp_X8_add_24 (g : mo_E) (σ : mo_M) (Q : mo_Q) (a : Int32) (m : Nat) (hm : σ.1 30 0 1 = nI m) (hle : m + 4 ≤ 200) (hQ : Q none (mo_t1 (mo_t1 (mo_t1 (mo_t1 σ a 24) a 16) a 8) a 0)) : mo_X g t_X8_add Q 3 [some (.inr (.inr (30, 0))), some (.inl a), some (.inl (24 : Int32))] [] σ := by
  refine mo_go ok_X8_add (mo_no_ok g _) [3] 28 ?_
  intro K hK
  refine And.intro (fun (c1 : (24 : Int32) < 0) => ?_) (fun (c1 : ¬ (24 : Int32) < 0) => ?_)
  · exact absurd c1 (by decide)
  · refine And.intro (fun (c2 : (200 : Int32) ≤ (σ.1 30 0 1)) => ?_) (fun (c2 : ¬ (200 : Int32) ≤ (σ.1 30 0 1)) => ?_)
    · exact absurd c2 (by rw [hm, show (200 : Int32) = nI 200 from rfl, nI_leI (by omega) (by omega)]; omega)
    · refine And.intro (show vp_in (σ.1 30 0 1) 200 by rw [hm]; exact mo_inN (by omega) (by decide)) ?_
      exact hK _ _ _ _ (lp_X8_add_16 g (mo_t1 σ a 24) Q a (m + 1) (mo_t1_n σ a 24 hm) (by omega) hQ)
set_option maxRecDepth 20000 in
set_option maxHeartbeats 2000000 in
theorem ct_X8_add : mo_ct yX8_add t_X8_add S_X8_add := by
  refine mo_ct_of (by decide) rfl ?_
  rintro g as σ Q ⟨a, rfl, hpre, hQ⟩
  refine ⟨Nat.le_of_ble_eq_true rfl, mo_go ok_X8_add (mo_no_ok g _) [3] 28 ?_⟩
  intro K hK
  exact hK _ _ _ _ (lp_X8_add_24 g σ Q a _ hpre.1 (by have := hpre.2; omega) hQ)
def S_X11_feed : mo_S := fun as σ Q => ∃ a : Int32, ∃ b : Int32, ∃ c : Int32, ∃ d : Int32, ∃ f : Int32, as = [.inr (.inr (0, 0)), .inl a, .inl b, .inl c, .inl d, .inl f] ∧ ((((σ.1 30 0 1) + (20 : Int32)) ≤ (200 : Int32) → ((mo_le (σ.1 30 0 1) 196) ∧ ((mo_le ((mo_t4 σ a).1 30 0 1) 196) ∧ ((mo_le ((mo_t4 (mo_t4 σ a) b).1 30 0 1) 196) ∧ ((mo_le ((mo_t4 (mo_t4 (mo_t4 σ a) b) c).1 30 0 1) 196) ∧ ((mo_le ((mo_t4 (mo_t4 (mo_t4 (mo_t4 σ a) b) c) d).1 30 0 1) 196) ∧ Q (some (.inl ((mo_t4 (mo_t4 (mo_t4 (mo_t4 (mo_t4 σ a) b) c) d) f).1 30 0 1))) (mo_t4 (mo_t4 (mo_t4 (mo_t4 (mo_t4 σ a) b) c) d) f))))))) ∧ (¬ ((σ.1 30 0 1) + (20 : Int32)) ≤ (200 : Int32) → Q (some (.inl (-1 : Int32))) (σ)))
theorem m_X11_feed : ∀ (as : List mo_V) (σ : mo_M) (P P' : mo_Q), (∀ x τ, P x τ → P' x τ) → S_X11_feed as σ P → S_X11_feed as σ P' := by
  rintro as σ P P' hm ⟨a, b, c, d, f, e, hq⟩
  exact ⟨a, b, c, d, f, e, ⟨fun c1 => ⟨(hq.1 c1).1, ⟨(hq.1 c1).2.1, ⟨(hq.1 c1).2.2.1, ⟨(hq.1 c1).2.2.2.1, ⟨(hq.1 c1).2.2.2.2.1, hm _ _ (hq.1 c1).2.2.2.2.2⟩⟩⟩⟩⟩, fun c1 => hm _ _ (hq.2 c1)⟩⟩
def cs_X11_feed : Nat → mo_C := fun j => match j with
  | 0 => (2, true, 187, 8, S_X8_add)
  | _ => (0, false, 0, 50, fun _ _ _ => False)
theorem cs_X11_feed_ok (g : mo_E) : ∀ j, mo_cok g t_X11_feed (cs_X11_feed j) ∧ mo_mon (cs_X11_feed j) := by
  intro j
  unfold cs_X11_feed
  split
  · exact ⟨mo_cokV ct_X8_add (by decide) ⟨_, _, rfl⟩ (by decide +kernel), m_X8_add⟩
  · exact ⟨mo_cok0 g _, mo_mon0⟩
set_option maxRecDepth 20000 in
set_option maxHeartbeats 2000000 in
theorem ct_X11_feed : mo_ct yX11_feed t_X11_feed S_X11_feed := by
  refine mo_ct_of (by decide) rfl ?_
  rintro g as σ Q ⟨a, b, c, d, f, rfl, hQ⟩
  refine ⟨Nat.le_of_ble_eq_true rfl, mo_go ok_X11_feed (cs_X11_feed_ok g) [] 34 ?_⟩
  intro K hK
  refine And.intro (fun (c1 : ((σ.1 30 0 1) + (20 : Int32)) ≤ (200 : Int32)) => ?_) (fun (c1 : ¬ ((σ.1 30 0 1) + (20 : Int32)) ≤ (200 : Int32)) => ?_)
  · refine Exists.intro a (And.intro rfl (And.intro (show mo_le (σ.1 30 0 1) 196 from (hQ.1 c1).1) ?_))
    refine Exists.intro b (And.intro rfl (And.intro (show mo_le ((mo_t4 σ a).1 30 0 1) 196 from (hQ.1 c1).2.1) ?_))
    refine Exists.intro c (And.intro rfl (And.intro (show mo_le ((mo_t4 (mo_t4 σ a) b).1 30 0 1) 196 from (hQ.1 c1).2.2.1) ?_))
    refine Exists.intro d (And.intro rfl (And.intro (show mo_le ((mo_t4 (mo_t4 (mo_t4 σ a) b) c).1 30 0 1) 196 from (hQ.1 c1).2.2.2.1) ?_))
    refine Exists.intro f (And.intro rfl (And.intro (show mo_le ((mo_t4 (mo_t4 (mo_t4 (mo_t4 σ a) b) c) d).1 30 0 1) 196 from (hQ.1 c1).2.2.2.2.1) ?_))
    exact (hQ.1 c1).2.2.2.2.2
  · exact (hQ.2 c1)
end
section
def S_X12_isQuarrel : mo_S := fun as σ Q => ∃ a : Int32, ∃ b : Int32, ∃ c : Int32, as = [.inr (.inr (50, 0)), .inl a, .inl b, .inl c] ∧ (mo_le (σ.1 50 0 19) 40 ∧ ∀ u, u < (σ.1 50 0 19).toNatClampNeg → vp_in (σ.1 68 0 u) 30 ∧ vp_in (σ.1 69 0 u) 30) ∧ Q (some (.inl (mo_bl (∃ u, u < (σ.1 50 0 19).toNatClampNeg ∧ σ.1 70 0 u ≤ c ∧ ((σ.1 71 0 (σ.1 68 0 u).toNatClampNeg = a ∧ σ.1 71 0 (σ.1 69 0 u).toNatClampNeg = b) ∨ (σ.1 71 0 (σ.1 68 0 u).toNatClampNeg = b ∧ σ.1 71 0 (σ.1 69 0 u).toNatClampNeg = a)))))) (σ)
theorem m_X12_isQuarrel : ∀ (as : List mo_V) (σ : mo_M) (P P' : mo_Q), (∀ x τ, P x τ → P' x τ) → S_X12_isQuarrel as σ P → S_X12_isQuarrel as σ P' := by
  rintro as σ P P' h ⟨a, b, c, e, hp, hq⟩
  exact ⟨a, b, c, e, hp, h _ _ hq⟩
set_option maxRecDepth 20000 in
set_option maxHeartbeats 2000000 in
theorem lp_X12_isQuarrel (g : mo_E) (σ : mo_M) (Q : mo_Q) (a b c : Int32) (n : Nat) (hn : σ.1 50 0 19 = nI n) (hle : n ≤ 40) (hin : ∀ k, k < n → vp_in (σ.1 68 0 k) 30 ∧ vp_in (σ.1 69 0 k) 30) (hQ : Q (some (.inl (mo_bl (∃ u, u < n ∧ σ.1 70 0 u ≤ c ∧ ((σ.1 71 0 (σ.1 68 0 u).toNatClampNeg = a ∧ σ.1 71 0 (σ.1 69 0 u).toNatClampNeg = b) ∨ (σ.1 71 0 (σ.1 68 0 u).toNatClampNeg = b ∧ σ.1 71 0 (σ.1 69 0 u).toNatClampNeg = a)))))) σ) : ∀ (d k : Nat), n < k + d → k ≤ n → (∀ j, j < k → ¬ (fun k => σ.1 70 0 k ≤ c ∧ ((σ.1 71 0 (σ.1 68 0 k).toNatClampNeg = a ∧ σ.1 71 0 (σ.1 69 0 k).toNatClampNeg = b) ∨ (σ.1 71 0 (σ.1 68 0 k).toNatClampNeg = b ∧ σ.1 71 0 (σ.1 69 0 k).toNatClampNeg = a))) j) → mo_X g t_X12_isQuarrel Q 3 [some (.inr (.inr (50, 0))), some (.inl a), some (.inl b), some (.inl c), some (.inl (nI k)), none, none] [] (σ) := by
  intro d
  induction d with
  | zero => intro k h1 h2; omega
  | succ d ih =>
    intro k h1 h2 hinv
    have hkc : (nI k).toNatClampNeg = k := mo_cl (by omega)
    refine mo_go ok_X12_isQuarrel (mo_no_ok g _) [3] 48 ?_
    intro K hK
    refine And.intro (fun (c1 : (σ.1 50 0 19) ≤ (nI k)) => ?_) (fun (c1 : ¬ (σ.1 50 0 19) ≤ (nI k)) => ?_)
    · have hk : n ≤ k := mo_cge hn (by omega) (by omega) c1
      refine And.intro (by first | decide | exact mo_bl01 _) ?_
      exact mo_q hQ (mo_r0 (fun q => by obtain ⟨j, hj, q⟩ := q; exact hinv j (by omega) q)) rfl
    · have hk : k < n := mo_clt hn (by omega) (by omega) c1
      refine And.intro (show vp_in (nI k) 40 by exact mo_inN (by omega) (by decide)) ?_
      refine And.intro (fun (c2 : (σ.1 70 0 ((nI k).toNatClampNeg)) ≤ c) => ?_) (fun (c2 : ¬ (σ.1 70 0 ((nI k).toNatClampNeg)) ≤ c) => ?_)
      · refine And.intro (show vp_in (nI k) 40 by exact mo_inN (by omega) (by decide)) ?_
        refine And.intro (show vp_in (σ.1 68 0 ((nI k).toNatClampNeg)) 30 by rw [hkc]; exact (hin k hk).1) ?_
        refine And.intro (show vp_in (nI k) 40 by exact mo_inN (by omega) (by decide)) ?_
        refine And.intro (show vp_in (σ.1 69 0 ((nI k).toNatClampNeg)) 30 by rw [hkc]; exact (hin k hk).2) ?_
        refine And.intro (fun (c3 : ¬ (σ.1 71 0 ((σ.1 68 0 ((nI k).toNatClampNeg)).toNatClampNeg)) = a) => ?_) (fun (c3 : (σ.1 71 0 ((σ.1 68 0 ((nI k).toNatClampNeg)).toNatClampNeg)) = a) => ?_)
        · refine And.intro (fun (c4 : ¬ (σ.1 71 0 ((σ.1 68 0 ((nI k).toNatClampNeg)).toNatClampNeg)) = b) => ?_) (fun (c4 : (σ.1 71 0 ((σ.1 68 0 ((nI k).toNatClampNeg)).toNatClampNeg)) = b) => ?_)
          · (have hih := ih (k + 1) (by omega) (by omega) (lt_s hinv (by ((try simp only [hkc, mo_bl0, Classical.not_not, ← Int32.not_lt] at c2 c3 c4 ⊢); (try clear ih); (try clear hih); clear hK hQ; grind))); rw [nI_succ] at hih; refine hK _ _ _ _ (show mo_X g t_X12_isQuarrel Q 3 [some (.inr (.inr (50, 0))), some (.inl a), some (.inl b), some (.inl c), some (.inl ((nI k) + (1 : Int32))), some (.inl (σ.1 71 0 ((σ.1 68 0 ((nI k).toNatClampNeg)).toNatClampNeg))), some (.inl (σ.1 71 0 ((σ.1 69 0 ((nI k).toNatClampNeg)).toNatClampNeg)))] [] (σ) from ?_); refine mo_wk ?_ hih; exact And.intro rfl (And.intro rfl (And.intro rfl (And.intro rfl (And.intro rfl (trivial))))))
          · refine And.intro (fun (c5 : ¬ (σ.1 71 0 ((σ.1 69 0 ((nI k).toNatClampNeg)).toNatClampNeg)) = a) => ?_) (fun (c5 : (σ.1 71 0 ((σ.1 69 0 ((nI k).toNatClampNeg)).toNatClampNeg)) = a) => ?_)
            · (have hih := ih (k + 1) (by omega) (by omega) (lt_s hinv (by ((try simp only [hkc, mo_bl0, Classical.not_not, ← Int32.not_lt] at c2 c3 c4 c5 ⊢); (try clear ih); (try clear hih); clear hK hQ; grind))); rw [nI_succ] at hih; refine hK _ _ _ _ (show mo_X g t_X12_isQuarrel Q 3 [some (.inr (.inr (50, 0))), some (.inl a), some (.inl b), some (.inl c), some (.inl ((nI k) + (1 : Int32))), some (.inl (σ.1 71 0 ((σ.1 68 0 ((nI k).toNatClampNeg)).toNatClampNeg))), some (.inl (σ.1 71 0 ((σ.1 69 0 ((nI k).toNatClampNeg)).toNatClampNeg)))] [] (σ) from ?_); refine mo_wk ?_ hih; exact And.intro rfl (And.intro rfl (And.intro rfl (And.intro rfl (And.intro rfl (trivial))))))
            · refine And.intro (by first | decide | exact mo_bl01 _) ?_
              exact mo_q hQ (mo_r1 (by exact ⟨k, hk, by ((try simp only [hkc, mo_bl0, Classical.not_not, ← Int32.not_lt] at c2 c3 c4 c5 ⊢); (try clear ih); (try clear hih); clear hK hQ; grind)⟩)) rfl
        · refine And.intro (fun (c4 : (σ.1 71 0 ((σ.1 69 0 ((nI k).toNatClampNeg)).toNatClampNeg)) = b) => ?_) (fun (c4 : ¬ (σ.1 71 0 ((σ.1 69 0 ((nI k).toNatClampNeg)).toNatClampNeg)) = b) => ?_)
          · refine And.intro (by first | decide | exact mo_bl01 _) ?_
            exact mo_q hQ (mo_r1 (by exact ⟨k, hk, by ((try simp only [hkc, mo_bl0, Classical.not_not, ← Int32.not_lt] at c2 c3 c4 ⊢); (try clear ih); (try clear hih); clear hK hQ; grind)⟩)) rfl
          · refine And.intro (fun (c5 : ¬ (σ.1 71 0 ((σ.1 68 0 ((nI k).toNatClampNeg)).toNatClampNeg)) = b) => ?_) (fun (c5 : (σ.1 71 0 ((σ.1 68 0 ((nI k).toNatClampNeg)).toNatClampNeg)) = b) => ?_)
            · (have hih := ih (k + 1) (by omega) (by omega) (lt_s hinv (by ((try simp only [hkc, mo_bl0, Classical.not_not, ← Int32.not_lt] at c2 c3 c4 c5 ⊢); (try clear ih); (try clear hih); clear hK hQ; grind))); rw [nI_succ] at hih; refine hK _ _ _ _ (show mo_X g t_X12_isQuarrel Q 3 [some (.inr (.inr (50, 0))), some (.inl a), some (.inl b), some (.inl c), some (.inl ((nI k) + (1 : Int32))), some (.inl (σ.1 71 0 ((σ.1 68 0 ((nI k).toNatClampNeg)).toNatClampNeg))), some (.inl (σ.1 71 0 ((σ.1 69 0 ((nI k).toNatClampNeg)).toNatClampNeg)))] [] (σ) from ?_); refine mo_wk ?_ hih; exact And.intro rfl (And.intro rfl (And.intro rfl (And.intro rfl (And.intro rfl (trivial))))))
            · refine And.intro (fun (c6 : ¬ (σ.1 71 0 ((σ.1 69 0 ((nI k).toNatClampNeg)).toNatClampNeg)) = a) => ?_) (fun (c6 : (σ.1 71 0 ((σ.1 69 0 ((nI k).toNatClampNeg)).toNatClampNeg)) = a) => ?_)
              · (have hih := ih (k + 1) (by omega) (by omega) (lt_s hinv (by ((try simp only [hkc, mo_bl0, Classical.not_not, ← Int32.not_lt] at c2 c3 c4 c5 c6 ⊢); (try clear ih); (try clear hih); clear hK hQ; grind))); rw [nI_succ] at hih; refine hK _ _ _ _ (show mo_X g t_X12_isQuarrel Q 3 [some (.inr (.inr (50, 0))), some (.inl a), some (.inl b), some (.inl c), some (.inl ((nI k) + (1 : Int32))), some (.inl (σ.1 71 0 ((σ.1 68 0 ((nI k).toNatClampNeg)).toNatClampNeg))), some (.inl (σ.1 71 0 ((σ.1 69 0 ((nI k).toNatClampNeg)).toNatClampNeg)))] [] (σ) from ?_); refine mo_wk ?_ hih; exact And.intro rfl (And.intro rfl (And.intro rfl (And.intro rfl (And.intro rfl (trivial))))))
              · refine And.intro (by first | decide | exact mo_bl01 _) ?_
                exact mo_q hQ (mo_r1 (by exact ⟨k, hk, by ((try simp only [hkc, mo_bl0, Classical.not_not, ← Int32.not_lt] at c2 c3 c4 c5 c6 ⊢); (try clear ih); (try clear hih); clear hK hQ; grind)⟩)) rfl
      · (have hih := ih (k + 1) (by omega) (by omega) (lt_s hinv (by ((try simp only [hkc, mo_bl0, Classical.not_not, ← Int32.not_lt] at c2 ⊢); (try clear ih); (try clear hih); clear hK hQ; grind))); rw [nI_succ] at hih; refine hK _ _ _ _ (show mo_X g t_X12_isQuarrel Q 3 [some (.inr (.inr (50, 0))), some (.inl a), some (.inl b), some (.inl c), some (.inl ((nI k) + (1 : Int32))), none, none] [] (σ) from ?_); refine mo_wk ?_ hih; exact And.intro rfl (And.intro rfl (And.intro rfl (And.intro rfl (And.intro rfl (trivial))))))
set_option maxRecDepth 20000 in
set_option maxHeartbeats 2000000 in
theorem ct_X12_isQuarrel : mo_ct yX12_isQuarrel t_X12_isQuarrel S_X12_isQuarrel := by
  refine mo_ct_of (by decide) rfl ?_
  rintro g as σ Q ⟨a, b, c, rfl, hpre, hQ⟩
  refine ⟨Nat.le_of_ble_eq_true rfl, mo_go ok_X12_isQuarrel (mo_no_ok g _) [3] 48 ?_⟩
  intro K hK
  exact hK _ _ _ _ (lp_X12_isQuarrel g σ Q a b c _ hpre.1.1 hpre.1.2 hpre.2 hQ ((σ.1 50 0 19).toNatClampNeg + 1) 0 (by omega) (by omega) (fun j hj => by omega))
def S_X12_hasLink : mo_S := fun as σ Q => ∃ a : Int32, ∃ b : Int32, ∃ c : Int32, ∃ f : Int32, as = [.inr (.inr (50, 0)), .inl a, .inl b, .inl c, .inl f] ∧ (mo_le (σ.1 50 0 6) 200 ∧ ∀ u, u < (σ.1 50 0 6).toNatClampNeg → vp_in (σ.1 55 0 u) 60 ∧ vp_in (σ.1 52 0 (σ.1 55 0 u).toNatClampNeg) 30) ∧ Q (some (.inl (mo_bl (∃ u, u < (σ.1 50 0 6).toNatClampNeg ∧ (σ.1 57 0 u ≤ f ∧ f < σ.1 58 0 u) ∧ σ.1 54 0 u = a ∧ σ.1 56 0 u = c ∧ σ.1 71 0 (σ.1 52 0 (σ.1 55 0 u).toNatClampNeg).toNatClampNeg = b)))) (σ)
theorem m_X12_hasLink : ∀ (as : List mo_V) (σ : mo_M) (P P' : mo_Q), (∀ x τ, P x τ → P' x τ) → S_X12_hasLink as σ P → S_X12_hasLink as σ P' := by
  rintro as σ P P' h ⟨a, b, c, f, e, hp, hq⟩
  exact ⟨a, b, c, f, e, hp, h _ _ hq⟩
def cs_X12_hasLink : Nat → mo_C := fun j => match j with
  | 0 => (3, true, 150, 12, S_X12_is)
  | _ => (0, false, 0, 50, fun _ _ _ => False)
theorem cs_X12_hasLink_ok (g : mo_E) : ∀ j, mo_cok g t_X12_hasLink (cs_X12_hasLink j) ∧ mo_mon (cs_X12_hasLink j) := by
  intro j
  unfold cs_X12_hasLink
  split
  · exact ⟨mo_cokV ct_X12_is (by decide) ⟨_, _, rfl⟩ (by decide +kernel), m_X12_is⟩
  · exact ⟨mo_cok0 g _, mo_mon0⟩
set_option maxRecDepth 20000 in
set_option maxHeartbeats 2000000 in
theorem lp_X12_hasLink (g : mo_E) (σ : mo_M) (Q : mo_Q) (a b c f : Int32) (n : Nat) (hn : σ.1 50 0 6 = nI n) (hle : n ≤ 200) (hin : ∀ k, k < n → vp_in (σ.1 55 0 k) 60 ∧ vp_in (σ.1 52 0 (σ.1 55 0 k).toNatClampNeg) 30) (hQ : Q (some (.inl (mo_bl (∃ u, u < n ∧ (σ.1 57 0 u ≤ f ∧ f < σ.1 58 0 u) ∧ σ.1 54 0 u = a ∧ σ.1 56 0 u = c ∧ σ.1 71 0 (σ.1 52 0 (σ.1 55 0 u).toNatClampNeg).toNatClampNeg = b)))) σ) : ∀ (d k : Nat), n < k + d → k ≤ n → (∀ j, j < k → ¬ (fun k => (σ.1 57 0 k ≤ f ∧ f < σ.1 58 0 k) ∧ σ.1 54 0 k = a ∧ σ.1 56 0 k = c ∧ σ.1 71 0 (σ.1 52 0 (σ.1 55 0 k).toNatClampNeg).toNatClampNeg = b) j) → mo_X g t_X12_hasLink Q 3 [some (.inr (.inr (50, 0))), some (.inl a), some (.inl b), some (.inl c), some (.inl f), some (.inl (nI k))] [] (σ) := by
  intro d
  induction d with
  | zero => intro k h1 h2; omega
  | succ d ih =>
    intro k h1 h2 hinv
    have hkc : (nI k).toNatClampNeg = k := mo_cl (by omega)
    refine mo_go ok_X12_hasLink (cs_X12_hasLink_ok g) [3] 42 ?_
    intro K hK
    refine And.intro (fun (c1 : (σ.1 50 0 6) ≤ (nI k)) => ?_) (fun (c1 : ¬ (σ.1 50 0 6) ≤ (nI k)) => ?_)
    · have hk : n ≤ k := mo_cge hn (by omega) (by omega) c1
      refine And.intro (by first | decide | exact mo_bl01 _) ?_
      exact mo_q hQ (mo_r0 (fun q => by obtain ⟨j, hj, q⟩ := q; exact hinv j (by omega) q)) rfl
    · have hk : k < n := mo_clt hn (by omega) (by omega) c1
      refine Exists.intro (nI k) (Exists.intro f (And.intro rfl (And.intro (show vp_in (nI k) 200 by exact mo_inN (by omega) (by decide)) ?_)))
      refine And.intro (fun (c2 : (mo_bl (σ.1 57 0 (nI k).toNatClampNeg ≤ f ∧ f < σ.1 58 0 (nI k).toNatClampNeg)) = 0) => ?_) (fun (c2 : ¬ (mo_bl (σ.1 57 0 (nI k).toNatClampNeg ≤ f ∧ f < σ.1 58 0 (nI k).toNatClampNeg)) = 0) => ?_)
      · (have hih := ih (k + 1) (by omega) (by omega) (lt_s hinv (by ((try simp only [hkc, mo_bl0, Classical.not_not, ← Int32.not_lt] at c2 ⊢); (try clear ih); (try clear hih); clear hK hQ; grind))); rw [nI_succ] at hih; refine hK _ _ _ _ (show mo_X g t_X12_hasLink Q 3 [some (.inr (.inr (50, 0))), some (.inl a), some (.inl b), some (.inl c), some (.inl f), some (.inl ((nI k) + (1 : Int32)))] [] (σ) from ?_); refine mo_wk ?_ hih; exact And.intro rfl (And.intro rfl (And.intro rfl (And.intro rfl (And.intro rfl (And.intro rfl (trivial)))))))
      · refine And.intro (show vp_in (nI k) 200 by exact mo_inN (by omega) (by decide)) ?_
        refine And.intro (fun (c3 : ¬ (σ.1 54 0 ((nI k).toNatClampNeg)) = a) => ?_) (fun (c3 : (σ.1 54 0 ((nI k).toNatClampNeg)) = a) => ?_)
        · (have hih := ih (k + 1) (by omega) (by omega) (lt_s hinv (by ((try simp only [hkc, mo_bl0, Classical.not_not, ← Int32.not_lt] at c2 c3 ⊢); (try clear ih); (try clear hih); clear hK hQ; grind))); rw [nI_succ] at hih; refine hK _ _ _ _ (show mo_X g t_X12_hasLink Q 3 [some (.inr (.inr (50, 0))), some (.inl a), some (.inl b), some (.inl c), some (.inl f), some (.inl ((nI k) + (1 : Int32)))] [] (σ) from ?_); refine mo_wk ?_ hih; exact And.intro rfl (And.intro rfl (And.intro rfl (And.intro rfl (And.intro rfl (And.intro rfl (trivial)))))))
        · refine And.intro (show vp_in (nI k) 200 by exact mo_inN (by omega) (by decide)) ?_
          refine And.intro (fun (c4 : ¬ (σ.1 56 0 ((nI k).toNatClampNeg)) = c) => ?_) (fun (c4 : (σ.1 56 0 ((nI k).toNatClampNeg)) = c) => ?_)
          · (have hih := ih (k + 1) (by omega) (by omega) (lt_s hinv (by ((try simp only [hkc, mo_bl0, Classical.not_not, ← Int32.not_lt] at c2 c3 c4 ⊢); (try clear ih); (try clear hih); clear hK hQ; grind))); rw [nI_succ] at hih; refine hK _ _ _ _ (show mo_X g t_X12_hasLink Q 3 [some (.inr (.inr (50, 0))), some (.inl a), some (.inl b), some (.inl c), some (.inl f), some (.inl ((nI k) + (1 : Int32)))] [] (σ) from ?_); refine mo_wk ?_ hih; exact And.intro rfl (And.intro rfl (And.intro rfl (And.intro rfl (And.intro rfl (And.intro rfl (trivial)))))))
          · refine And.intro (show vp_in (nI k) 200 by exact mo_inN (by omega) (by decide)) ?_
            refine And.intro (show vp_in (σ.1 55 0 ((nI k).toNatClampNeg)) 60 by rw [hkc]; exact (hin k hk).1) ?_
            refine And.intro (show vp_in (σ.1 52 0 ((σ.1 55 0 ((nI k).toNatClampNeg)).toNatClampNeg)) 30 by rw [hkc]; exact (hin k hk).2) ?_
            refine And.intro (fun (c5 : ¬ (σ.1 71 0 ((σ.1 52 0 ((σ.1 55 0 ((nI k).toNatClampNeg)).toNatClampNeg)).toNatClampNeg)) = b) => ?_) (fun (c5 : (σ.1 71 0 ((σ.1 52 0 ((σ.1 55 0 ((nI k).toNatClampNeg)).toNatClampNeg)).toNatClampNeg)) = b) => ?_)
            · (have hih := ih (k + 1) (by omega) (by omega) (lt_s hinv (by ((try simp only [hkc, mo_bl0, Classical.not_not, ← Int32.not_lt] at c2 c3 c4 c5 ⊢); (try clear ih); (try clear hih); clear hK hQ; grind))); rw [nI_succ] at hih; refine hK _ _ _ _ (show mo_X g t_X12_hasLink Q 3 [some (.inr (.inr (50, 0))), some (.inl a), some (.inl b), some (.inl c), some (.inl f), some (.inl ((nI k) + (1 : Int32)))] [] (σ) from ?_); refine mo_wk ?_ hih; exact And.intro rfl (And.intro rfl (And.intro rfl (And.intro rfl (And.intro rfl (And.intro rfl (trivial)))))))
            · refine And.intro (by first | decide | exact mo_bl01 _) ?_
              exact mo_q hQ (mo_r1 (by exact ⟨k, hk, by ((try simp only [hkc, mo_bl0, Classical.not_not, ← Int32.not_lt] at c2 c3 c4 c5 ⊢); (try clear ih); (try clear hih); clear hK hQ; grind)⟩)) rfl
set_option maxRecDepth 20000 in
set_option maxHeartbeats 2000000 in
theorem ct_X12_hasLink : mo_ct yX12_hasLink t_X12_hasLink S_X12_hasLink := by
  refine mo_ct_of (by decide) rfl ?_
  rintro g as σ Q ⟨a, b, c, f, rfl, hpre, hQ⟩
  refine ⟨Nat.le_of_ble_eq_true rfl, mo_go ok_X12_hasLink (cs_X12_hasLink_ok g) [3] 42 ?_⟩
  intro K hK
  exact hK _ _ _ _ (lp_X12_hasLink g σ Q a b c f _ hpre.1.1 hpre.1.2 hpre.2 hQ ((σ.1 50 0 6).toNatClampNeg + 1) 0 (by omega) (by omega) (fun j hj => by omega))
def S_X12_settles : mo_S := fun as σ Q => ∃ a : Int32, ∃ b : Int32, as = [.inr (.inr (50, 0)), .inl a, .inl b] ∧ (mo_le (σ.1 50 0 6) 200 ∧ ∀ u, u < (σ.1 50 0 6).toNatClampNeg → vp_in (σ.1 54 0 u) 60 ∧ vp_in (σ.1 55 0 u) 60 ∧ vp_in (σ.1 52 0 (σ.1 54 0 u).toNatClampNeg) 30 ∧ vp_in (σ.1 52 0 (σ.1 55 0 u).toNatClampNeg) 30) ∧ Q (some (.inl (mo_bl (∀ u, u < (σ.1 50 0 6).toNatClampNeg → ¬ ((σ.1 57 0 u ≤ b ∧ b < σ.1 58 0 u) ∧ σ.1 56 0 u = 3 ∧ a >>> (σ.1 51 0 (σ.1 52 0 (σ.1 54 0 u).toNatClampNeg).toNatClampNeg &&& 31) &&& 1 = 0 ∧ a >>> (σ.1 51 0 (σ.1 52 0 (σ.1 55 0 u).toNatClampNeg).toNatClampNeg &&& 31) &&& 1 = 0))))) (σ)
theorem m_X12_settles : ∀ (as : List mo_V) (σ : mo_M) (P P' : mo_Q), (∀ x τ, P x τ → P' x τ) → S_X12_settles as σ P → S_X12_settles as σ P' := by
  rintro as σ P P' h ⟨a, b, e, hp, hq⟩
  exact ⟨a, b, e, hp, h _ _ hq⟩
def cs_X12_settles : Nat → mo_C := fun j => match j with
  | 0 => (3, true, 150, 12, S_X12_is)
  | _ => (0, false, 0, 50, fun _ _ _ => False)
theorem cs_X12_settles_ok (g : mo_E) : ∀ j, mo_cok g t_X12_settles (cs_X12_settles j) ∧ mo_mon (cs_X12_settles j) := by
  intro j
  unfold cs_X12_settles
  split
  · exact ⟨mo_cokV ct_X12_is (by decide) ⟨_, _, rfl⟩ (by decide +kernel), m_X12_is⟩
  · exact ⟨mo_cok0 g _, mo_mon0⟩
set_option maxRecDepth 20000 in
set_option maxHeartbeats 2000000 in
theorem lp_X12_settles (g : mo_E) (σ : mo_M) (Q : mo_Q) (a b : Int32) (n : Nat) (hn : σ.1 50 0 6 = nI n) (hle : n ≤ 200) (hin : ∀ k, k < n → vp_in (σ.1 54 0 k) 60 ∧ vp_in (σ.1 55 0 k) 60 ∧ vp_in (σ.1 52 0 (σ.1 54 0 k).toNatClampNeg) 30 ∧ vp_in (σ.1 52 0 (σ.1 55 0 k).toNatClampNeg) 30) (hQ : Q (some (.inl (mo_bl (∀ u, u < n → ¬ ((σ.1 57 0 u ≤ b ∧ b < σ.1 58 0 u) ∧ σ.1 56 0 u = 3 ∧ a >>> (σ.1 51 0 (σ.1 52 0 (σ.1 54 0 u).toNatClampNeg).toNatClampNeg &&& 31) &&& 1 = 0 ∧ a >>> (σ.1 51 0 (σ.1 52 0 (σ.1 55 0 u).toNatClampNeg).toNatClampNeg &&& 31) &&& 1 = 0))))) σ) : ∀ (d k : Nat), n < k + d → k ≤ n → (∀ j, j < k → ¬ (fun k => (σ.1 57 0 k ≤ b ∧ b < σ.1 58 0 k) ∧ σ.1 56 0 k = 3 ∧ a >>> (σ.1 51 0 (σ.1 52 0 (σ.1 54 0 k).toNatClampNeg).toNatClampNeg &&& 31) &&& 1 = 0 ∧ a >>> (σ.1 51 0 (σ.1 52 0 (σ.1 55 0 k).toNatClampNeg).toNatClampNeg &&& 31) &&& 1 = 0) j) → mo_X g t_X12_settles Q 2 [some (.inr (.inr (50, 0))), some (.inl a), some (.inl b), some (.inl (nI k))] [] (σ) := by
  intro d
  induction d with
  | zero => intro k h1 h2; omega
  | succ d ih =>
    intro k h1 h2 hinv
    have hkc : (nI k).toNatClampNeg = k := mo_cl (by omega)
    refine mo_go ok_X12_settles (cs_X12_settles_ok g) [2] 55 ?_
    intro K hK
    refine And.intro (fun (c1 : (σ.1 50 0 6) ≤ (nI k)) => ?_) (fun (c1 : ¬ (σ.1 50 0 6) ≤ (nI k)) => ?_)
    · have hk : n ≤ k := mo_cge hn (by omega) (by omega) c1
      refine And.intro (by first | decide | exact mo_bl01 _) ?_
      exact mo_q hQ (mo_r1 (fun j hj => hinv j (by omega))) rfl
    · have hk : k < n := mo_clt hn (by omega) (by omega) c1
      refine Exists.intro (nI k) (Exists.intro b (And.intro rfl (And.intro (show vp_in (nI k) 200 by exact mo_inN (by omega) (by decide)) ?_)))
      refine And.intro (fun (c2 : (mo_bl (σ.1 57 0 (nI k).toNatClampNeg ≤ b ∧ b < σ.1 58 0 (nI k).toNatClampNeg)) = 0) => ?_) (fun (c2 : ¬ (mo_bl (σ.1 57 0 (nI k).toNatClampNeg ≤ b ∧ b < σ.1 58 0 (nI k).toNatClampNeg)) = 0) => ?_)
      · (have hih := ih (k + 1) (by omega) (by omega) (lt_s hinv (by ((try simp only [hkc, mo_bl0, Classical.not_not, ← Int32.not_lt] at c2 ⊢); (try clear ih); (try clear hih); clear hK hQ; grind))); rw [nI_succ] at hih; refine hK _ _ _ _ (show mo_X g t_X12_settles Q 2 [some (.inr (.inr (50, 0))), some (.inl a), some (.inl b), some (.inl ((nI k) + (1 : Int32)))] [] (σ) from ?_); refine mo_wk ?_ hih; exact And.intro rfl (And.intro rfl (And.intro rfl (And.intro rfl (trivial)))))
      · refine And.intro (show vp_in (nI k) 200 by exact mo_inN (by omega) (by decide)) ?_
        refine And.intro (fun (c3 : (σ.1 56 0 ((nI k).toNatClampNeg)) = (3 : Int32)) => ?_) (fun (c3 : ¬ (σ.1 56 0 ((nI k).toNatClampNeg)) = (3 : Int32)) => ?_)
        · refine And.intro (show vp_in (nI k) 200 by exact mo_inN (by omega) (by decide)) ?_
          refine And.intro (show vp_in (σ.1 54 0 ((nI k).toNatClampNeg)) 60 by rw [hkc]; exact (hin k hk).1) ?_
          refine And.intro (show vp_in (σ.1 52 0 ((σ.1 54 0 ((nI k).toNatClampNeg)).toNatClampNeg)) 30 by rw [hkc]; exact (hin k hk).2.2.1) ?_
          refine And.intro (fun (c4 : ¬ ((a >>> ((σ.1 51 0 ((σ.1 52 0 ((σ.1 54 0 ((nI k).toNatClampNeg)).toNatClampNeg)).toNatClampNeg)) &&& 31)) &&& (1 : Int32)) = 0) => ?_) (fun (c4 : ((a >>> ((σ.1 51 0 ((σ.1 52 0 ((σ.1 54 0 ((nI k).toNatClampNeg)).toNatClampNeg)).toNatClampNeg)) &&& 31)) &&& (1 : Int32)) = 0) => ?_)
          · (have hih := ih (k + 1) (by omega) (by omega) (lt_s hinv (by ((try simp only [hkc, mo_bl0, Classical.not_not, ← Int32.not_lt] at c2 c3 c4 ⊢); (try clear ih); (try clear hih); clear hK hQ; grind))); rw [nI_succ] at hih; refine hK _ _ _ _ (show mo_X g t_X12_settles Q 2 [some (.inr (.inr (50, 0))), some (.inl a), some (.inl b), some (.inl ((nI k) + (1 : Int32)))] [] (σ) from ?_); refine mo_wk ?_ hih; exact And.intro rfl (And.intro rfl (And.intro rfl (And.intro rfl (trivial)))))
          · refine And.intro (show vp_in (nI k) 200 by exact mo_inN (by omega) (by decide)) ?_
            refine And.intro (show vp_in (σ.1 55 0 ((nI k).toNatClampNeg)) 60 by rw [hkc]; exact (hin k hk).2.1) ?_
            refine And.intro (show vp_in (σ.1 52 0 ((σ.1 55 0 ((nI k).toNatClampNeg)).toNatClampNeg)) 30 by rw [hkc]; exact (hin k hk).2.2.2) ?_
            refine And.intro (fun (c5 : ¬ ((a >>> ((σ.1 51 0 ((σ.1 52 0 ((σ.1 55 0 ((nI k).toNatClampNeg)).toNatClampNeg)).toNatClampNeg)) &&& 31)) &&& (1 : Int32)) = 0) => ?_) (fun (c5 : ((a >>> ((σ.1 51 0 ((σ.1 52 0 ((σ.1 55 0 ((nI k).toNatClampNeg)).toNatClampNeg)).toNatClampNeg)) &&& 31)) &&& (1 : Int32)) = 0) => ?_)
            · (have hih := ih (k + 1) (by omega) (by omega) (lt_s hinv (by ((try simp only [hkc, mo_bl0, Classical.not_not, ← Int32.not_lt] at c2 c3 c4 c5 ⊢); (try clear ih); (try clear hih); clear hK hQ; grind))); rw [nI_succ] at hih; refine hK _ _ _ _ (show mo_X g t_X12_settles Q 2 [some (.inr (.inr (50, 0))), some (.inl a), some (.inl b), some (.inl ((nI k) + (1 : Int32)))] [] (σ) from ?_); refine mo_wk ?_ hih; exact And.intro rfl (And.intro rfl (And.intro rfl (And.intro rfl (trivial)))))
            · refine And.intro (by first | decide | exact mo_bl01 _) ?_
              exact mo_q hQ (mo_r0 (by exact fun q => q k hk (by ((try simp only [hkc, mo_bl0, Classical.not_not, ← Int32.not_lt] at c2 c3 c4 c5 ⊢); (try clear ih); (try clear hih); clear hK hQ; grind)))) rfl
        · (have hih := ih (k + 1) (by omega) (by omega) (lt_s hinv (by ((try simp only [hkc, mo_bl0, Classical.not_not, ← Int32.not_lt] at c2 c3 ⊢); (try clear ih); (try clear hih); clear hK hQ; grind))); rw [nI_succ] at hih; refine hK _ _ _ _ (show mo_X g t_X12_settles Q 2 [some (.inr (.inr (50, 0))), some (.inl a), some (.inl b), some (.inl ((nI k) + (1 : Int32)))] [] (σ) from ?_); refine mo_wk ?_ hih; exact And.intro rfl (And.intro rfl (And.intro rfl (And.intro rfl (trivial)))))
set_option maxRecDepth 20000 in
set_option maxHeartbeats 2000000 in
theorem ct_X12_settles : mo_ct yX12_settles t_X12_settles S_X12_settles := by
  refine mo_ct_of (by decide) rfl ?_
  rintro g as σ Q ⟨a, b, rfl, hpre, hQ⟩
  refine ⟨Nat.le_of_ble_eq_true rfl, mo_go ok_X12_settles (cs_X12_settles_ok g) [2] 55 ?_⟩
  intro K hK
  exact hK _ _ _ _ (lp_X12_settles g σ Q a b _ hpre.1.1 hpre.1.2 hpre.2 hQ ((σ.1 50 0 6).toNatClampNeg + 1) 0 (by omega) (by omega) (fun j hj => by omega))
def S_X12_many : mo_S := fun as σ Q => ∃ a : Int32, as = [.inl a] ∧ (True) ∧ Q (some (.inl (mo_fo (fun k s => s + (a >>> (nI k &&& 31) &&& (1 : Int32))) 0 10))) (σ)
theorem m_X12_many : ∀ (as : List mo_V) (σ : mo_M) (P P' : mo_Q), (∀ x τ, P x τ → P' x τ) → S_X12_many as σ P → S_X12_many as σ P' := by
  rintro as σ P P' h ⟨a, e, hp, hq⟩
  exact ⟨a, e, hp, h _ _ hq⟩
set_option maxRecDepth 20000 in
set_option maxHeartbeats 2000000 in
theorem lp_X12_many (g : mo_E) (σ : mo_M) (Q : mo_Q) (a : Int32) (n : Nat) (hn : (10 : Int32) = nI n) (hle : n ≤ 10) (hQ : Q (some (.inl (mo_fo (fun k s => s + (a >>> (nI k &&& 31) &&& (1 : Int32))) 0 n))) σ) : ∀ (d k : Nat), n < k + d → k ≤ n → (True) → mo_X g t_X12_many Q 4 [some (.inl a), some (.inl (mo_fo (fun k s => s + (a >>> (nI k &&& 31) &&& (1 : Int32))) 0 k)), some (.inl (nI k))] [] (σ) := by
  intro d
  induction d with
  | zero => intro k h1 h2; omega
  | succ d ih =>
    intro k h1 h2 hinv
    have hkc : (nI k).toNatClampNeg = k := mo_cl (by omega)
    refine mo_go ok_X12_many (mo_no_ok g _) [4] 20 ?_
    intro K hK
    refine And.intro (fun (c1 : (10 : Int32) ≤ (nI k)) => ?_) (fun (c1 : ¬ (10 : Int32) ≤ (nI k)) => ?_)
    · have hk : n ≤ k := mo_cge hn (by omega) (by omega) c1
      (have e : k = n := (by omega); subst e; exact hQ)
    · have hk : k < n := mo_clt hn (by omega) (by omega) c1
      (have hih := ih (k + 1) (by omega) (by omega) trivial; rw [nI_succ] at hih; exact hK _ _ _ _ hih)
set_option maxRecDepth 20000 in
set_option maxHeartbeats 2000000 in
theorem ct_X12_many : mo_ct yX12_many t_X12_many S_X12_many := by
  refine mo_ct_of (by decide) rfl ?_
  rintro g as σ Q ⟨a, rfl, hpre, hQ⟩
  refine ⟨Nat.le_of_ble_eq_true rfl, mo_go ok_X12_many (mo_no_ok g _) [4] 20 ?_⟩
  intro K hK
  exact hK _ _ _ _ (lp_X12_many g σ Q a 10 rfl (by omega) hQ 11 0 (by omega) (by omega) trivial)
def mo_hof (σ : mo_M) (m : Int32) : Int32 := if ¬ σ.1 80 0 m.toNatClampNeg = (-1 : Int32) then 2 else if ¬ σ.1 81 0 m.toNatClampNeg = (-1 : Int32) then 1 else 0
def S_X12_hasOf : mo_S := fun as σ Q => ∃ a : Int32, ∃ b : Int32, ∃ c : Int32, as = [.inr (.inr (50, 0)), .inl a, .inl b, .inl c] ∧ (mo_le (σ.1 50 0 12) 100 ∧ ∀ k, k < (σ.1 50 0 12).toNatClampNeg → vp_in (σ.1 60 0 k) 60) ∧ Q (some (.inl (mo_fo (fun k s => mo_ite (σ.1 59 0 k = a ∧ σ.1 63 0 k ≤ c ∧ (σ.1 61 0 k ≤ b ∧ b ≤ σ.1 62 0 k)) (mo_ite (s < mo_hof σ (σ.1 60 0 k)) (mo_hof σ (σ.1 60 0 k)) s) s) 0 (σ.1 50 0 12).toNatClampNeg))) (σ)
theorem m_X12_hasOf : ∀ (as : List mo_V) (σ : mo_M) (P P' : mo_Q), (∀ x τ, P x τ → P' x τ) → S_X12_hasOf as σ P → S_X12_hasOf as σ P' := by
  rintro as σ P P' h ⟨a, b, c, e, hp, hq⟩
  exact ⟨a, b, c, e, hp, h _ _ hq⟩
def cs_X12_hasOf : Nat → mo_C := fun j => match j with
  | 0 => (3, false, 109, 50, S_X12_in)
  | 1 => (2, true, 262, 12, S_X12_hitOf)
  | _ => (0, false, 0, 50, fun _ _ _ => False)
theorem cs_X12_hasOf_ok (g : mo_E) : ∀ j, mo_cok g t_X12_hasOf (cs_X12_hasOf j) ∧ mo_mon (cs_X12_hasOf j) := by
  intro j
  unfold cs_X12_hasOf
  split
  · exact ⟨mo_cokS ct_X12_in (by decide +kernel), m_X12_in⟩
  · exact ⟨mo_cokV ct_X12_hitOf (by decide) ⟨_, _, rfl⟩ (by decide +kernel), m_X12_hitOf⟩
  · exact ⟨mo_cok0 g _, mo_mon0⟩
set_option maxRecDepth 20000 in
set_option maxHeartbeats 2000000 in
theorem lp_X12_hasOf (g : mo_E) (σ : mo_M) (Q : mo_Q) (a b c : Int32) (n : Nat) (hn : σ.1 50 0 12 = nI n) (hle : n ≤ 100) (hin : ∀ k, k < n → vp_in (σ.1 60 0 k) 60) (hQ : Q (some (.inl (mo_fo (fun k s => mo_ite (σ.1 59 0 k = a ∧ σ.1 63 0 k ≤ c ∧ (σ.1 61 0 k ≤ b ∧ b ≤ σ.1 62 0 k)) (mo_ite (s < mo_hof σ (σ.1 60 0 k)) (mo_hof σ (σ.1 60 0 k)) s) s) 0 n))) σ) : ∀ (d k : Nat), n < k + d → k ≤ n → (True) → mo_X g t_X12_hasOf Q 6 [some (.inr (.inr (50, 0))), some (.inl a), some (.inl b), some (.inl c), some (.inl (mo_fo (fun k s => mo_ite (σ.1 59 0 k = a ∧ σ.1 63 0 k ≤ c ∧ (σ.1 61 0 k ≤ b ∧ b ≤ σ.1 62 0 k)) (mo_ite (s < mo_hof σ (σ.1 60 0 k)) (mo_hof σ (σ.1 60 0 k)) s) s) 0 k)), some (.inl (nI k)), none] [] (σ) := by
  intro d
  induction d with
  | zero => intro k h1 h2; omega
  | succ d ih =>
    intro k h1 h2 hinv
    have hkc : (nI k).toNatClampNeg = k := mo_cl (by omega)
    refine mo_go ok_X12_hasOf (cs_X12_hasOf_ok g) [6] 51 ?_
    intro K hK
    refine And.intro (fun (c1 : (σ.1 50 0 12) ≤ (nI k)) => ?_) (fun (c1 : ¬ (σ.1 50 0 12) ≤ (nI k)) => ?_)
    · have hk : n ≤ k := mo_cge hn (by omega) (by omega) c1
      (have e : k = n := (by omega); subst e; exact hQ)
    · have hk : k < n := mo_clt hn (by omega) (by omega) c1
      refine And.intro (show vp_in (nI k) 100 by exact mo_inN (by omega) (by decide)) ?_
      refine And.intro (fun (c2 : ¬ (σ.1 59 0 ((nI k).toNatClampNeg)) = a) => ?_) (fun (c2 : (σ.1 59 0 ((nI k).toNatClampNeg)) = a) => ?_)
      · (have hih := ih (k + 1) (by omega) (by omega) trivial; have e : mo_fo (fun k s => mo_ite (σ.1 59 0 k = a ∧ σ.1 63 0 k ≤ c ∧ (σ.1 61 0 k ≤ b ∧ b ≤ σ.1 62 0 k)) (mo_ite (s < mo_hof σ (σ.1 60 0 k)) (mo_hof σ (σ.1 60 0 k)) s) s) 0 (k + 1) = mo_fo (fun k s => mo_ite (σ.1 59 0 k = a ∧ σ.1 63 0 k ≤ c ∧ (σ.1 61 0 k ≤ b ∧ b ≤ σ.1 62 0 k)) (mo_ite (s < mo_hof σ (σ.1 60 0 k)) (mo_hof σ (σ.1 60 0 k)) s) s) 0 k := mo_ite_f (by ((try simp only [hkc, mo_bl0, Classical.not_not, ← Int32.not_lt] at c2 ⊢); (try clear ih); (try clear hih); clear hK hQ; grind)); rw [nI_succ, e] at hih; refine hK _ _ _ _ (show mo_X g t_X12_hasOf Q 6 [some (.inr (.inr (50, 0))), some (.inl a), some (.inl b), some (.inl c), some (.inl (mo_fo (fun k s => mo_ite (σ.1 59 0 k = a ∧ σ.1 63 0 k ≤ c ∧ (σ.1 61 0 k ≤ b ∧ b ≤ σ.1 62 0 k)) (mo_ite (s < mo_hof σ (σ.1 60 0 k)) (mo_hof σ (σ.1 60 0 k)) s) s) 0 k)), some (.inl ((nI k) + (1 : Int32))), none] [] (σ) from ?_); (try simp only [hkc]); refine mo_wk ?_ hih; exact And.intro rfl (And.intro rfl (And.intro rfl (And.intro rfl (And.intro rfl (And.intro rfl (trivial)))))))
      · refine And.intro (show vp_in (nI k) 100 by exact mo_inN (by omega) (by decide)) ?_
        refine And.intro (fun (c3 : c < (σ.1 63 0 ((nI k).toNatClampNeg))) => ?_) (fun (c3 : ¬ c < (σ.1 63 0 ((nI k).toNatClampNeg))) => ?_)
        · (have hih := ih (k + 1) (by omega) (by omega) trivial; have e : mo_fo (fun k s => mo_ite (σ.1 59 0 k = a ∧ σ.1 63 0 k ≤ c ∧ (σ.1 61 0 k ≤ b ∧ b ≤ σ.1 62 0 k)) (mo_ite (s < mo_hof σ (σ.1 60 0 k)) (mo_hof σ (σ.1 60 0 k)) s) s) 0 (k + 1) = mo_fo (fun k s => mo_ite (σ.1 59 0 k = a ∧ σ.1 63 0 k ≤ c ∧ (σ.1 61 0 k ≤ b ∧ b ≤ σ.1 62 0 k)) (mo_ite (s < mo_hof σ (σ.1 60 0 k)) (mo_hof σ (σ.1 60 0 k)) s) s) 0 k := mo_ite_f (by ((try simp only [hkc, mo_bl0, Classical.not_not, ← Int32.not_lt] at c2 c3 ⊢); (try clear ih); (try clear hih); clear hK hQ; grind)); rw [nI_succ, e] at hih; refine hK _ _ _ _ (show mo_X g t_X12_hasOf Q 6 [some (.inr (.inr (50, 0))), some (.inl a), some (.inl b), some (.inl c), some (.inl (mo_fo (fun k s => mo_ite (σ.1 59 0 k = a ∧ σ.1 63 0 k ≤ c ∧ (σ.1 61 0 k ≤ b ∧ b ≤ σ.1 62 0 k)) (mo_ite (s < mo_hof σ (σ.1 60 0 k)) (mo_hof σ (σ.1 60 0 k)) s) s) 0 k)), some (.inl ((nI k) + (1 : Int32))), none] [] (σ) from ?_); (try simp only [hkc]); refine mo_wk ?_ hih; exact And.intro rfl (And.intro rfl (And.intro rfl (And.intro rfl (And.intro rfl (And.intro rfl (trivial)))))))
        · refine And.intro (show vp_in (nI k) 100 by exact mo_inN (by omega) (by decide)) ?_
          refine And.intro (show vp_in (nI k) 100 by exact mo_inN (by omega) (by decide)) ?_
          refine Exists.intro b (Exists.intro (σ.1 61 0 ((nI k).toNatClampNeg)) (Exists.intro (σ.1 62 0 ((nI k).toNatClampNeg)) (And.intro rfl (And.intro (show True by trivial) ?_))))
          refine And.intro (fun (c4 : ¬ (mo_bl ((σ.1 61 0 ((nI k).toNatClampNeg)) ≤ b ∧ b ≤ (σ.1 62 0 ((nI k).toNatClampNeg)))) = 0) => ?_) (fun (c4 : (mo_bl ((σ.1 61 0 ((nI k).toNatClampNeg)) ≤ b ∧ b ≤ (σ.1 62 0 ((nI k).toNatClampNeg)))) = 0) => ?_)
          · refine And.intro (show vp_in (nI k) 100 by exact mo_inN (by omega) (by decide)) ?_
            refine Exists.intro (σ.1 60 0 ((nI k).toNatClampNeg)) (And.intro rfl (And.intro (show vp_in (σ.1 60 0 ((nI k).toNatClampNeg)) 60 by rw [hkc]; exact hin k hk) ?_))
            refine And.intro (fun (c5 : (mo_hof σ (σ.1 60 0 ((nI k).toNatClampNeg))) ≤ (mo_fo (fun k s => mo_ite (σ.1 59 0 k = a ∧ σ.1 63 0 k ≤ c ∧ (σ.1 61 0 k ≤ b ∧ b ≤ σ.1 62 0 k)) (mo_ite (s < mo_hof σ (σ.1 60 0 k)) (mo_hof σ (σ.1 60 0 k)) s) s) 0 k)) => ?_) (fun (c5 : ¬ (mo_hof σ (σ.1 60 0 ((nI k).toNatClampNeg))) ≤ (mo_fo (fun k s => mo_ite (σ.1 59 0 k = a ∧ σ.1 63 0 k ≤ c ∧ (σ.1 61 0 k ≤ b ∧ b ≤ σ.1 62 0 k)) (mo_ite (s < mo_hof σ (σ.1 60 0 k)) (mo_hof σ (σ.1 60 0 k)) s) s) 0 k)) => ?_)
            · (have hih := ih (k + 1) (by omega) (by omega) trivial; have e : mo_fo (fun k s => mo_ite (σ.1 59 0 k = a ∧ σ.1 63 0 k ≤ c ∧ (σ.1 61 0 k ≤ b ∧ b ≤ σ.1 62 0 k)) (mo_ite (s < mo_hof σ (σ.1 60 0 k)) (mo_hof σ (σ.1 60 0 k)) s) s) 0 (k + 1) = mo_fo (fun k s => mo_ite (σ.1 59 0 k = a ∧ σ.1 63 0 k ≤ c ∧ (σ.1 61 0 k ≤ b ∧ b ≤ σ.1 62 0 k)) (mo_ite (s < mo_hof σ (σ.1 60 0 k)) (mo_hof σ (σ.1 60 0 k)) s) s) 0 k := (mo_ite_t (by ((try simp only [hkc, mo_bl0, Classical.not_not, ← Int32.not_lt] at c2 c3 c4 ⊢); (try clear ih); (try clear hih); clear hK hQ; grind))).trans (mo_ite_f (by ((try simp only [hkc, mo_bl0, Classical.not_not, ← Int32.not_lt] at c5 ⊢); (try clear ih); (try clear hih); clear hK hQ; grind))); rw [nI_succ, e] at hih; refine hK _ _ _ _ (show mo_X g t_X12_hasOf Q 6 [some (.inr (.inr (50, 0))), some (.inl a), some (.inl b), some (.inl c), some (.inl (mo_fo (fun k s => mo_ite (σ.1 59 0 k = a ∧ σ.1 63 0 k ≤ c ∧ (σ.1 61 0 k ≤ b ∧ b ≤ σ.1 62 0 k)) (mo_ite (s < mo_hof σ (σ.1 60 0 k)) (mo_hof σ (σ.1 60 0 k)) s) s) 0 k)), some (.inl ((nI k) + (1 : Int32))), some (.inl (mo_hof σ (σ.1 60 0 ((nI k).toNatClampNeg))))] [] (σ) from ?_); (try simp only [hkc]); refine mo_wk ?_ hih; exact And.intro rfl (And.intro rfl (And.intro rfl (And.intro rfl (And.intro rfl (And.intro rfl (trivial)))))))
            · (have hih := ih (k + 1) (by omega) (by omega) trivial; have e : mo_fo (fun k s => mo_ite (σ.1 59 0 k = a ∧ σ.1 63 0 k ≤ c ∧ (σ.1 61 0 k ≤ b ∧ b ≤ σ.1 62 0 k)) (mo_ite (s < mo_hof σ (σ.1 60 0 k)) (mo_hof σ (σ.1 60 0 k)) s) s) 0 (k + 1) = mo_hof σ (σ.1 60 0 (k)) := (mo_ite_t (by ((try simp only [hkc, mo_bl0, Classical.not_not, ← Int32.not_lt] at c2 c3 c4 ⊢); (try clear ih); (try clear hih); clear hK hQ; grind))).trans (mo_ite_t (by ((try simp only [hkc, mo_bl0, Classical.not_not, ← Int32.not_lt] at c5 ⊢); (try clear ih); (try clear hih); clear hK hQ; grind))); rw [nI_succ, e] at hih; refine hK _ _ _ _ (show mo_X g t_X12_hasOf Q 6 [some (.inr (.inr (50, 0))), some (.inl a), some (.inl b), some (.inl c), some (.inl (mo_hof σ (σ.1 60 0 ((nI k).toNatClampNeg)))), some (.inl ((nI k) + (1 : Int32))), some (.inl (mo_hof σ (σ.1 60 0 ((nI k).toNatClampNeg))))] [] (σ) from ?_); (try simp only [hkc]); refine mo_wk ?_ hih; exact And.intro rfl (And.intro rfl (And.intro rfl (And.intro rfl (And.intro rfl (And.intro rfl (trivial)))))))
          · (have hih := ih (k + 1) (by omega) (by omega) trivial; have e : mo_fo (fun k s => mo_ite (σ.1 59 0 k = a ∧ σ.1 63 0 k ≤ c ∧ (σ.1 61 0 k ≤ b ∧ b ≤ σ.1 62 0 k)) (mo_ite (s < mo_hof σ (σ.1 60 0 k)) (mo_hof σ (σ.1 60 0 k)) s) s) 0 (k + 1) = mo_fo (fun k s => mo_ite (σ.1 59 0 k = a ∧ σ.1 63 0 k ≤ c ∧ (σ.1 61 0 k ≤ b ∧ b ≤ σ.1 62 0 k)) (mo_ite (s < mo_hof σ (σ.1 60 0 k)) (mo_hof σ (σ.1 60 0 k)) s) s) 0 k := mo_ite_f (by ((try simp only [hkc, mo_bl0, Classical.not_not, ← Int32.not_lt] at c2 c3 c4 ⊢); (try clear ih); (try clear hih); clear hK hQ; grind)); rw [nI_succ, e] at hih; refine hK _ _ _ _ (show mo_X g t_X12_hasOf Q 6 [some (.inr (.inr (50, 0))), some (.inl a), some (.inl b), some (.inl c), some (.inl (mo_fo (fun k s => mo_ite (σ.1 59 0 k = a ∧ σ.1 63 0 k ≤ c ∧ (σ.1 61 0 k ≤ b ∧ b ≤ σ.1 62 0 k)) (mo_ite (s < mo_hof σ (σ.1 60 0 k)) (mo_hof σ (σ.1 60 0 k)) s) s) 0 k)), some (.inl ((nI k) + (1 : Int32))), none] [] (σ) from ?_); (try simp only [hkc]); refine mo_wk ?_ hih; exact And.intro rfl (And.intro rfl (And.intro rfl (And.intro rfl (And.intro rfl (And.intro rfl (trivial)))))))
set_option maxRecDepth 20000 in
set_option maxHeartbeats 2000000 in
theorem ct_X12_hasOf : mo_ct yX12_hasOf t_X12_hasOf S_X12_hasOf := by
  refine mo_ct_of (by decide) rfl ?_
  rintro g as σ Q ⟨a, b, c, rfl, hpre, hQ⟩
  refine ⟨Nat.le_of_ble_eq_true rfl, mo_go ok_X12_hasOf (cs_X12_hasOf_ok g) [6] 51 ?_⟩
  intro K hK
  exact hK _ _ _ _ (lp_X12_hasOf g σ Q a b c _ hpre.1.1 hpre.1.2 hpre.2 hQ ((σ.1 50 0 12).toNatClampNeg + 1) 0 (by omega) (by omega) trivial)
end
section
def S_X12_pairs : mo_S := fun as σ Q => ∃ a : Int32, ∃ b : Int32, ∃ c : Int32, as = [.inr (.inr (50, 0)), .inl a, .inl b, .inl c] ∧ ((0 ≤ c ∧ c ≤ (10000 : Int32) → ((¬ (0 ≤ a ∧ a ≤ σ.1 50 0 1 - 1) → Q (some (.inl (-2 : Int32))) (σ)) ∧ (0 ≤ a ∧ a ≤ σ.1 50 0 1 - 1 → ((0 ≤ b ∧ b ≤ σ.1 50 0 1 - 1 → ((¬ a = b → Q (some (.inl (0 : Int32))) (σ)) ∧ (a = b → Q (some (.inl (-4 : Int32))) (σ)))) ∧ (¬ (0 ≤ b ∧ b ≤ σ.1 50 0 1 - 1) → Q (some (.inl (-2 : Int32))) (σ)))))) ∧ (¬ (0 ≤ c ∧ c ≤ (10000 : Int32)) → Q (some (.inl (-1 : Int32))) (σ)))
theorem m_X12_pairs : ∀ (as : List mo_V) (σ : mo_M) (P P' : mo_Q), (∀ x τ, P x τ → P' x τ) → S_X12_pairs as σ P → S_X12_pairs as σ P' := by
  rintro as σ P P' hm ⟨a, b, c, e, hq⟩
  exact ⟨a, b, c, e, ⟨fun c1 => ⟨fun c2 => hm _ _ ((hq.1 c1).1 c2), fun c2 => ⟨fun c3 => ⟨fun c4 => hm _ _ ((((hq.1 c1).2 c2).1 c3).1 c4), fun c4 => hm _ _ ((((hq.1 c1).2 c2).1 c3).2 c4)⟩, fun c3 => hm _ _ (((hq.1 c1).2 c2).2 c3)⟩⟩, fun c1 => hm _ _ (hq.2 c1)⟩⟩
def cs_X12_pairs : Nat → mo_C := fun j => match j with
  | 0 => (1, false, 141, 50, S_X12_isDay)
  | 1 => (2, true, 129, 12, S_X12_isPart)
  | _ => (0, false, 0, 50, fun _ _ _ => False)
theorem cs_X12_pairs_ok (g : mo_E) : ∀ j, mo_cok g t_X12_pairs (cs_X12_pairs j) ∧ mo_mon (cs_X12_pairs j) := by
  intro j
  unfold cs_X12_pairs
  split
  · exact ⟨mo_cokS ct_X12_isDay (by decide +kernel), m_X12_isDay⟩
  · exact ⟨mo_cokV ct_X12_isPart (by decide) ⟨_, _, rfl⟩ (by decide +kernel), m_X12_isPart⟩
  · exact ⟨mo_cok0 g _, mo_mon0⟩
set_option maxRecDepth 20000 in
set_option maxHeartbeats 2000000 in
theorem ct_X12_pairs : mo_ct yX12_pairs t_X12_pairs S_X12_pairs := by
  refine mo_ct_of (by decide) rfl ?_
  rintro g as σ Q ⟨a, b, c, rfl, hQ⟩
  refine ⟨Nat.le_of_ble_eq_true rfl, mo_go ok_X12_pairs (cs_X12_pairs_ok g) [] 23 ?_⟩
  intro K hK
  refine Exists.intro c (And.intro rfl (And.intro trivial ?_))
  refine And.intro (fun (c1 : ¬ (mo_bl (0 ≤ c ∧ c ≤ (10000 : Int32))) = 0) => ?_) (fun (c1 : (mo_bl (0 ≤ c ∧ c ≤ (10000 : Int32))) = 0) => ?_)
  · replace c1 : 0 ≤ c ∧ c ≤ (10000 : Int32) := mo_blT c1
    refine Exists.intro a (And.intro rfl (And.intro trivial ?_))
    refine And.intro (fun (c2 : (mo_bl (0 ≤ a ∧ a ≤ σ.1 50 0 1 - 1)) = 0) => ?_) (fun (c2 : ¬ (mo_bl (0 ≤ a ∧ a ≤ σ.1 50 0 1 - 1)) = 0) => ?_)
    · replace c2 : ¬ (0 ≤ a ∧ a ≤ σ.1 50 0 1 - 1) := mo_bl0.mp c2
      exact ((hQ.1 c1).1 c2)
    · replace c2 : 0 ≤ a ∧ a ≤ σ.1 50 0 1 - 1 := mo_blT c2
      refine Exists.intro b (And.intro rfl (And.intro trivial ?_))
      refine And.intro (fun (c3 : ¬ (mo_bl (0 ≤ b ∧ b ≤ σ.1 50 0 1 - 1)) = 0) => ?_) (fun (c3 : (mo_bl (0 ≤ b ∧ b ≤ σ.1 50 0 1 - 1)) = 0) => ?_)
      · replace c3 : 0 ≤ b ∧ b ≤ σ.1 50 0 1 - 1 := mo_blT c3
        refine And.intro (fun (c4 : ¬ a = b) => ?_) (fun (c4 : a = b) => ?_)
        · exact ((((hQ.1 c1).2 c2).1 c3).1 c4)
        · exact ((((hQ.1 c1).2 c2).1 c3).2 c4)
      · replace c3 : ¬ (0 ≤ b ∧ b ≤ σ.1 50 0 1 - 1) := mo_bl0.mp c3
        exact (((hQ.1 c1).2 c2).2 c3)
  · replace c1 : ¬ (0 ≤ c ∧ c ≤ (10000 : Int32)) := mo_bl0.mp c1
    exact (hQ.2 c1)
def S_X12_join : mo_S := fun as σ Q => ∃ a : Int32, ∃ b : Int32, ∃ c : Int32, as = [.inr (.inr (50, 0)), .inl a, .inl b, .inl c] ∧ ((0 ≤ c ∧ c ≤ (10000 : Int32) → ((¬ (0 ≤ a ∧ a ≤ σ.1 50 0 1 - 1) → Q (some (.inl (-2 : Int32))) (mo_wI σ 50 0 0 (if (-2 : Int32) < 0 then (-2 : Int32) else 0))) ∧ (0 ≤ a ∧ a ≤ σ.1 50 0 1 - 1 → ((0 ≤ b ∧ b ≤ σ.1 50 0 1 - 1 → ((¬ a = b → ((¬ (σ.1 50 0 18) = (40 : Int32) → (vp_in (σ.1 50 0 18) 40 ∧ (vp_in (σ.1 50 0 18) 40 ∧ (vp_in (σ.1 50 0 18) 40 ∧ Q (some (.inl ((((σ.1 50 0 18) + (1 : Int32)) - (1 : Int32))))) (mo_wI (mo_wI (mo_wI (mo_wI (mo_wI σ 64 0 ((σ.1 50 0 18).toNatClampNeg) a) 65 0 ((σ.1 50 0 18).toNatClampNeg) b) 66 0 ((σ.1 50 0 18).toNatClampNeg) c) 50 0 18 ((σ.1 50 0 18) + (1 : Int32))) 50 0 0 (if (((σ.1 50 0 18) + (1 : Int32)) - (1 : Int32)) < 0 then (((σ.1 50 0 18) + (1 : Int32)) - (1 : Int32)) else 0)))))) ∧ ((σ.1 50 0 18) = (40 : Int32) → Q (some (.inl (-5 : Int32))) (mo_wI σ 50 0 0 (if (-5 : Int32) < 0 then (-5 : Int32) else 0))))) ∧ (a = b → Q (some (.inl (-4 : Int32))) (mo_wI σ 50 0 0 (if (-4 : Int32) < 0 then (-4 : Int32) else 0))))) ∧ (¬ (0 ≤ b ∧ b ≤ σ.1 50 0 1 - 1) → Q (some (.inl (-2 : Int32))) (mo_wI σ 50 0 0 (if (-2 : Int32) < 0 then (-2 : Int32) else 0))))))) ∧ (¬ (0 ≤ c ∧ c ≤ (10000 : Int32)) → Q (some (.inl (-1 : Int32))) (mo_wI σ 50 0 0 (if (-1 : Int32) < 0 then (-1 : Int32) else 0))))
theorem m_X12_join : ∀ (as : List mo_V) (σ : mo_M) (P P' : mo_Q), (∀ x τ, P x τ → P' x τ) → S_X12_join as σ P → S_X12_join as σ P' := by
  rintro as σ P P' hm ⟨a, b, c, e, hq⟩
  exact ⟨a, b, c, e, ⟨fun c1 => ⟨fun c2 => hm _ _ ((hq.1 c1).1 c2), fun c2 => ⟨fun c3 => ⟨fun c4 => ⟨fun c6 => ⟨(((((hq.1 c1).2 c2).1 c3).1 c4).1 c6).1, ⟨(((((hq.1 c1).2 c2).1 c3).1 c4).1 c6).2.1, ⟨(((((hq.1 c1).2 c2).1 c3).1 c4).1 c6).2.2.1, hm _ _ (((((hq.1 c1).2 c2).1 c3).1 c4).1 c6).2.2.2⟩⟩⟩, fun c6 => hm _ _ (((((hq.1 c1).2 c2).1 c3).1 c4).2 c6)⟩, fun c4 => hm _ _ ((((hq.1 c1).2 c2).1 c3).2 c4)⟩, fun c3 => hm _ _ (((hq.1 c1).2 c2).2 c3)⟩⟩, fun c1 => hm _ _ (hq.2 c1)⟩⟩
def cs_X12_join : Nat → mo_C := fun j => match j with
  | 0 => (4, true, 157, 12, S_X12_pairs)
  | 1 => (2, true, 122, 12, S_X12_ends)
  | _ => (0, false, 0, 50, fun _ _ _ => False)
theorem cs_X12_join_ok (g : mo_E) : ∀ j, mo_cok g t_X12_join (cs_X12_join j) ∧ mo_mon (cs_X12_join j) := by
  intro j
  unfold cs_X12_join
  split
  · exact ⟨mo_cokV ct_X12_pairs (by decide) ⟨_, _, rfl⟩ (by decide +kernel), m_X12_pairs⟩
  · exact ⟨mo_cokV ct_X12_ends (by decide) ⟨_, _, rfl⟩ (by decide +kernel), m_X12_ends⟩
  · exact ⟨mo_cok0 g _, mo_mon0⟩
set_option maxRecDepth 20000 in
set_option maxHeartbeats 2000000 in
theorem ct_X12_join : mo_ct yX12_join t_X12_join S_X12_join := by
  refine mo_ct_of (by decide) rfl ?_
  rintro g as σ Q ⟨a, b, c, rfl, hQ⟩
  refine ⟨Nat.le_of_ble_eq_true rfl, mo_go ok_X12_join (cs_X12_join_ok g) [] 52 ?_⟩
  intro K hK
  refine Exists.intro a (Exists.intro b (Exists.intro c (And.intro rfl ?_)))
  refine And.intro (fun (c1 : 0 ≤ c ∧ c ≤ (10000 : Int32)) => ?_) (fun (c1 : ¬ (0 ≤ c ∧ c ≤ (10000 : Int32))) => ?_)
  · refine And.intro (fun (c2 : ¬ (0 ≤ a ∧ a ≤ σ.1 50 0 1 - 1)) => ?_) (fun (c2 : 0 ≤ a ∧ a ≤ σ.1 50 0 1 - 1) => ?_)
    · refine And.intro (fun (c3 : 0 ≤ (-2 : Int32)) => ?_) (fun (c3 : ¬ 0 ≤ (-2 : Int32)) => ?_)
      · exact absurd c3 (by decide)
      · refine Exists.intro (-2 : Int32) (And.intro rfl (And.intro trivial ?_))
        exact ((hQ.1 c1).1 c2)
    · refine And.intro (fun (c3 : 0 ≤ b ∧ b ≤ σ.1 50 0 1 - 1) => ?_) (fun (c3 : ¬ (0 ≤ b ∧ b ≤ σ.1 50 0 1 - 1)) => ?_)
      · refine And.intro (fun (c4 : ¬ a = b) => ?_) (fun (c4 : a = b) => ?_)
        · refine And.intro (fun (c5 : 0 ≤ (0 : Int32)) => ?_) (fun (c5 : ¬ 0 ≤ (0 : Int32)) => ?_)
          · refine And.intro (fun (c6 : ¬ (σ.1 50 0 18) = (40 : Int32)) => ?_) (fun (c6 : (σ.1 50 0 18) = (40 : Int32)) => ?_)
            · refine And.intro (show vp_in (σ.1 50 0 18) 40 from (((((hQ.1 c1).2 c2).1 c3).1 c4).1 c6).1) ?_
              refine And.intro (show vp_in (σ.1 50 0 18) 40 from (((((hQ.1 c1).2 c2).1 c3).1 c4).1 c6).2.1) ?_
              refine And.intro (show vp_in (σ.1 50 0 18) 40 from (((((hQ.1 c1).2 c2).1 c3).1 c4).1 c6).2.2.1) ?_
              refine Exists.intro (((σ.1 50 0 18) + (1 : Int32)) - (1 : Int32)) (And.intro rfl (And.intro trivial ?_))
              exact (((((hQ.1 c1).2 c2).1 c3).1 c4).1 c6).2.2.2
            · refine Exists.intro (-5 : Int32) (And.intro rfl (And.intro trivial ?_))
              exact (((((hQ.1 c1).2 c2).1 c3).1 c4).2 c6)
          · exact absurd c5 (by decide)
        · refine And.intro (fun (c5 : 0 ≤ (-4 : Int32)) => ?_) (fun (c5 : ¬ 0 ≤ (-4 : Int32)) => ?_)
          · exact absurd c5 (by decide)
          · refine Exists.intro (-4 : Int32) (And.intro rfl (And.intro trivial ?_))
            exact ((((hQ.1 c1).2 c2).1 c3).2 c4)
      · refine And.intro (fun (c4 : 0 ≤ (-2 : Int32)) => ?_) (fun (c4 : ¬ 0 ≤ (-2 : Int32)) => ?_)
        · exact absurd c4 (by decide)
        · refine Exists.intro (-2 : Int32) (And.intro rfl (And.intro trivial ?_))
          exact (((hQ.1 c1).2 c2).2 c3)
  · refine And.intro (fun (c2 : 0 ≤ (-1 : Int32)) => ?_) (fun (c2 : ¬ 0 ≤ (-1 : Int32)) => ?_)
    · exact absurd c2 (by decide)
    · refine Exists.intro (-1 : Int32) (And.intro rfl (And.intro trivial ?_))
      exact (hQ.2 c1)
def S_X12_unlike : mo_S := fun as σ Q => ∃ a : Int32, ∃ b : Int32, ∃ c : Int32, as = [.inr (.inr (50, 0)), .inl a, .inl b, .inl c] ∧ ((0 ≤ c ∧ c ≤ (10000 : Int32) → ((¬ (0 ≤ a ∧ a ≤ σ.1 50 0 1 - 1) → Q (some (.inl (-2 : Int32))) (mo_wI σ 50 0 0 (if (-2 : Int32) < 0 then (-2 : Int32) else 0))) ∧ (0 ≤ a ∧ a ≤ σ.1 50 0 1 - 1 → ((0 ≤ b ∧ b ≤ σ.1 50 0 1 - 1 → ((¬ a = b → ((¬ (σ.1 50 0 19) = (40 : Int32) → (vp_in (σ.1 50 0 19) 40 ∧ (vp_in (σ.1 50 0 19) 40 ∧ (vp_in (σ.1 50 0 19) 40 ∧ Q (some (.inl (((σ.1 50 0 19) + (1 : Int32))))) (mo_wI (mo_wI (mo_wI (mo_wI (mo_wI σ 68 0 ((σ.1 50 0 19).toNatClampNeg) a) 69 0 ((σ.1 50 0 19).toNatClampNeg) b) 70 0 ((σ.1 50 0 19).toNatClampNeg) c) 50 0 19 ((σ.1 50 0 19) + (1 : Int32))) 50 0 0 (if ((σ.1 50 0 19) + (1 : Int32)) < 0 then ((σ.1 50 0 19) + (1 : Int32)) else 0)))))) ∧ ((σ.1 50 0 19) = (40 : Int32) → Q (some (.inl (-5 : Int32))) (mo_wI σ 50 0 0 (if (-5 : Int32) < 0 then (-5 : Int32) else 0))))) ∧ (a = b → Q (some (.inl (-4 : Int32))) (mo_wI σ 50 0 0 (if (-4 : Int32) < 0 then (-4 : Int32) else 0))))) ∧ (¬ (0 ≤ b ∧ b ≤ σ.1 50 0 1 - 1) → Q (some (.inl (-2 : Int32))) (mo_wI σ 50 0 0 (if (-2 : Int32) < 0 then (-2 : Int32) else 0))))))) ∧ (¬ (0 ≤ c ∧ c ≤ (10000 : Int32)) → Q (some (.inl (-1 : Int32))) (mo_wI σ 50 0 0 (if (-1 : Int32) < 0 then (-1 : Int32) else 0))))
theorem m_X12_unlike : ∀ (as : List mo_V) (σ : mo_M) (P P' : mo_Q), (∀ x τ, P x τ → P' x τ) → S_X12_unlike as σ P → S_X12_unlike as σ P' := by
  rintro as σ P P' hm ⟨a, b, c, e, hq⟩
  exact ⟨a, b, c, e, ⟨fun c1 => ⟨fun c2 => hm _ _ ((hq.1 c1).1 c2), fun c2 => ⟨fun c3 => ⟨fun c4 => ⟨fun c6 => ⟨(((((hq.1 c1).2 c2).1 c3).1 c4).1 c6).1, ⟨(((((hq.1 c1).2 c2).1 c3).1 c4).1 c6).2.1, ⟨(((((hq.1 c1).2 c2).1 c3).1 c4).1 c6).2.2.1, hm _ _ (((((hq.1 c1).2 c2).1 c3).1 c4).1 c6).2.2.2⟩⟩⟩, fun c6 => hm _ _ (((((hq.1 c1).2 c2).1 c3).1 c4).2 c6)⟩, fun c4 => hm _ _ ((((hq.1 c1).2 c2).1 c3).2 c4)⟩, fun c3 => hm _ _ (((hq.1 c1).2 c2).2 c3)⟩⟩, fun c1 => hm _ _ (hq.2 c1)⟩⟩
def cs_X12_unlike : Nat → mo_C := fun j => match j with
  | 0 => (4, true, 157, 12, S_X12_pairs)
  | 1 => (2, true, 122, 12, S_X12_ends)
  | _ => (0, false, 0, 50, fun _ _ _ => False)
theorem cs_X12_unlike_ok (g : mo_E) : ∀ j, mo_cok g t_X12_unlike (cs_X12_unlike j) ∧ mo_mon (cs_X12_unlike j) := by
  intro j
  unfold cs_X12_unlike
  split
  · exact ⟨mo_cokV ct_X12_pairs (by decide) ⟨_, _, rfl⟩ (by decide +kernel), m_X12_pairs⟩
  · exact ⟨mo_cokV ct_X12_ends (by decide) ⟨_, _, rfl⟩ (by decide +kernel), m_X12_ends⟩
  · exact ⟨mo_cok0 g _, mo_mon0⟩
set_option maxRecDepth 20000 in
set_option maxHeartbeats 2000000 in
theorem ct_X12_unlike : mo_ct yX12_unlike t_X12_unlike S_X12_unlike := by
  refine mo_ct_of (by decide) rfl ?_
  rintro g as σ Q ⟨a, b, c, rfl, hQ⟩
  refine ⟨Nat.le_of_ble_eq_true rfl, mo_go ok_X12_unlike (cs_X12_unlike_ok g) [] 50 ?_⟩
  intro K hK
  refine Exists.intro a (Exists.intro b (Exists.intro c (And.intro rfl ?_)))
  refine And.intro (fun (c1 : 0 ≤ c ∧ c ≤ (10000 : Int32)) => ?_) (fun (c1 : ¬ (0 ≤ c ∧ c ≤ (10000 : Int32))) => ?_)
  · refine And.intro (fun (c2 : ¬ (0 ≤ a ∧ a ≤ σ.1 50 0 1 - 1)) => ?_) (fun (c2 : 0 ≤ a ∧ a ≤ σ.1 50 0 1 - 1) => ?_)
    · refine And.intro (fun (c3 : 0 ≤ (-2 : Int32)) => ?_) (fun (c3 : ¬ 0 ≤ (-2 : Int32)) => ?_)
      · exact absurd c3 (by decide)
      · refine Exists.intro (-2 : Int32) (And.intro rfl (And.intro trivial ?_))
        exact ((hQ.1 c1).1 c2)
    · refine And.intro (fun (c3 : 0 ≤ b ∧ b ≤ σ.1 50 0 1 - 1) => ?_) (fun (c3 : ¬ (0 ≤ b ∧ b ≤ σ.1 50 0 1 - 1)) => ?_)
      · refine And.intro (fun (c4 : ¬ a = b) => ?_) (fun (c4 : a = b) => ?_)
        · refine And.intro (fun (c5 : 0 ≤ (0 : Int32)) => ?_) (fun (c5 : ¬ 0 ≤ (0 : Int32)) => ?_)
          · refine And.intro (fun (c6 : ¬ (σ.1 50 0 19) = (40 : Int32)) => ?_) (fun (c6 : (σ.1 50 0 19) = (40 : Int32)) => ?_)
            · refine And.intro (show vp_in (σ.1 50 0 19) 40 from (((((hQ.1 c1).2 c2).1 c3).1 c4).1 c6).1) ?_
              refine And.intro (show vp_in (σ.1 50 0 19) 40 from (((((hQ.1 c1).2 c2).1 c3).1 c4).1 c6).2.1) ?_
              refine And.intro (show vp_in (σ.1 50 0 19) 40 from (((((hQ.1 c1).2 c2).1 c3).1 c4).1 c6).2.2.1) ?_
              refine Exists.intro ((σ.1 50 0 19) + (1 : Int32)) (And.intro rfl (And.intro trivial ?_))
              exact (((((hQ.1 c1).2 c2).1 c3).1 c4).1 c6).2.2.2
            · refine Exists.intro (-5 : Int32) (And.intro rfl (And.intro trivial ?_))
              exact (((((hQ.1 c1).2 c2).1 c3).1 c4).2 c6)
          · exact absurd c5 (by decide)
        · refine And.intro (fun (c5 : 0 ≤ (-4 : Int32)) => ?_) (fun (c5 : ¬ 0 ≤ (-4 : Int32)) => ?_)
          · exact absurd c5 (by decide)
          · refine Exists.intro (-4 : Int32) (And.intro rfl (And.intro trivial ?_))
            exact ((((hQ.1 c1).2 c2).1 c3).2 c4)
      · refine And.intro (fun (c4 : 0 ≤ (-2 : Int32)) => ?_) (fun (c4 : ¬ 0 ≤ (-2 : Int32)) => ?_)
        · exact absurd c4 (by decide)
        · refine Exists.intro (-2 : Int32) (And.intro rfl (And.intro trivial ?_))
          exact (((hQ.1 c1).2 c2).2 c3)
  · refine And.intro (fun (c2 : 0 ≤ (-1 : Int32)) => ?_) (fun (c2 : ¬ 0 ≤ (-1 : Int32)) => ?_)
    · exact absurd c2 (by decide)
    · refine Exists.intro (-1 : Int32) (And.intro rfl (And.intro trivial ?_))
      exact (hQ.2 c1)
def S_X12_told : mo_S := fun as σ Q => ∃ a : Int32, as = [.inr (.inr (50, 0)), .inl a] ∧ ((¬ (0 ≤ a ∧ a ≤ σ.1 50 0 36 - 1) → Q (some (.inl (0 : Int32))) (σ)) ∧ (0 ≤ a ∧ a ≤ σ.1 50 0 36 - 1 → (vp_in a 20 ∧ Q (some (.inl (σ.1 78 0 a.toNatClampNeg))) (σ))))
theorem m_X12_told : ∀ (as : List mo_V) (σ : mo_M) (P P' : mo_Q), (∀ x τ, P x τ → P' x τ) → S_X12_told as σ P → S_X12_told as σ P' := by
  rintro as σ P P' hm ⟨a, e, hq⟩
  exact ⟨a, e, ⟨fun c1 => hm _ _ (hq.1 c1), fun c1 => ⟨(hq.2 c1).1, hm _ _ (hq.2 c1).2⟩⟩⟩
def cs_X12_told : Nat → mo_C := fun j => match j with
  | 0 => (2, true, 249, 12, S_X12_isWarning)
  | _ => (0, false, 0, 50, fun _ _ _ => False)
theorem cs_X12_told_ok (g : mo_E) : ∀ j, mo_cok g t_X12_told (cs_X12_told j) ∧ mo_mon (cs_X12_told j) := by
  intro j
  unfold cs_X12_told
  split
  · exact ⟨mo_cokV ct_X12_isWarning (by decide) ⟨_, _, rfl⟩ (by decide +kernel), m_X12_isWarning⟩
  · exact ⟨mo_cok0 g _, mo_mon0⟩
set_option maxRecDepth 20000 in
set_option maxHeartbeats 2000000 in
theorem ct_X12_told : mo_ct yX12_told t_X12_told S_X12_told := by
  refine mo_ct_of (by decide) rfl ?_
  rintro g as σ Q ⟨a, rfl, hQ⟩
  refine ⟨Nat.le_of_ble_eq_true rfl, mo_go ok_X12_told (cs_X12_told_ok g) [] 12 ?_⟩
  intro K hK
  refine Exists.intro a (And.intro rfl (And.intro trivial ?_))
  refine And.intro (fun (c1 : (mo_bl (0 ≤ a ∧ a ≤ σ.1 50 0 36 - 1)) = 0) => ?_) (fun (c1 : ¬ (mo_bl (0 ≤ a ∧ a ≤ σ.1 50 0 36 - 1)) = 0) => ?_)
  · replace c1 : ¬ (0 ≤ a ∧ a ≤ σ.1 50 0 36 - 1) := mo_bl0.mp c1
    exact (hQ.1 c1)
  · replace c1 : 0 ≤ a ∧ a ≤ σ.1 50 0 36 - 1 := mo_blT c1
    refine And.intro (show vp_in a 20 from (hQ.2 c1).1) ?_
    exact (hQ.2 c1).2
def S_X12_faults : mo_S := fun as σ Q => as = [.inr (.inr (50, 0))] ∧ ((¬ (σ.1 50 0 35 = (-1 : Int32)) → Q (none) (σ)) ∧ (σ.1 50 0 35 = (-1 : Int32) → Q (none) (mo_wI σ 50 0 35 (σ.1 50 0 32))))
theorem m_X12_faults : ∀ (as : List mo_V) (σ : mo_M) (P P' : mo_Q), (∀ x τ, P x τ → P' x τ) → S_X12_faults as σ P → S_X12_faults as σ P' := by
  rintro as σ P P' hm ⟨e, hq⟩
  exact ⟨e, ⟨fun c1 => hm _ _ (hq.1 c1), fun c1 => hm _ _ (hq.2 c1)⟩⟩
def cs_X12_faults : Nat → mo_C := fun j => match j with
  | 0 => (1, true, 198, 12, S_X12_good)
  | _ => (0, false, 0, 50, fun _ _ _ => False)
theorem cs_X12_faults_ok (g : mo_E) : ∀ j, mo_cok g t_X12_faults (cs_X12_faults j) ∧ mo_mon (cs_X12_faults j) := by
  intro j
  unfold cs_X12_faults
  split
  · exact ⟨mo_cokV ct_X12_good (by decide) ⟨_, _, rfl⟩ (by decide +kernel), m_X12_good⟩
  · exact ⟨mo_cok0 g _, mo_mon0⟩
set_option maxRecDepth 20000 in
set_option maxHeartbeats 2000000 in
theorem ct_X12_faults : mo_ct yX12_faults t_X12_faults S_X12_faults := by
  refine mo_ct_of (by decide) rfl ?_
  rintro g as σ Q ⟨rfl, hQ⟩
  refine ⟨Nat.le_of_ble_eq_true rfl, mo_go ok_X12_faults (cs_X12_faults_ok g) [] 9 ?_⟩
  intro K hK
  refine And.intro rfl (And.intro trivial ?_)
  refine And.intro (fun (c1 : (mo_bl (σ.1 50 0 35 = (-1 : Int32))) = 0) => ?_) (fun (c1 : ¬ (mo_bl (σ.1 50 0 35 = (-1 : Int32))) = 0) => ?_)
  · replace c1 : ¬ (σ.1 50 0 35 = (-1 : Int32)) := mo_bl0.mp c1
    exact (hQ.1 c1)
  · replace c1 : σ.1 50 0 35 = (-1 : Int32) := mo_blT c1
    exact (hQ.2 c1)
def S_X12_puts : mo_S := fun as σ Q => ∃ a : Int32, ∃ b : Int32, as = [.inr (.inr (50, 0)), .inl a, .inl b] ∧ ((σ.1 50 0 35 = (-1 : Int32) → (vp_in (((30 : Int32) * (σ.1 50 0 36)) + (σ.1 50 0 43)) 600 ∧ (vp_in (((30 : Int32) * (σ.1 50 0 36)) + (σ.1 50 0 43)) 600 ∧ (vp_in (((30 : Int32) * (σ.1 50 0 36)) + (σ.1 50 0 43)) 600 ∧ Q (none) (mo_wI (mo_wI (mo_wI (mo_wI σ 75 0 ((((30 : Int32) * (σ.1 50 0 36)) + (σ.1 50 0 43)).toNatClampNeg) a) 76 0 ((((30 : Int32) * (σ.1 50 0 36)) + (σ.1 50 0 43)).toNatClampNeg) b) 77 0 ((((30 : Int32) * (σ.1 50 0 36)) + (σ.1 50 0 43)).toNatClampNeg) (σ.1 50 0 44)) 50 0 43 ((σ.1 50 0 43) + (1 : Int32))))))) ∧ (¬ (σ.1 50 0 35 = (-1 : Int32)) → Q (none) (σ)))
theorem m_X12_puts : ∀ (as : List mo_V) (σ : mo_M) (P P' : mo_Q), (∀ x τ, P x τ → P' x τ) → S_X12_puts as σ P → S_X12_puts as σ P' := by
  rintro as σ P P' hm ⟨a, b, e, hq⟩
  exact ⟨a, b, e, ⟨fun c1 => ⟨(hq.1 c1).1, ⟨(hq.1 c1).2.1, ⟨(hq.1 c1).2.2.1, hm _ _ (hq.1 c1).2.2.2⟩⟩⟩, fun c1 => hm _ _ (hq.2 c1)⟩⟩
def cs_X12_puts : Nat → mo_C := fun j => match j with
  | 0 => (1, true, 198, 12, S_X12_good)
  | _ => (0, false, 0, 50, fun _ _ _ => False)
theorem cs_X12_puts_ok (g : mo_E) : ∀ j, mo_cok g t_X12_puts (cs_X12_puts j) ∧ mo_mon (cs_X12_puts j) := by
  intro j
  unfold cs_X12_puts
  split
  · exact ⟨mo_cokV ct_X12_good (by decide) ⟨_, _, rfl⟩ (by decide +kernel), m_X12_good⟩
  · exact ⟨mo_cok0 g _, mo_mon0⟩
set_option maxRecDepth 20000 in
set_option maxHeartbeats 2000000 in
theorem ct_X12_puts : mo_ct yX12_puts t_X12_puts S_X12_puts := by
  refine mo_ct_of (by decide) rfl ?_
  rintro g as σ Q ⟨a, b, rfl, hQ⟩
  refine ⟨Nat.le_of_ble_eq_true rfl, mo_go ok_X12_puts (cs_X12_puts_ok g) [] 36 ?_⟩
  intro K hK
  refine And.intro rfl (And.intro trivial ?_)
  refine And.intro (fun (c1 : ¬ (mo_bl (σ.1 50 0 35 = (-1 : Int32))) = 0) => ?_) (fun (c1 : (mo_bl (σ.1 50 0 35 = (-1 : Int32))) = 0) => ?_)
  · replace c1 : σ.1 50 0 35 = (-1 : Int32) := mo_blT c1
    refine And.intro (show vp_in (((30 : Int32) * (σ.1 50 0 36)) + (σ.1 50 0 43)) 600 from (hQ.1 c1).1) ?_
    refine And.intro (show vp_in (((30 : Int32) * (σ.1 50 0 36)) + (σ.1 50 0 43)) 600 from (hQ.1 c1).2.1) ?_
    refine And.intro (show vp_in (((30 : Int32) * (σ.1 50 0 36)) + (σ.1 50 0 43)) 600 from (hQ.1 c1).2.2.1) ?_
    exact (hQ.1 c1).2.2.2
  · replace c1 : ¬ (σ.1 50 0 35 = (-1 : Int32)) := mo_bl0.mp c1
    exact (hQ.2 c1)
def S_X7_kindAt : mo_S := fun as σ Q => ∃ a : Int32, as = [.inr (.inr (32, 0)), .inl a] ∧ ((a < (σ.1 30 0 1) → (vp_in a 200 ∧ (((σ.1 31 0 a.toNatClampNeg) < (97 : Int32) → (((σ.1 31 0 a.toNatClampNeg) < (48 : Int32) → Q (some (.inl (3 : Int32))) (σ)) ∧ (¬ (σ.1 31 0 a.toNatClampNeg) < (48 : Int32) → (((57 : Int32) < (σ.1 31 0 a.toNatClampNeg) → Q (some (.inl (3 : Int32))) (σ)) ∧ (¬ (57 : Int32) < (σ.1 31 0 a.toNatClampNeg) → Q (some (.inl (2 : Int32))) (σ)))))) ∧ (¬ (σ.1 31 0 a.toNatClampNeg) < (97 : Int32) → (((122 : Int32) < (σ.1 31 0 a.toNatClampNeg) → (((σ.1 31 0 a.toNatClampNeg) < (48 : Int32) → Q (some (.inl (3 : Int32))) (σ)) ∧ (¬ (σ.1 31 0 a.toNatClampNeg) < (48 : Int32) → (((57 : Int32) < (σ.1 31 0 a.toNatClampNeg) → Q (some (.inl (3 : Int32))) (σ)) ∧ (¬ (57 : Int32) < (σ.1 31 0 a.toNatClampNeg) → Q (some (.inl (2 : Int32))) (σ)))))) ∧ (¬ (122 : Int32) < (σ.1 31 0 a.toNatClampNeg) → Q (some (.inl (1 : Int32))) (σ))))))) ∧ (¬ a < (σ.1 30 0 1) → Q (some (.inl (0 : Int32))) (σ)))
theorem m_X7_kindAt : ∀ (as : List mo_V) (σ : mo_M) (P P' : mo_Q), (∀ x τ, P x τ → P' x τ) → S_X7_kindAt as σ P → S_X7_kindAt as σ P' := by
  rintro as σ P P' hm ⟨a, e, hq⟩
  exact ⟨a, e, ⟨fun c1 => ⟨(hq.1 c1).1, ⟨fun c2 => ⟨fun c3 => hm _ _ (((hq.1 c1).2.1 c2).1 c3), fun c3 => ⟨fun c4 => hm _ _ ((((hq.1 c1).2.1 c2).2 c3).1 c4), fun c4 => hm _ _ ((((hq.1 c1).2.1 c2).2 c3).2 c4)⟩⟩, fun c2 => ⟨fun c3 => ⟨fun c4 => hm _ _ ((((hq.1 c1).2.2 c2).1 c3).1 c4), fun c4 => ⟨fun c5 => hm _ _ (((((hq.1 c1).2.2 c2).1 c3).2 c4).1 c5), fun c5 => hm _ _ (((((hq.1 c1).2.2 c2).1 c3).2 c4).2 c5)⟩⟩, fun c3 => hm _ _ (((hq.1 c1).2.2 c2).2 c3)⟩⟩⟩, fun c1 => hm _ _ (hq.2 c1)⟩⟩
set_option maxRecDepth 20000 in
set_option maxHeartbeats 2000000 in
theorem ct_X7_kindAt : mo_ct yX7_kindAt t_X7_kindAt S_X7_kindAt := by
  refine mo_ct_of (by decide) rfl ?_
  rintro g as σ Q ⟨a, rfl, hQ⟩
  refine ⟨Nat.le_of_ble_eq_true rfl, mo_go ok_X7_kindAt (mo_no_ok g _) [] 32 ?_⟩
  intro K hK
  refine And.intro (fun (c1 : a < (σ.1 30 0 1)) => ?_) (fun (c1 : ¬ a < (σ.1 30 0 1)) => ?_)
  · refine And.intro (show vp_in a 200 from (hQ.1 c1).1) ?_
    refine And.intro (fun (c2 : (σ.1 31 0 a.toNatClampNeg) < (97 : Int32)) => ?_) (fun (c2 : ¬ (σ.1 31 0 a.toNatClampNeg) < (97 : Int32)) => ?_)
    · refine And.intro (fun (c3 : (σ.1 31 0 a.toNatClampNeg) < (48 : Int32)) => ?_) (fun (c3 : ¬ (σ.1 31 0 a.toNatClampNeg) < (48 : Int32)) => ?_)
      · exact (((hQ.1 c1).2.1 c2).1 c3)
      · refine And.intro (fun (c4 : (57 : Int32) < (σ.1 31 0 a.toNatClampNeg)) => ?_) (fun (c4 : ¬ (57 : Int32) < (σ.1 31 0 a.toNatClampNeg)) => ?_)
        · exact ((((hQ.1 c1).2.1 c2).2 c3).1 c4)
        · exact ((((hQ.1 c1).2.1 c2).2 c3).2 c4)
    · refine And.intro (fun (c3 : (122 : Int32) < (σ.1 31 0 a.toNatClampNeg)) => ?_) (fun (c3 : ¬ (122 : Int32) < (σ.1 31 0 a.toNatClampNeg)) => ?_)
      · refine And.intro (fun (c4 : (σ.1 31 0 a.toNatClampNeg) < (48 : Int32)) => ?_) (fun (c4 : ¬ (σ.1 31 0 a.toNatClampNeg) < (48 : Int32)) => ?_)
        · exact ((((hQ.1 c1).2.2 c2).1 c3).1 c4)
        · refine And.intro (fun (c5 : (57 : Int32) < (σ.1 31 0 a.toNatClampNeg)) => ?_) (fun (c5 : ¬ (57 : Int32) < (σ.1 31 0 a.toNatClampNeg)) => ?_)
          · exact (((((hQ.1 c1).2.2 c2).1 c3).2 c4).1 c5)
          · exact (((((hQ.1 c1).2.2 c2).1 c3).2 c4).2 c5)
      · exact (((hQ.1 c1).2.2 c2).2 c3)
  · exact (hQ.2 c1)
def S_X9_openTerm : mo_S := fun as σ Q => ∃ w : Nat, as = [.inr (.inr (39, w))] ∧ (w < 20 ∧ (((30 : Int32) ≤ (σ.1 39 w 2) → Q (none) (σ)) ∧ (¬ (30 : Int32) ≤ (σ.1 39 w 2) → (w < 20 ∧ (w < 20 ∧ (w < 20 ∧ (vp_in (σ.1 39 w 2) 30 ∧ (w < 20 ∧ (w < 20 ∧ (w < 20 ∧ (vp_in (σ.1 39 w 2) 30 ∧ (w < 20 ∧ (w < 20 ∧ Q (none) (mo_wI (mo_wI (mo_wI σ 40 w ((σ.1 39 w 2).toNatClampNeg) (0 : Int32)) 41 w ((σ.1 39 w 2).toNatClampNeg) (999999999 : Int32)) 39 w 2 ((σ.1 39 w 2) + (1 : Int32))))))))))))))))
theorem m_X9_openTerm : ∀ (as : List mo_V) (σ : mo_M) (P P' : mo_Q), (∀ x τ, P x τ → P' x τ) → S_X9_openTerm as σ P → S_X9_openTerm as σ P' := by
  rintro as σ P P' hm ⟨w, e, hq⟩
  exact ⟨w, e, ⟨hq.1, ⟨fun c1 => hm _ _ (hq.2.1 c1), fun c1 => ⟨(hq.2.2 c1).1, ⟨(hq.2.2 c1).2.1, ⟨(hq.2.2 c1).2.2.1, ⟨(hq.2.2 c1).2.2.2.1, ⟨(hq.2.2 c1).2.2.2.2.1, ⟨(hq.2.2 c1).2.2.2.2.2.1, ⟨(hq.2.2 c1).2.2.2.2.2.2.1, ⟨(hq.2.2 c1).2.2.2.2.2.2.2.1, ⟨(hq.2.2 c1).2.2.2.2.2.2.2.2.1, ⟨(hq.2.2 c1).2.2.2.2.2.2.2.2.2.1, hm _ _ (hq.2.2 c1).2.2.2.2.2.2.2.2.2.2⟩⟩⟩⟩⟩⟩⟩⟩⟩⟩⟩⟩⟩
set_option maxRecDepth 20000 in
set_option maxHeartbeats 2000000 in
theorem ct_X9_openTerm : mo_ct yX9_openTerm t_X9_openTerm S_X9_openTerm := by
  refine mo_ct_of (by decide) rfl ?_
  rintro g as σ Q ⟨w, rfl, hQ⟩
  refine ⟨Nat.le_of_ble_eq_true rfl, mo_go ok_X9_openTerm (mo_no_ok g _) [] 24 ?_⟩
  intro K hK
  refine And.intro (show w < 20 from hQ.1) ?_
  refine And.intro (fun (c1 : (30 : Int32) ≤ (σ.1 39 w 2)) => ?_) (fun (c1 : ¬ (30 : Int32) ≤ (σ.1 39 w 2)) => ?_)
  · exact (hQ.2.1 c1)
  · refine And.intro (show w < 20 from (hQ.2.2 c1).1) ?_
    refine And.intro (show w < 20 from (hQ.2.2 c1).2.1) ?_
    refine And.intro (show w < 20 from (hQ.2.2 c1).2.2.1) ?_
    refine And.intro (show vp_in (σ.1 39 w 2) 30 from (hQ.2.2 c1).2.2.2.1) ?_
    refine And.intro (show w < 20 from (hQ.2.2 c1).2.2.2.2.1) ?_
    refine And.intro (show w < 20 from (hQ.2.2 c1).2.2.2.2.2.1) ?_
    refine And.intro (show w < 20 from (hQ.2.2 c1).2.2.2.2.2.2.1) ?_
    refine And.intro (show vp_in (σ.1 39 w 2) 30 from (hQ.2.2 c1).2.2.2.2.2.2.2.1) ?_
    refine And.intro (show w < 20 from (hQ.2.2 c1).2.2.2.2.2.2.2.2.1) ?_
    refine And.intro (show w < 20 from (hQ.2.2 c1).2.2.2.2.2.2.2.2.2.1) ?_
    exact (hQ.2.2 c1).2.2.2.2.2.2.2.2.2.2
def S_X9_begin : mo_S := fun as σ Q => ∃ w : Nat, ∃ a : Int32, as = [.inr (.inr (39, w)), .inl a] ∧ (w < 20 ∧ (w < 20 ∧ ((w < 20) ∧ ((w < 20) ∧ (((30 : Int32) ≤ ((mo_wI (mo_wI σ 39 w 3 a) 39 w 2 (0 : Int32)).1 39 w 2) → Q (none) (mo_wI (mo_wI σ 39 w 3 a) 39 w 2 (0 : Int32))) ∧ (¬ (30 : Int32) ≤ ((mo_wI (mo_wI σ 39 w 3 a) 39 w 2 (0 : Int32)).1 39 w 2) → ((w < 20) ∧ ((w < 20) ∧ ((w < 20) ∧ ((vp_in ((mo_wI (mo_wI σ 39 w 3 a) 39 w 2 (0 : Int32)).1 39 w 2) 30) ∧ ((w < 20) ∧ ((w < 20) ∧ ((w < 20) ∧ ((vp_in ((mo_wI (mo_wI σ 39 w 3 a) 39 w 2 (0 : Int32)).1 39 w 2) 30) ∧ ((w < 20) ∧ ((w < 20) ∧ Q (none) (mo_wI (mo_wI (mo_wI (mo_wI (mo_wI σ 39 w 3 a) 39 w 2 (0 : Int32)) 40 w (((mo_wI (mo_wI σ 39 w 3 a) 39 w 2 (0 : Int32)).1 39 w 2).toNatClampNeg) (0 : Int32)) 41 w (((mo_wI (mo_wI σ 39 w 3 a) 39 w 2 (0 : Int32)).1 39 w 2).toNatClampNeg) (999999999 : Int32)) 39 w 2 (((mo_wI (mo_wI σ 39 w 3 a) 39 w 2 (0 : Int32)).1 39 w 2) + (1 : Int32)))))))))))))))))))
theorem m_X9_begin : ∀ (as : List mo_V) (σ : mo_M) (P P' : mo_Q), (∀ x τ, P x τ → P' x τ) → S_X9_begin as σ P → S_X9_begin as σ P' := by
  rintro as σ P P' hm ⟨w, a, e, hq⟩
  exact ⟨w, a, e, ⟨hq.1, ⟨hq.2.1, ⟨hq.2.2.1, ⟨hq.2.2.2.1, ⟨fun c1 => hm _ _ (hq.2.2.2.2.1 c1), fun c1 => ⟨(hq.2.2.2.2.2 c1).1, ⟨(hq.2.2.2.2.2 c1).2.1, ⟨(hq.2.2.2.2.2 c1).2.2.1, ⟨(hq.2.2.2.2.2 c1).2.2.2.1, ⟨(hq.2.2.2.2.2 c1).2.2.2.2.1, ⟨(hq.2.2.2.2.2 c1).2.2.2.2.2.1, ⟨(hq.2.2.2.2.2 c1).2.2.2.2.2.2.1, ⟨(hq.2.2.2.2.2 c1).2.2.2.2.2.2.2.1, ⟨(hq.2.2.2.2.2 c1).2.2.2.2.2.2.2.2.1, ⟨(hq.2.2.2.2.2 c1).2.2.2.2.2.2.2.2.2.1, hm _ _ (hq.2.2.2.2.2 c1).2.2.2.2.2.2.2.2.2.2⟩⟩⟩⟩⟩⟩⟩⟩⟩⟩⟩⟩⟩⟩⟩⟩
def cs_X9_begin : Nat → mo_C := fun j => match j with
  | 0 => (1, true, 28, 9, S_X9_openTerm)
  | _ => (0, false, 0, 50, fun _ _ _ => False)
theorem cs_X9_begin_ok (g : mo_E) : ∀ j, mo_cok g t_X9_begin (cs_X9_begin j) ∧ mo_mon (cs_X9_begin j) := by
  intro j
  unfold cs_X9_begin
  split
  · exact ⟨mo_cokV ct_X9_openTerm (by decide) ⟨_, _, rfl⟩ (by decide +kernel), m_X9_openTerm⟩
  · exact ⟨mo_cok0 g _, mo_mon0⟩
set_option maxRecDepth 20000 in
set_option maxHeartbeats 2000000 in
theorem ct_X9_begin : mo_ct yX9_begin t_X9_begin S_X9_begin := by
  refine mo_ct_of (by decide) rfl ?_
  rintro g as σ Q ⟨w, a, rfl, hQ⟩
  refine ⟨Nat.le_of_ble_eq_true rfl, mo_go ok_X9_begin (cs_X9_begin_ok g) [] 10 ?_⟩
  intro K hK
  refine And.intro (show w < 20 from hQ.1) ?_
  refine And.intro (show w < 20 from hQ.2.1) ?_
  refine And.intro (show w < 20 from hQ.2.2.1) ?_
  refine Exists.intro w (And.intro rfl ?_)
  refine And.intro (show w < 20 from hQ.2.2.2.1) ?_
  refine And.intro (fun (c1 : (30 : Int32) ≤ ((mo_wI (mo_wI σ 39 w 3 a) 39 w 2 (0 : Int32)).1 39 w 2)) => ?_) (fun (c1 : ¬ (30 : Int32) ≤ ((mo_wI (mo_wI σ 39 w 3 a) 39 w 2 (0 : Int32)).1 39 w 2)) => ?_)
  · exact (hQ.2.2.2.2.1 c1)
  · refine And.intro (show w < 20 from (hQ.2.2.2.2.2 c1).1) ?_
    refine And.intro (show w < 20 from (hQ.2.2.2.2.2 c1).2.1) ?_
    refine And.intro (show w < 20 from (hQ.2.2.2.2.2 c1).2.2.1) ?_
    refine And.intro (show vp_in ((mo_wI (mo_wI σ 39 w 3 a) 39 w 2 (0 : Int32)).1 39 w 2) 30 from (hQ.2.2.2.2.2 c1).2.2.2.1) ?_
    refine And.intro (show w < 20 from (hQ.2.2.2.2.2 c1).2.2.2.2.1) ?_
    refine And.intro (show w < 20 from (hQ.2.2.2.2.2 c1).2.2.2.2.2.1) ?_
    refine And.intro (show w < 20 from (hQ.2.2.2.2.2 c1).2.2.2.2.2.2.1) ?_
    refine And.intro (show vp_in ((mo_wI (mo_wI σ 39 w 3 a) 39 w 2 (0 : Int32)).1 39 w 2) 30 from (hQ.2.2.2.2.2 c1).2.2.2.2.2.2.2.1) ?_
    refine And.intro (show w < 20 from (hQ.2.2.2.2.2 c1).2.2.2.2.2.2.2.2.1) ?_
    refine And.intro (show w < 20 from (hQ.2.2.2.2.2 c1).2.2.2.2.2.2.2.2.2.1) ?_
    exact (hQ.2.2.2.2.2 c1).2.2.2.2.2.2.2.2.2.2
end
section
theorem mo_wIrI (σ : mo_M) (r : Nat → Int32) (v : Int32) : mo_wI (mo_rowI σ 71 0 r) 50 0 28 v = mo_rowI (mo_wI σ 50 0 28 v) 71 0 r := by
  refine Prod.ext ?_ rfl
  funext a b c
  show (if a = 50 ∧ b = 0 ∧ c = 28 then v else (if a = 71 ∧ b = 0 then r else σ.1 a b) c) = (if a = 71 ∧ b = 0 then r else fun c => if a = 50 ∧ b = 0 ∧ c = 28 then v else σ.1 a b c) c
  by_cases h : a = 71 ∧ b = 0
  · rw [if_pos h, if_pos h, if_neg (by omega)]
  · rw [if_neg h, if_neg h]
def cs_X12_gathers : Nat → mo_C := fun j => match j with
  | 0 => (4, true, 169, 12, S_X12_isQuarrel)
  | _ => (0, false, 0, 50, fun _ _ _ => False)
theorem cs_X12_gathers_ok (g : mo_E) : ∀ j, mo_cok g t_X12_gathers (cs_X12_gathers j) ∧ mo_mon (cs_X12_gathers j) := by
  intro j
  unfold cs_X12_gathers
  split
  · exact ⟨mo_cokV ct_X12_isQuarrel (by decide) ⟨_, _, rfl⟩ (by decide +kernel), m_X12_isQuarrel⟩
  · exact ⟨mo_cok0 g _, mo_mon0⟩
set_option maxRecDepth 20000 in
set_option maxHeartbeats 2000000 in
theorem lq_X12_gathers (g : mo_E) (σ : mo_M) (Q : mo_Q) (a jj A B lo : Int32) (r0 : Nat → Int32) (n : Nat) (hn : (30 : Int32) = nI n) (hle : n ≤ 30) (hX : mo_X g t_X12_gathers Q 178 [some (.inr (.inr (50, 0))), some (.inl a), some (.inl jj), some (.inl A), some (.inl B), some (.inl lo), none] [] (mo_rowI σ 71 0 (mo_fo (fun i r => mo_ite (r i = A ∨ r i = B) (upd r i lo) r) r0 n))) : ∀ (d k : Nat), n < k + d → k ≤ n → (True) → mo_X g t_X12_gathers Q 133 [some (.inr (.inr (50, 0))), some (.inl a), some (.inl jj), some (.inl A), some (.inl B), some (.inl lo), some (.inl (nI k))] [] (mo_rowI σ 71 0 (mo_fo (fun i r => mo_ite (r i = A ∨ r i = B) (upd r i lo) r) r0 k)) := by
  intro d
  induction d with
  | zero => intro k h1 h2; omega
  | succ d ih =>
    intro k h1 h2 hinv
    have hkc : (nI k).toNatClampNeg = k := mo_cl (by omega)
    refine mo_go ok_X12_gathers (cs_X12_gathers_ok g) [133, 178] 101 ?_
    intro K hK
    refine And.intro (fun (c1 : (30 : Int32) ≤ (nI k)) => ?_) (fun (c1 : ¬ (30 : Int32) ≤ (nI k)) => ?_)
    · have hk : n ≤ k := mo_cge hn (by omega) (by omega) c1
      (have e : k = n := (by omega); subst e; refine hK _ _ _ _ (mo_wk ?_ hX); exact And.intro rfl (And.intro rfl (And.intro rfl (And.intro rfl (And.intro rfl (And.intro rfl (trivial)))))))
    · have hk : k < n := mo_clt hn (by omega) (by omega) c1
      refine And.intro (show vp_in (nI k) 30 by exact mo_inN (by omega) (by decide)) ?_
      refine And.intro (fun (c2 : ((mo_fo (fun i r => mo_ite (r i = A ∨ r i = B) (upd r i lo) r) r0 k) ((nI k).toNatClampNeg)) = A) => ?_) (fun (c2 : ¬ ((mo_fo (fun i r => mo_ite (r i = A ∨ r i = B) (upd r i lo) r) r0 k) ((nI k).toNatClampNeg)) = A) => ?_)
      · refine And.intro (show vp_in (nI k) 30 by exact mo_inN (by omega) (by decide)) ?_
        (have hih := ih (k + 1) (by omega) (by omega) trivial; have e : mo_fo (fun i r => mo_ite (r i = A ∨ r i = B) (upd r i lo) r) r0 (k + 1) = upd (mo_fo (fun i r => mo_ite (r i = A ∨ r i = B) (upd r i lo) r) r0 k) k lo := mo_ite_t (by ((try simp only [hkc, mo_bl0, Classical.not_not, ← Int32.not_lt] at c2 ⊢); (try clear ih); (try clear hih); (try clear hX); clear hK; grind)); rw [nI_succ, e] at hih; refine hK _ _ _ _ (show mo_X g t_X12_gathers Q 133 [some (.inr (.inr (50, 0))), some (.inl a), some (.inl jj), some (.inl A), some (.inl B), some (.inl lo), some (.inl ((nI k) + (1 : Int32)))] [] (mo_wI (mo_rowI σ 71 0 (mo_fo (fun i r => mo_ite (r i = A ∨ r i = B) (upd r i lo) r) r0 k)) 71 0 ((nI k).toNatClampNeg) lo) from ?_); rw [hkc, mo_rowI_w]; exact hih)
      · refine And.intro (show vp_in (nI k) 30 by exact mo_inN (by omega) (by decide)) ?_
        refine And.intro (fun (c3 : ¬ ((mo_fo (fun i r => mo_ite (r i = A ∨ r i = B) (upd r i lo) r) r0 k) ((nI k).toNatClampNeg)) = B) => ?_) (fun (c3 : ((mo_fo (fun i r => mo_ite (r i = A ∨ r i = B) (upd r i lo) r) r0 k) ((nI k).toNatClampNeg)) = B) => ?_)
        · (have hih := ih (k + 1) (by omega) (by omega) trivial; have e : mo_fo (fun i r => mo_ite (r i = A ∨ r i = B) (upd r i lo) r) r0 (k + 1) = mo_fo (fun i r => mo_ite (r i = A ∨ r i = B) (upd r i lo) r) r0 k := mo_ite_f (by ((try simp only [hkc, mo_bl0, Classical.not_not, ← Int32.not_lt] at c2 c3 ⊢); (try clear ih); (try clear hih); (try clear hX); clear hK; grind)); rw [nI_succ, e] at hih; exact hK _ _ _ _ hih)
        · refine And.intro (show vp_in (nI k) 30 by exact mo_inN (by omega) (by decide)) ?_
          (have hih := ih (k + 1) (by omega) (by omega) trivial; have e : mo_fo (fun i r => mo_ite (r i = A ∨ r i = B) (upd r i lo) r) r0 (k + 1) = upd (mo_fo (fun i r => mo_ite (r i = A ∨ r i = B) (upd r i lo) r) r0 k) k lo := mo_ite_t (by ((try simp only [hkc, mo_bl0, Classical.not_not, ← Int32.not_lt] at c2 c3 ⊢); (try clear ih); (try clear hih); (try clear hX); clear hK; grind)); rw [nI_succ, e] at hih; refine hK _ _ _ _ (show mo_X g t_X12_gathers Q 133 [some (.inr (.inr (50, 0))), some (.inl a), some (.inl jj), some (.inl A), some (.inl B), some (.inl lo), some (.inl ((nI k) + (1 : Int32)))] [] (mo_wI (mo_rowI σ 71 0 (mo_fo (fun i r => mo_ite (r i = A ∨ r i = B) (upd r i lo) r) r0 k)) 71 0 ((nI k).toNatClampNeg) lo) from ?_); rw [hkc, mo_rowI_w]; exact hih)
noncomputable def mo_gat (σ : mo_M) (a : Int32) : Nat → (Nat → Int32) × Int32 := mo_fo (fun k (p : (Nat → Int32) × Int32) => mo_ite (σ.1 67 0 k = 0 ∧ σ.1 66 0 k ≤ a) (mo_ite (p.1 (σ.1 64 0 k).toNatClampNeg = p.1 (σ.1 65 0 k).toNatClampNeg) p (mo_ite (∃ u, u < (σ.1 50 0 19).toNatClampNeg ∧ σ.1 70 0 u ≤ a ∧ ((p.1 (σ.1 68 0 u).toNatClampNeg = p.1 (σ.1 64 0 k).toNatClampNeg ∧ p.1 (σ.1 69 0 u).toNatClampNeg = p.1 (σ.1 65 0 k).toNatClampNeg) ∨ (p.1 (σ.1 68 0 u).toNatClampNeg = p.1 (σ.1 65 0 k).toNatClampNeg ∧ p.1 (σ.1 69 0 u).toNatClampNeg = p.1 (σ.1 64 0 k).toNatClampNeg))) (p.1, p.2 + 1) (mo_fo (fun i r => mo_ite (r i  = (p.1 (σ.1 64 0 k).toNatClampNeg) ∨ r i = (p.1 (σ.1 65 0 k).toNatClampNeg)) (upd r i (mo_ite (p.1 (σ.1 64 0 k).toNatClampNeg < p.1 (σ.1 65 0 k).toNatClampNeg) (p.1 (σ.1 64 0 k).toNatClampNeg) (p.1 (σ.1 65 0 k).toNatClampNeg))) r) p.1 30, p.2))) p) (mo_fo (fun k r => upd r k (nI k)) (σ.1 71 0) 30, 0)
set_option maxRecDepth 20000 in
set_option maxHeartbeats 2000000 in
theorem lp_X12_gathers (g : mo_E) (σ : mo_M) (Q : mo_Q) (a : Int32) (n : Nat) (hn : σ.1 50 0 18 = nI n) (hle : n ≤ 40) (hu : mo_le (σ.1 50 0 19) 40 ∧ ∀ u, u < (σ.1 50 0 19).toNatClampNeg → vp_in (σ.1 68 0 u) 30 ∧ vp_in (σ.1 69 0 u) 30) (hin : ∀ k, k < n → vp_in (σ.1 64 0 k) 30 ∧ vp_in (σ.1 65 0 k) 30) (hQ : Q none (mo_rowI (mo_wI σ 50 0 28 (mo_gat σ a n).2) 71 0 (mo_gat σ a n).1)) : ∀ (d k : Nat), n < k + d → k ≤ n → (True) → mo_X g t_X12_gathers Q 28 [some (.inr (.inr (50, 0))), some (.inl a), some (.inl (nI k)), none, none, none, none] [] (mo_rowI (mo_wI σ 50 0 28 ((mo_gat σ a k).2)) 71 0 ((mo_gat σ a k).1)) := by
  intro d
  induction d with
  | zero => intro k h1 h2; omega
  | succ d ih =>
    intro k h1 h2 hinv
    have hkc : (nI k).toNatClampNeg = k := mo_cl (by omega)
    refine mo_go ok_X12_gathers (cs_X12_gathers_ok g) [28, 133] 101 ?_
    intro K hK
    refine And.intro (fun (c1 : (σ.1 50 0 18) ≤ (nI k)) => ?_) (fun (c1 : ¬ (σ.1 50 0 18) ≤ (nI k)) => ?_)
    · have hk : n ≤ k := mo_cge hn (by omega) (by omega) c1
      (have e : k = n := (by omega); subst e; exact hQ)
    · have hk : k < n := mo_clt hn (by omega) (by omega) c1
      refine And.intro (show vp_in (nI k) 40 by exact mo_inN (by omega) (by decide)) ?_
      refine And.intro (fun (c2 : ¬ (σ.1 67 0 ((nI k).toNatClampNeg)) = 0) => ?_) (fun (c2 : (σ.1 67 0 ((nI k).toNatClampNeg)) = 0) => ?_)
      · (have hih := ih (k + 1) (by omega) (by omega) trivial; have e : mo_gat σ a (k + 1) = (mo_gat σ a k) := mo_ite_f (by ((try simp only [hkc, mo_bl0, Classical.not_not, ← Int32.not_lt] at c2 ⊢); (try clear ih); (try clear hih); clear hK hQ; grind)); rw [nI_succ, e] at hih; exact hK _ _ _ _ hih)
      · refine And.intro (show vp_in (nI k) 40 by exact mo_inN (by omega) (by decide)) ?_
        refine And.intro (fun (c3 : (σ.1 66 0 ((nI k).toNatClampNeg)) ≤ a) => ?_) (fun (c3 : ¬ (σ.1 66 0 ((nI k).toNatClampNeg)) ≤ a) => ?_)
        · refine And.intro (show vp_in (nI k) 40 by exact mo_inN (by omega) (by decide)) ?_
          refine And.intro (show vp_in (σ.1 64 0 ((nI k).toNatClampNeg)) 30 by rw [hkc]; exact (hin k hk).1) ?_
          refine And.intro (show vp_in (nI k) 40 by exact mo_inN (by omega) (by decide)) ?_
          refine And.intro (show vp_in (σ.1 65 0 ((nI k).toNatClampNeg)) 30 by rw [hkc]; exact (hin k hk).2) ?_
          refine And.intro (fun (c4 : ¬ (((mo_gat σ a k).1) ((σ.1 64 0 ((nI k).toNatClampNeg)).toNatClampNeg)) = (((mo_gat σ a k).1) ((σ.1 65 0 ((nI k).toNatClampNeg)).toNatClampNeg))) => ?_) (fun (c4 : (((mo_gat σ a k).1) ((σ.1 64 0 ((nI k).toNatClampNeg)).toNatClampNeg)) = (((mo_gat σ a k).1) ((σ.1 65 0 ((nI k).toNatClampNeg)).toNatClampNeg))) => ?_)
          · refine Exists.intro (((mo_gat σ a k).1) ((σ.1 64 0 ((nI k).toNatClampNeg)).toNatClampNeg)) (Exists.intro (((mo_gat σ a k).1) ((σ.1 65 0 ((nI k).toNatClampNeg)).toNatClampNeg)) (Exists.intro a (And.intro rfl (And.intro (show mo_le ((mo_rowI (mo_wI σ 50 0 28 ((mo_gat σ a k).2)) 71 0 ((mo_gat σ a k).1)).1 50 0 19) 40 ∧ ∀ u_, u_ < ((mo_rowI (mo_wI σ 50 0 28 ((mo_gat σ a k).2)) 71 0 ((mo_gat σ a k).1)).1 50 0 19).toNatClampNeg → vp_in (σ.1 68 0 u_) 30 ∧ vp_in (σ.1 69 0 u_) 30 by exact hu) ?_))))
            refine And.intro (fun (c5 : (mo_bl (∃ u_, u_ < ((mo_rowI (mo_wI σ 50 0 28 ((mo_gat σ a k).2)) 71 0 ((mo_gat σ a k).1)).1 50 0 19).toNatClampNeg ∧ σ.1 70 0 u_ ≤ a ∧ (((mo_rowI (mo_wI σ 50 0 28 ((mo_gat σ a k).2)) 71 0 ((mo_gat σ a k).1)).1 71 0 (σ.1 68 0 u_).toNatClampNeg = (((mo_gat σ a k).1) ((σ.1 64 0 ((nI k).toNatClampNeg)).toNatClampNeg)) ∧ (mo_rowI (mo_wI σ 50 0 28 ((mo_gat σ a k).2)) 71 0 ((mo_gat σ a k).1)).1 71 0 (σ.1 69 0 u_).toNatClampNeg = (((mo_gat σ a k).1) ((σ.1 65 0 ((nI k).toNatClampNeg)).toNatClampNeg))) ∨ ((mo_rowI (mo_wI σ 50 0 28 ((mo_gat σ a k).2)) 71 0 ((mo_gat σ a k).1)).1 71 0 (σ.1 68 0 u_).toNatClampNeg = (((mo_gat σ a k).1) ((σ.1 65 0 ((nI k).toNatClampNeg)).toNatClampNeg)) ∧ (mo_rowI (mo_wI σ 50 0 28 ((mo_gat σ a k).2)) 71 0 ((mo_gat σ a k).1)).1 71 0 (σ.1 69 0 u_).toNatClampNeg = (((mo_gat σ a k).1) ((σ.1 64 0 ((nI k).toNatClampNeg)).toNatClampNeg)))))) = 0) => ?_) (fun (c5 : ¬ (mo_bl (∃ u_, u_ < ((mo_rowI (mo_wI σ 50 0 28 ((mo_gat σ a k).2)) 71 0 ((mo_gat σ a k).1)).1 50 0 19).toNatClampNeg ∧ σ.1 70 0 u_ ≤ a ∧ (((mo_rowI (mo_wI σ 50 0 28 ((mo_gat σ a k).2)) 71 0 ((mo_gat σ a k).1)).1 71 0 (σ.1 68 0 u_).toNatClampNeg = (((mo_gat σ a k).1) ((σ.1 64 0 ((nI k).toNatClampNeg)).toNatClampNeg)) ∧ (mo_rowI (mo_wI σ 50 0 28 ((mo_gat σ a k).2)) 71 0 ((mo_gat σ a k).1)).1 71 0 (σ.1 69 0 u_).toNatClampNeg = (((mo_gat σ a k).1) ((σ.1 65 0 ((nI k).toNatClampNeg)).toNatClampNeg))) ∨ ((mo_rowI (mo_wI σ 50 0 28 ((mo_gat σ a k).2)) 71 0 ((mo_gat σ a k).1)).1 71 0 (σ.1 68 0 u_).toNatClampNeg = (((mo_gat σ a k).1) ((σ.1 65 0 ((nI k).toNatClampNeg)).toNatClampNeg)) ∧ (mo_rowI (mo_wI σ 50 0 28 ((mo_gat σ a k).2)) 71 0 ((mo_gat σ a k).1)).1 71 0 (σ.1 69 0 u_).toNatClampNeg = (((mo_gat σ a k).1) ((σ.1 64 0 ((nI k).toNatClampNeg)).toNatClampNeg)))))) = 0) => ?_)
            · refine And.intro (fun (c6 : (((mo_gat σ a k).1) ((σ.1 65 0 ((nI k).toNatClampNeg)).toNatClampNeg)) ≤ (((mo_gat σ a k).1) ((σ.1 64 0 ((nI k).toNatClampNeg)).toNatClampNeg))) => ?_) (fun (c6 : ¬ (((mo_gat σ a k).1) ((σ.1 65 0 ((nI k).toNatClampNeg)).toNatClampNeg)) ≤ (((mo_gat σ a k).1) ((σ.1 64 0 ((nI k).toNatClampNeg)).toNatClampNeg))) => ?_)
              · (have hih := ih (k + 1) (by omega) (by omega) trivial; simp only [hkc] at c4 c5 c6; have e : mo_gat σ a (k + 1) = (mo_fo (fun i r => mo_ite (r i  = ((mo_gat σ a k).1 (σ.1 64 0 k).toNatClampNeg) ∨ r i = ((mo_gat σ a k).1 (σ.1 65 0 k).toNatClampNeg)) (upd r i (mo_ite (((mo_gat σ a k).1 (σ.1 64 0 k).toNatClampNeg) < ((mo_gat σ a k).1 (σ.1 65 0 k).toNatClampNeg)) ((mo_gat σ a k).1 (σ.1 64 0 k).toNatClampNeg) ((mo_gat σ a k).1 (σ.1 65 0 k).toNatClampNeg))) r) (mo_gat σ a k).1 30, (mo_gat σ a k).2) := (mo_ite_t (by ((try simp only [hkc, mo_bl0, Classical.not_not, ← Int32.not_lt] at c2 c3 ⊢); (try clear ih); (try clear hih); clear hK hQ; grind))).trans ((mo_ite_f c4).trans (mo_ite_f (mo_bl0.mp c5))); rw [show mo_ite (((mo_gat σ a k).1 (σ.1 64 0 k).toNatClampNeg) < ((mo_gat σ a k).1 (σ.1 65 0 k).toNatClampNeg)) ((mo_gat σ a k).1 (σ.1 64 0 k).toNatClampNeg) ((mo_gat σ a k).1 (σ.1 65 0 k).toNatClampNeg) = ((mo_gat σ a k).1 (σ.1 65 0 k).toNatClampNeg) from mo_ite_f (Int32.not_lt.mpr c6)] at e; rw [nI_succ, e] at hih; refine hK _ _ _ _ (show mo_X g t_X12_gathers Q 133 [some (.inr (.inr (50, 0))), some (.inl a), some (.inl (nI k)), some (.inl (((mo_gat σ a k).1) ((σ.1 64 0 ((nI k).toNatClampNeg)).toNatClampNeg))), some (.inl (((mo_gat σ a k).1) ((σ.1 65 0 ((nI k).toNatClampNeg)).toNatClampNeg))), some (.inl (((mo_gat σ a k).1) ((σ.1 65 0 ((nI k).toNatClampNeg)).toNatClampNeg))), some (.inl (0 : Int32))] [] (mo_rowI (mo_wI σ 50 0 28 ((mo_gat σ a k).2)) 71 0 ((mo_gat σ a k).1)) from ?_); simp only [hkc]; exact lq_X12_gathers g (mo_wI σ 50 0 28 (mo_gat σ a k).2) Q a (nI k) ((mo_gat σ a k).1 (σ.1 64 0 k).toNatClampNeg) ((mo_gat σ a k).1 (σ.1 65 0 k).toNatClampNeg) ((mo_gat σ a k).1 (σ.1 65 0 k).toNatClampNeg) (mo_gat σ a k).1 30 rfl (by omega) (mo_go ok_X12_gathers (cs_X12_gathers_ok g) [28] 5 (fun K hK => by (refine hK _ _ _ _ (mo_wk ?_ hih); exact (And.intro rfl (And.intro rfl (And.intro rfl trivial)))))) 31 0 (by omega) (by omega) trivial)
              · (have hih := ih (k + 1) (by omega) (by omega) trivial; simp only [hkc] at c4 c5 c6; have e : mo_gat σ a (k + 1) = (mo_fo (fun i r => mo_ite (r i  = ((mo_gat σ a k).1 (σ.1 64 0 k).toNatClampNeg) ∨ r i = ((mo_gat σ a k).1 (σ.1 65 0 k).toNatClampNeg)) (upd r i (mo_ite (((mo_gat σ a k).1 (σ.1 64 0 k).toNatClampNeg) < ((mo_gat σ a k).1 (σ.1 65 0 k).toNatClampNeg)) ((mo_gat σ a k).1 (σ.1 64 0 k).toNatClampNeg) ((mo_gat σ a k).1 (σ.1 65 0 k).toNatClampNeg))) r) (mo_gat σ a k).1 30, (mo_gat σ a k).2) := (mo_ite_t (by ((try simp only [hkc, mo_bl0, Classical.not_not, ← Int32.not_lt] at c2 c3 ⊢); (try clear ih); (try clear hih); clear hK hQ; grind))).trans ((mo_ite_f c4).trans (mo_ite_f (mo_bl0.mp c5))); rw [show mo_ite (((mo_gat σ a k).1 (σ.1 64 0 k).toNatClampNeg) < ((mo_gat σ a k).1 (σ.1 65 0 k).toNatClampNeg)) ((mo_gat σ a k).1 (σ.1 64 0 k).toNatClampNeg) ((mo_gat σ a k).1 (σ.1 65 0 k).toNatClampNeg) = ((mo_gat σ a k).1 (σ.1 64 0 k).toNatClampNeg) from mo_ite_t (Int32.not_le.mp c6)] at e; rw [nI_succ, e] at hih; refine hK _ _ _ _ (show mo_X g t_X12_gathers Q 133 [some (.inr (.inr (50, 0))), some (.inl a), some (.inl (nI k)), some (.inl (((mo_gat σ a k).1) ((σ.1 64 0 ((nI k).toNatClampNeg)).toNatClampNeg))), some (.inl (((mo_gat σ a k).1) ((σ.1 65 0 ((nI k).toNatClampNeg)).toNatClampNeg))), some (.inl (((mo_gat σ a k).1) ((σ.1 64 0 ((nI k).toNatClampNeg)).toNatClampNeg))), some (.inl (0 : Int32))] [] (mo_rowI (mo_wI σ 50 0 28 ((mo_gat σ a k).2)) 71 0 ((mo_gat σ a k).1)) from ?_); simp only [hkc]; exact lq_X12_gathers g (mo_wI σ 50 0 28 (mo_gat σ a k).2) Q a (nI k) ((mo_gat σ a k).1 (σ.1 64 0 k).toNatClampNeg) ((mo_gat σ a k).1 (σ.1 65 0 k).toNatClampNeg) ((mo_gat σ a k).1 (σ.1 64 0 k).toNatClampNeg) (mo_gat σ a k).1 30 rfl (by omega) (mo_go ok_X12_gathers (cs_X12_gathers_ok g) [28] 5 (fun K hK => by (refine hK _ _ _ _ (mo_wk ?_ hih); exact (And.intro rfl (And.intro rfl (And.intro rfl trivial)))))) 31 0 (by omega) (by omega) trivial)
            · (have hih := ih (k + 1) (by omega) (by omega) trivial; simp only [hkc] at c4 c5; have e : mo_gat σ a (k + 1) = ((mo_gat σ a k).1, (mo_gat σ a k).2 + 1) := (mo_ite_t (by ((try simp only [hkc, mo_bl0, Classical.not_not, ← Int32.not_lt] at c2 c3 ⊢); (try clear ih); (try clear hih); clear hK hQ; grind))).trans ((mo_ite_f c4).trans (mo_ite_t (mo_blT c5))); rw [nI_succ, e] at hih; refine hK _ _ _ _ (show mo_X g t_X12_gathers Q 28 [some (.inr (.inr (50, 0))), some (.inl a), some (.inl ((nI k) + (1 : Int32))), some (.inl (((mo_gat σ a k).1) ((σ.1 64 0 ((nI k).toNatClampNeg)).toNatClampNeg))), some (.inl (((mo_gat σ a k).1) ((σ.1 65 0 ((nI k).toNatClampNeg)).toNatClampNeg))), none, none] [] (mo_wI (mo_rowI (mo_wI σ 50 0 28 ((mo_gat σ a k).2)) 71 0 ((mo_gat σ a k).1)) 50 0 28 (((mo_gat σ a k).2) + (1 : Int32))) from ?_); rw [mo_wIrI, mo_wIwI]; refine mo_wk ?_ hih; exact And.intro rfl (And.intro rfl (And.intro rfl (trivial))))
          · (have hih := ih (k + 1) (by omega) (by omega) trivial; simp only [hkc] at c4; have e : mo_gat σ a (k + 1) = (mo_gat σ a k) := (mo_ite_t (by ((try simp only [hkc, mo_bl0, Classical.not_not, ← Int32.not_lt] at c2 c3 ⊢); (try clear ih); (try clear hih); clear hK hQ; grind))).trans (mo_ite_t c4); rw [nI_succ, e] at hih; refine hK _ _ _ _ (show mo_X g t_X12_gathers Q 28 [some (.inr (.inr (50, 0))), some (.inl a), some (.inl ((nI k) + (1 : Int32))), some (.inl (((mo_gat σ a k).1) ((σ.1 64 0 ((nI k).toNatClampNeg)).toNatClampNeg))), some (.inl (((mo_gat σ a k).1) ((σ.1 65 0 ((nI k).toNatClampNeg)).toNatClampNeg))), none, none] [] (mo_rowI (mo_wI σ 50 0 28 ((mo_gat σ a k).2)) 71 0 ((mo_gat σ a k).1)) from ?_); refine mo_wk ?_ hih; exact And.intro rfl (And.intro rfl (And.intro rfl (trivial))))
        · (have hih := ih (k + 1) (by omega) (by omega) trivial; have e : mo_gat σ a (k + 1) = (mo_gat σ a k) := mo_ite_f (by ((try simp only [hkc, mo_bl0, Classical.not_not, ← Int32.not_lt] at c2 c3 ⊢); (try clear ih); (try clear hih); clear hK hQ; grind)); rw [nI_succ, e] at hih; exact hK _ _ _ _ hih)
set_option maxRecDepth 20000 in
set_option maxHeartbeats 2000000 in
theorem li_X12_gathers (g : mo_E) (σ : mo_M) (Q : mo_Q) (a : Int32) (n : Nat) (hn : (30 : Int32) = nI n) (hle : n ≤ 30) (hX : mo_X g t_X12_gathers Q 28 [some (.inr (.inr (50, 0))), some (.inl a), some (.inl (0 : Int32)), none, none, none, none] [] (mo_rowI (mo_wI σ 50 0 28 0) 71 0 (mo_fo (fun k r => upd r k (nI k)) (σ.1 71 0) n))) : ∀ (d k : Nat), n < k + d → k ≤ n → (True) → mo_X g t_X12_gathers Q 7 [some (.inr (.inr (50, 0))), some (.inl a), some (.inl (nI k)), none, none, none, none] [] (mo_rowI (mo_wI σ 50 0 28 0) 71 0 (mo_fo (fun k r => upd r k (nI k)) (σ.1 71 0) k)) := by
  intro d
  induction d with
  | zero => intro k h1 h2; omega
  | succ d ih =>
    intro k h1 h2 hinv
    have hkc : (nI k).toNatClampNeg = k := mo_cl (by omega)
    refine mo_go ok_X12_gathers (cs_X12_gathers_ok g) [7, 28] 101 ?_
    intro K hK
    refine And.intro (fun (c1 : (30 : Int32) ≤ (nI k)) => ?_) (fun (c1 : ¬ (30 : Int32) ≤ (nI k)) => ?_)
    · have hk : n ≤ k := mo_cge hn (by omega) (by omega) c1
      (have e : k = n := (by omega); subst e; exact hK _ _ _ _ hX)
    · have hk : k < n := mo_clt hn (by omega) (by omega) c1
      refine And.intro (show vp_in (nI k) 30 by exact mo_inN (by omega) (by decide)) ?_
      (have hih := ih (k + 1) (by omega) (by omega) trivial; rw [nI_succ] at hih; refine hK _ _ _ _ (show mo_X g t_X12_gathers Q 7 [some (.inr (.inr (50, 0))), some (.inl a), some (.inl ((nI k) + (1 : Int32))), none, none, none, none] [] (mo_wI (mo_rowI (mo_wI σ 50 0 28 0) 71 0 (mo_fo (fun k r => upd r k (nI k)) (σ.1 71 0) k)) 71 0 ((nI k).toNatClampNeg) (nI k)) from ?_); rw [hkc, mo_rowI_w]; exact hih)
def S_X12_gathers : mo_S := fun as σ Q => ∃ a : Int32, as = [.inr (.inr (50, 0)), .inl a] ∧ (mo_le (σ.1 50 0 18) 40 ∧ (mo_le (σ.1 50 0 19) 40 ∧ ∀ u, u < (σ.1 50 0 19).toNatClampNeg → vp_in (σ.1 68 0 u) 30 ∧ vp_in (σ.1 69 0 u) 30) ∧ ∀ k, k < (σ.1 50 0 18).toNatClampNeg → vp_in (σ.1 64 0 k) 30 ∧ vp_in (σ.1 65 0 k) 30) ∧ Q (none) (mo_rowI (mo_wI σ 50 0 28 (mo_gat σ a (σ.1 50 0 18).toNatClampNeg).2) 71 0 (mo_gat σ a (σ.1 50 0 18).toNatClampNeg).1)
theorem m_X12_gathers : ∀ (as : List mo_V) (σ : mo_M) (P P' : mo_Q), (∀ x τ, P x τ → P' x τ) → S_X12_gathers as σ P → S_X12_gathers as σ P' := by
  rintro as σ P P' h ⟨a, e, hp, hq⟩
  exact ⟨a, e, hp, h _ _ hq⟩
set_option maxRecDepth 20000 in
set_option maxHeartbeats 2000000 in
theorem ct_X12_gathers : mo_ct yX12_gathers t_X12_gathers S_X12_gathers := by
  refine mo_ct_of (by decide) rfl ?_
  rintro g as σ Q ⟨a, rfl, hpre, hQ⟩
  refine ⟨Nat.le_of_ble_eq_true rfl, mo_go ok_X12_gathers (cs_X12_gathers_ok g) [7, 28] 101 ?_⟩
  intro K hK
  (have h0 := li_X12_gathers g σ Q a 30 rfl (by omega) (lp_X12_gathers g σ Q a _ hpre.1.1 hpre.1.2 hpre.2.1 hpre.2.2 hQ ((σ.1 50 0 18).toNatClampNeg + 1) 0 (by omega) (by omega) trivial) 31 0 (by omega) (by omega) trivial; rw [show mo_rowI (mo_wI σ 50 0 28 0) 71 0 (mo_fo (fun k r => upd r k (nI k)) (σ.1 71 0) 0) = mo_wI σ 50 0 28 0 from mo_rowI_id (mo_wI σ 50 0 28 0) 71 0] at h0; exact hK _ _ _ _ h0)
def S_X12_group : mo_S := fun as σ Q => ∃ a : Int32, ∃ b : Int32, as = [.inr (.inr (50, 0)), .inl a, .inl b] ∧ ((¬ (0 ≤ a ∧ a ≤ σ.1 50 0 1 - 1) → Q (some (.inl (-1 : Int32))) (σ)) ∧ (0 ≤ a ∧ a ≤ σ.1 50 0 1 - 1 → ((0 ≤ b ∧ b ≤ (10000 : Int32) → ((mo_le (σ.1 50 0 18) 40 ∧ (mo_le (σ.1 50 0 19) 40 ∧ ∀ u_, u_ < (σ.1 50 0 19).toNatClampNeg → vp_in (σ.1 68 0 u_) 30 ∧ vp_in (σ.1 69 0 u_) 30) ∧ ∀ k_, k_ < (σ.1 50 0 18).toNatClampNeg → vp_in (σ.1 64 0 k_) 30 ∧ vp_in (σ.1 65 0 k_) 30) ∧ (vp_in a 30 ∧ Q (some (.inl (((mo_gat σ b (σ.1 50 0 18).toNatClampNeg).1) a.toNatClampNeg))) (mo_rowI (mo_wI σ 50 0 28 ((mo_gat σ b (σ.1 50 0 18).toNatClampNeg).2)) 71 0 ((mo_gat σ b (σ.1 50 0 18).toNatClampNeg).1))))) ∧ (¬ (0 ≤ b ∧ b ≤ (10000 : Int32)) → Q (some (.inl (-1 : Int32))) (σ)))))
theorem m_X12_group : ∀ (as : List mo_V) (σ : mo_M) (P P' : mo_Q), (∀ x τ, P x τ → P' x τ) → S_X12_group as σ P → S_X12_group as σ P' := by
  rintro as σ P P' hm ⟨a, b, e, hq⟩
  exact ⟨a, b, e, ⟨fun c1 => hm _ _ (hq.1 c1), fun c1 => ⟨fun c2 => ⟨((hq.2 c1).1 c2).1, ⟨((hq.2 c1).1 c2).2.1, hm _ _ ((hq.2 c1).1 c2).2.2⟩⟩, fun c2 => hm _ _ ((hq.2 c1).2 c2)⟩⟩⟩
def cs_X12_group : Nat → mo_C := fun j => match j with
  | 0 => (2, true, 129, 12, S_X12_isPart)
  | 1 => (1, false, 141, 50, S_X12_isDay)
  | 2 => (2, true, 172, 12, S_X12_gathers)
  | _ => (0, false, 0, 50, fun _ _ _ => False)
theorem cs_X12_group_ok (g : mo_E) : ∀ j, mo_cok g t_X12_group (cs_X12_group j) ∧ mo_mon (cs_X12_group j) := by
  intro j
  unfold cs_X12_group
  split
  · exact ⟨mo_cokV ct_X12_isPart (by decide) ⟨_, _, rfl⟩ (by decide +kernel), m_X12_isPart⟩
  · exact ⟨mo_cokS ct_X12_isDay (by decide +kernel), m_X12_isDay⟩
  · exact ⟨mo_cokV ct_X12_gathers (by decide) ⟨_, _, rfl⟩ (by decide +kernel), m_X12_gathers⟩
  · exact ⟨mo_cok0 g _, mo_mon0⟩
set_option maxRecDepth 20000 in
set_option maxHeartbeats 2000000 in
theorem ct_X12_group : mo_ct yX12_group t_X12_group S_X12_group := by
  refine mo_ct_of (by decide) rfl ?_
  rintro g as σ Q ⟨a, b, rfl, hQ⟩
  refine ⟨Nat.le_of_ble_eq_true rfl, mo_go ok_X12_group (cs_X12_group_ok g) [] 18 ?_⟩
  intro K hK
  refine Exists.intro a (And.intro rfl (And.intro trivial ?_))
  refine And.intro (fun (c1 : (mo_bl (0 ≤ a ∧ a ≤ σ.1 50 0 1 - 1)) = 0) => ?_) (fun (c1 : ¬ (mo_bl (0 ≤ a ∧ a ≤ σ.1 50 0 1 - 1)) = 0) => ?_)
  · replace c1 : ¬ (0 ≤ a ∧ a ≤ σ.1 50 0 1 - 1) := mo_bl0.mp c1
    exact (hQ.1 c1)
  · replace c1 : 0 ≤ a ∧ a ≤ σ.1 50 0 1 - 1 := mo_blT c1
    refine Exists.intro b (And.intro rfl (And.intro trivial ?_))
    refine And.intro (fun (c2 : ¬ (mo_bl (0 ≤ b ∧ b ≤ (10000 : Int32))) = 0) => ?_) (fun (c2 : (mo_bl (0 ≤ b ∧ b ≤ (10000 : Int32))) = 0) => ?_)
    · replace c2 : 0 ≤ b ∧ b ≤ (10000 : Int32) := mo_blT c2
      refine Exists.intro b (And.intro rfl (And.intro (show mo_le (σ.1 50 0 18) 40 ∧ (mo_le (σ.1 50 0 19) 40 ∧ ∀ u_, u_ < (σ.1 50 0 19).toNatClampNeg → vp_in (σ.1 68 0 u_) 30 ∧ vp_in (σ.1 69 0 u_) 30) ∧ ∀ k_, k_ < (σ.1 50 0 18).toNatClampNeg → vp_in (σ.1 64 0 k_) 30 ∧ vp_in (σ.1 65 0 k_) 30 from ((hQ.2 c1).1 c2).1) ?_))
      refine And.intro (show vp_in a 30 from ((hQ.2 c1).1 c2).2.1) ?_
      exact ((hQ.2 c1).1 c2).2.2
    · replace c2 : ¬ (0 ≤ b ∧ b ≤ (10000 : Int32)) := mo_bl0.mp c2
      exact ((hQ.2 c1).2 c2)
def S_X12_quarrels : mo_S := fun as σ Q => ∃ a : Int32, as = [.inr (.inr (50, 0)), .inl a] ∧ ((0 ≤ a ∧ a ≤ (10000 : Int32) → ((mo_le (σ.1 50 0 18) 40 ∧ (mo_le (σ.1 50 0 19) 40 ∧ ∀ u_, u_ < (σ.1 50 0 19).toNatClampNeg → vp_in (σ.1 68 0 u_) 30 ∧ vp_in (σ.1 69 0 u_) 30) ∧ ∀ k_, k_ < (σ.1 50 0 18).toNatClampNeg → vp_in (σ.1 64 0 k_) 30 ∧ vp_in (σ.1 65 0 k_) 30) ∧ Q (some (.inl ((mo_gat σ a (σ.1 50 0 18).toNatClampNeg).2))) (mo_rowI (mo_wI σ 50 0 28 ((mo_gat σ a (σ.1 50 0 18).toNatClampNeg).2)) 71 0 ((mo_gat σ a (σ.1 50 0 18).toNatClampNeg).1)))) ∧ (¬ (0 ≤ a ∧ a ≤ (10000 : Int32)) → Q (some (.inl (-1 : Int32))) (σ)))
theorem m_X12_quarrels : ∀ (as : List mo_V) (σ : mo_M) (P P' : mo_Q), (∀ x τ, P x τ → P' x τ) → S_X12_quarrels as σ P → S_X12_quarrels as σ P' := by
  rintro as σ P P' hm ⟨a, e, hq⟩
  exact ⟨a, e, ⟨fun c1 => ⟨(hq.1 c1).1, hm _ _ (hq.1 c1).2⟩, fun c1 => hm _ _ (hq.2 c1)⟩⟩
def cs_X12_quarrels : Nat → mo_C := fun j => match j with
  | 0 => (1, false, 141, 50, S_X12_isDay)
  | 1 => (2, true, 172, 12, S_X12_gathers)
  | _ => (0, false, 0, 50, fun _ _ _ => False)
theorem cs_X12_quarrels_ok (g : mo_E) : ∀ j, mo_cok g t_X12_quarrels (cs_X12_quarrels j) ∧ mo_mon (cs_X12_quarrels j) := by
  intro j
  unfold cs_X12_quarrels
  split
  · exact ⟨mo_cokS ct_X12_isDay (by decide +kernel), m_X12_isDay⟩
  · exact ⟨mo_cokV ct_X12_gathers (by decide) ⟨_, _, rfl⟩ (by decide +kernel), m_X12_gathers⟩
  · exact ⟨mo_cok0 g _, mo_mon0⟩
set_option maxRecDepth 20000 in
set_option maxHeartbeats 2000000 in
theorem ct_X12_quarrels : mo_ct yX12_quarrels t_X12_quarrels S_X12_quarrels := by
  refine mo_ct_of (by decide) rfl ?_
  rintro g as σ Q ⟨a, rfl, hQ⟩
  refine ⟨Nat.le_of_ble_eq_true rfl, mo_go ok_X12_quarrels (cs_X12_quarrels_ok g) [] 12 ?_⟩
  intro K hK
  refine Exists.intro a (And.intro rfl (And.intro trivial ?_))
  refine And.intro (fun (c1 : ¬ (mo_bl (0 ≤ a ∧ a ≤ (10000 : Int32))) = 0) => ?_) (fun (c1 : (mo_bl (0 ≤ a ∧ a ≤ (10000 : Int32))) = 0) => ?_)
  · replace c1 : 0 ≤ a ∧ a ≤ (10000 : Int32) := mo_blT c1
    refine Exists.intro a (And.intro rfl (And.intro (show mo_le (σ.1 50 0 18) 40 ∧ (mo_le (σ.1 50 0 19) 40 ∧ ∀ u_, u_ < (σ.1 50 0 19).toNatClampNeg → vp_in (σ.1 68 0 u_) 30 ∧ vp_in (σ.1 69 0 u_) 30) ∧ ∀ k_, k_ < (σ.1 50 0 18).toNatClampNeg → vp_in (σ.1 64 0 k_) 30 ∧ vp_in (σ.1 65 0 k_) 30 from (hQ.1 c1).1) ?_))
    exact (hQ.1 c1).2
  · replace c1 : ¬ (0 ≤ a ∧ a ≤ (10000 : Int32)) := mo_bl0.mp c1
    exact (hQ.2 c1)
end
section
def S_X12_nextOf80 : mo_S := fun as σ Q => ∃ a : Int32, ∃ b : Int32, ∃ z : Int32, as = [.inr (.inr (50, 0)), .inl a, .inl b, .inr (.inr (80, 0)), .inl z] ∧ ((mo_le (σ.1 50 0 6) 200 ∧ ∀ k, k < (σ.1 50 0 6).toNatClampNeg → vp_in (σ.1 55 0 k) 60) ∧ vp_in a 60) ∧ Q (some (.inl (mo_fo (fun k s => mo_ite ((σ.1 57 0 k ≤ b ∧ b < σ.1 58 0 k) ∧ σ.1 54 0 k = a ∧ (σ.1 56 0 k = 3 → ¬ z = 0) ∧ σ.1 80 0 (σ.1 55 0 k).toNatClampNeg = σ.1 80 0 a.toNatClampNeg - 1 ∧ (s = (-1 : Int32) ∨ σ.1 55 0 k < s)) (σ.1 55 0 k) s) (-1 : Int32) (σ.1 50 0 6).toNatClampNeg))) (σ)
theorem m_X12_nextOf80 : ∀ (as : List mo_V) (σ : mo_M) (P P' : mo_Q), (∀ x τ, P x τ → P' x τ) → S_X12_nextOf80 as σ P → S_X12_nextOf80 as σ P' := by
  rintro as σ P P' h ⟨a, b, z, e, hp, hq⟩
  exact ⟨a, b, z, e, hp, h _ _ hq⟩
def cs_X12_nextOf80 : Nat → mo_C := fun j => match j with
  | 0 => (3, true, 150, 12, S_X12_is)
  | _ => (0, false, 0, 50, fun _ _ _ => False)
theorem cs_X12_nextOf80_ok (g : mo_E) : ∀ j, mo_cok g t_X12_nextOf (cs_X12_nextOf80 j) ∧ mo_mon (cs_X12_nextOf80 j) := by
  intro j
  unfold cs_X12_nextOf80
  split
  · exact ⟨mo_cokV ct_X12_is (by decide) ⟨_, _, rfl⟩ (by decide +kernel), m_X12_is⟩
  · exact ⟨mo_cok0 g _, mo_mon0⟩
set_option maxRecDepth 20000 in
set_option maxHeartbeats 2000000 in
theorem lp_X12_nextOf80 (g : mo_E) (σ : mo_M) (Q : mo_Q) (a b z : Int32) (n : Nat) (hn : σ.1 50 0 6 = nI n) (hle : n ≤ 200) (hin : ∀ k, k < n → vp_in (σ.1 55 0 k) 60) (ha : vp_in a 60) (hQ : Q (some (.inl (mo_fo (fun k s => mo_ite ((σ.1 57 0 k ≤ b ∧ b < σ.1 58 0 k) ∧ σ.1 54 0 k = a ∧ (σ.1 56 0 k = 3 → ¬ z = 0) ∧ σ.1 80 0 (σ.1 55 0 k).toNatClampNeg = σ.1 80 0 a.toNatClampNeg - 1 ∧ (s = (-1 : Int32) ∨ σ.1 55 0 k < s)) (σ.1 55 0 k) s) (-1 : Int32) n))) σ) : ∀ (d k : Nat), n < k + d → k ≤ n → (True) → mo_X g t_X12_nextOf Q 6 [some (.inr (.inr (50, 0))), some (.inl a), some (.inl b), some (.inr (.inr (80, 0))), some (.inl z), some (.inl (mo_fo (fun k s => mo_ite ((σ.1 57 0 k ≤ b ∧ b < σ.1 58 0 k) ∧ σ.1 54 0 k = a ∧ (σ.1 56 0 k = 3 → ¬ z = 0) ∧ σ.1 80 0 (σ.1 55 0 k).toNatClampNeg = σ.1 80 0 a.toNatClampNeg - 1 ∧ (s = (-1 : Int32) ∨ σ.1 55 0 k < s)) (σ.1 55 0 k) s) (-1 : Int32) k)), some (.inl (nI k))] [] (σ) := by
  intro d
  induction d with
  | zero => intro k h1 h2; omega
  | succ d ih =>
    intro k h1 h2 hinv
    have hkc : (nI k).toNatClampNeg = k := mo_cl (by omega)
    refine mo_go ok_X12_nextOf (cs_X12_nextOf80_ok g) [6] 59 ?_
    intro K hK
    refine And.intro (fun (c1 : (σ.1 50 0 6) ≤ (nI k)) => ?_) (fun (c1 : ¬ (σ.1 50 0 6) ≤ (nI k)) => ?_)
    · have hk : n ≤ k := mo_cge hn (by omega) (by omega) c1
      (have e : k = n := (by omega); subst e; exact hQ)
    · have hk : k < n := mo_clt hn (by omega) (by omega) c1
      refine Exists.intro (nI k) (Exists.intro b (And.intro rfl (And.intro (show vp_in (nI k) 200 by exact mo_inN (by omega) (by decide)) ?_)))
      refine And.intro (fun (c2 : (mo_bl (σ.1 57 0 (nI k).toNatClampNeg ≤ b ∧ b < σ.1 58 0 (nI k).toNatClampNeg)) = 0) => ?_) (fun (c2 : ¬ (mo_bl (σ.1 57 0 (nI k).toNatClampNeg ≤ b ∧ b < σ.1 58 0 (nI k).toNatClampNeg)) = 0) => ?_)
      · (have hih := ih (k + 1) (by omega) (by omega) trivial; have e : mo_fo (fun k s => mo_ite ((σ.1 57 0 k ≤ b ∧ b < σ.1 58 0 k) ∧ σ.1 54 0 k = a ∧ (σ.1 56 0 k = 3 → ¬ z = 0) ∧ σ.1 80 0 (σ.1 55 0 k).toNatClampNeg = σ.1 80 0 a.toNatClampNeg - 1 ∧ (s = (-1 : Int32) ∨ σ.1 55 0 k < s)) (σ.1 55 0 k) s) (-1 : Int32) (k + 1) = mo_fo (fun k s => mo_ite ((σ.1 57 0 k ≤ b ∧ b < σ.1 58 0 k) ∧ σ.1 54 0 k = a ∧ (σ.1 56 0 k = 3 → ¬ z = 0) ∧ σ.1 80 0 (σ.1 55 0 k).toNatClampNeg = σ.1 80 0 a.toNatClampNeg - 1 ∧ (s = (-1 : Int32) ∨ σ.1 55 0 k < s)) (σ.1 55 0 k) s) (-1 : Int32) k := mo_ite_f (by ((try simp only [hkc, mo_bl0, Classical.not_not, ← Int32.not_lt] at c2 ⊢); (try clear ih); (try clear hih); clear hK hQ; grind)); rw [nI_succ, e] at hih; refine hK _ _ _ _ (show mo_X g t_X12_nextOf Q 6 [some (.inr (.inr (50, 0))), some (.inl a), some (.inl b), some (.inr (.inr (80, 0))), some (.inl z), some (.inl (mo_fo (fun k s => mo_ite ((σ.1 57 0 k ≤ b ∧ b < σ.1 58 0 k) ∧ σ.1 54 0 k = a ∧ (σ.1 56 0 k = 3 → ¬ z = 0) ∧ σ.1 80 0 (σ.1 55 0 k).toNatClampNeg = σ.1 80 0 a.toNatClampNeg - 1 ∧ (s = (-1 : Int32) ∨ σ.1 55 0 k < s)) (σ.1 55 0 k) s) (-1 : Int32) k)), some (.inl ((nI k) + (1 : Int32)))] [] (σ) from ?_); (try simp only [hkc]); exact hih)
      · refine And.intro (show vp_in (nI k) 200 by exact mo_inN (by omega) (by decide)) ?_
        refine And.intro (fun (c3 : ¬ (σ.1 54 0 ((nI k).toNatClampNeg)) = a) => ?_) (fun (c3 : (σ.1 54 0 ((nI k).toNatClampNeg)) = a) => ?_)
        · (have hih := ih (k + 1) (by omega) (by omega) trivial; have e : mo_fo (fun k s => mo_ite ((σ.1 57 0 k ≤ b ∧ b < σ.1 58 0 k) ∧ σ.1 54 0 k = a ∧ (σ.1 56 0 k = 3 → ¬ z = 0) ∧ σ.1 80 0 (σ.1 55 0 k).toNatClampNeg = σ.1 80 0 a.toNatClampNeg - 1 ∧ (s = (-1 : Int32) ∨ σ.1 55 0 k < s)) (σ.1 55 0 k) s) (-1 : Int32) (k + 1) = mo_fo (fun k s => mo_ite ((σ.1 57 0 k ≤ b ∧ b < σ.1 58 0 k) ∧ σ.1 54 0 k = a ∧ (σ.1 56 0 k = 3 → ¬ z = 0) ∧ σ.1 80 0 (σ.1 55 0 k).toNatClampNeg = σ.1 80 0 a.toNatClampNeg - 1 ∧ (s = (-1 : Int32) ∨ σ.1 55 0 k < s)) (σ.1 55 0 k) s) (-1 : Int32) k := mo_ite_f (by ((try simp only [hkc, mo_bl0, Classical.not_not, ← Int32.not_lt] at c2 c3 ⊢); (try clear ih); (try clear hih); clear hK hQ; grind)); rw [nI_succ, e] at hih; refine hK _ _ _ _ (show mo_X g t_X12_nextOf Q 6 [some (.inr (.inr (50, 0))), some (.inl a), some (.inl b), some (.inr (.inr (80, 0))), some (.inl z), some (.inl (mo_fo (fun k s => mo_ite ((σ.1 57 0 k ≤ b ∧ b < σ.1 58 0 k) ∧ σ.1 54 0 k = a ∧ (σ.1 56 0 k = 3 → ¬ z = 0) ∧ σ.1 80 0 (σ.1 55 0 k).toNatClampNeg = σ.1 80 0 a.toNatClampNeg - 1 ∧ (s = (-1 : Int32) ∨ σ.1 55 0 k < s)) (σ.1 55 0 k) s) (-1 : Int32) k)), some (.inl ((nI k) + (1 : Int32)))] [] (σ) from ?_); (try simp only [hkc]); exact hih)
        · refine And.intro (show vp_in (nI k) 200 by exact mo_inN (by omega) (by decide)) ?_
          refine And.intro (fun (c4 : ¬ (σ.1 56 0 ((nI k).toNatClampNeg)) = (3 : Int32)) => ?_) (fun (c4 : (σ.1 56 0 ((nI k).toNatClampNeg)) = (3 : Int32)) => ?_)
          · refine And.intro (show vp_in (nI k) 200 by exact mo_inN (by omega) (by decide)) ?_
            refine And.intro (show vp_in (σ.1 55 0 ((nI k).toNatClampNeg)) 60 by rw [hkc]; exact hin k hk) ?_
            refine And.intro (show vp_in a 60 by exact ha) ?_
            refine And.intro (fun (c5 : (σ.1 80 0 ((σ.1 55 0 ((nI k).toNatClampNeg)).toNatClampNeg)) = ((σ.1 80 0 a.toNatClampNeg) - (1 : Int32))) => ?_) (fun (c5 : ¬ (σ.1 80 0 ((σ.1 55 0 ((nI k).toNatClampNeg)).toNatClampNeg)) = ((σ.1 80 0 a.toNatClampNeg) - (1 : Int32))) => ?_)
            · refine And.intro (fun (c6 : (mo_fo (fun k s => mo_ite ((σ.1 57 0 k ≤ b ∧ b < σ.1 58 0 k) ∧ σ.1 54 0 k = a ∧ (σ.1 56 0 k = 3 → ¬ z = 0) ∧ σ.1 80 0 (σ.1 55 0 k).toNatClampNeg = σ.1 80 0 a.toNatClampNeg - 1 ∧ (s = (-1 : Int32) ∨ σ.1 55 0 k < s)) (σ.1 55 0 k) s) (-1 : Int32) k) = (-1 : Int32)) => ?_) (fun (c6 : ¬ (mo_fo (fun k s => mo_ite ((σ.1 57 0 k ≤ b ∧ b < σ.1 58 0 k) ∧ σ.1 54 0 k = a ∧ (σ.1 56 0 k = 3 → ¬ z = 0) ∧ σ.1 80 0 (σ.1 55 0 k).toNatClampNeg = σ.1 80 0 a.toNatClampNeg - 1 ∧ (s = (-1 : Int32) ∨ σ.1 55 0 k < s)) (σ.1 55 0 k) s) (-1 : Int32) k) = (-1 : Int32)) => ?_)
              · refine And.intro (show vp_in (nI k) 200 by exact mo_inN (by omega) (by decide)) ?_
                (have hih := ih (k + 1) (by omega) (by omega) trivial; have e : mo_fo (fun k s => mo_ite ((σ.1 57 0 k ≤ b ∧ b < σ.1 58 0 k) ∧ σ.1 54 0 k = a ∧ (σ.1 56 0 k = 3 → ¬ z = 0) ∧ σ.1 80 0 (σ.1 55 0 k).toNatClampNeg = σ.1 80 0 a.toNatClampNeg - 1 ∧ (s = (-1 : Int32) ∨ σ.1 55 0 k < s)) (σ.1 55 0 k) s) (-1 : Int32) (k + 1) = σ.1 55 0 (k) := mo_ite_t (by ((try simp only [hkc, mo_bl0, Classical.not_not, ← Int32.not_lt] at c2 c3 c4 c5 c6 ⊢); (try clear ih); (try clear hih); clear hK hQ; grind)); rw [nI_succ, e] at hih; refine hK _ _ _ _ (show mo_X g t_X12_nextOf Q 6 [some (.inr (.inr (50, 0))), some (.inl a), some (.inl b), some (.inr (.inr (80, 0))), some (.inl z), some (.inl (σ.1 55 0 ((nI k).toNatClampNeg))), some (.inl ((nI k) + (1 : Int32)))] [] (σ) from ?_); (try simp only [hkc]); exact hih)
              · refine And.intro (show vp_in (nI k) 200 by exact mo_inN (by omega) (by decide)) ?_
                refine And.intro (fun (c7 : (mo_fo (fun k s => mo_ite ((σ.1 57 0 k ≤ b ∧ b < σ.1 58 0 k) ∧ σ.1 54 0 k = a ∧ (σ.1 56 0 k = 3 → ¬ z = 0) ∧ σ.1 80 0 (σ.1 55 0 k).toNatClampNeg = σ.1 80 0 a.toNatClampNeg - 1 ∧ (s = (-1 : Int32) ∨ σ.1 55 0 k < s)) (σ.1 55 0 k) s) (-1 : Int32) k) ≤ (σ.1 55 0 ((nI k).toNatClampNeg))) => ?_) (fun (c7 : ¬ (mo_fo (fun k s => mo_ite ((σ.1 57 0 k ≤ b ∧ b < σ.1 58 0 k) ∧ σ.1 54 0 k = a ∧ (σ.1 56 0 k = 3 → ¬ z = 0) ∧ σ.1 80 0 (σ.1 55 0 k).toNatClampNeg = σ.1 80 0 a.toNatClampNeg - 1 ∧ (s = (-1 : Int32) ∨ σ.1 55 0 k < s)) (σ.1 55 0 k) s) (-1 : Int32) k) ≤ (σ.1 55 0 ((nI k).toNatClampNeg))) => ?_)
                · (have hih := ih (k + 1) (by omega) (by omega) trivial; have e : mo_fo (fun k s => mo_ite ((σ.1 57 0 k ≤ b ∧ b < σ.1 58 0 k) ∧ σ.1 54 0 k = a ∧ (σ.1 56 0 k = 3 → ¬ z = 0) ∧ σ.1 80 0 (σ.1 55 0 k).toNatClampNeg = σ.1 80 0 a.toNatClampNeg - 1 ∧ (s = (-1 : Int32) ∨ σ.1 55 0 k < s)) (σ.1 55 0 k) s) (-1 : Int32) (k + 1) = mo_fo (fun k s => mo_ite ((σ.1 57 0 k ≤ b ∧ b < σ.1 58 0 k) ∧ σ.1 54 0 k = a ∧ (σ.1 56 0 k = 3 → ¬ z = 0) ∧ σ.1 80 0 (σ.1 55 0 k).toNatClampNeg = σ.1 80 0 a.toNatClampNeg - 1 ∧ (s = (-1 : Int32) ∨ σ.1 55 0 k < s)) (σ.1 55 0 k) s) (-1 : Int32) k := mo_ite_f (by ((try simp only [hkc, mo_bl0, Classical.not_not, ← Int32.not_lt] at c2 c3 c4 c5 c6 c7 ⊢); (try clear ih); (try clear hih); clear hK hQ; grind)); rw [nI_succ, e] at hih; refine hK _ _ _ _ (show mo_X g t_X12_nextOf Q 6 [some (.inr (.inr (50, 0))), some (.inl a), some (.inl b), some (.inr (.inr (80, 0))), some (.inl z), some (.inl (mo_fo (fun k s => mo_ite ((σ.1 57 0 k ≤ b ∧ b < σ.1 58 0 k) ∧ σ.1 54 0 k = a ∧ (σ.1 56 0 k = 3 → ¬ z = 0) ∧ σ.1 80 0 (σ.1 55 0 k).toNatClampNeg = σ.1 80 0 a.toNatClampNeg - 1 ∧ (s = (-1 : Int32) ∨ σ.1 55 0 k < s)) (σ.1 55 0 k) s) (-1 : Int32) k)), some (.inl ((nI k) + (1 : Int32)))] [] (σ) from ?_); (try simp only [hkc]); exact hih)
                · refine And.intro (show vp_in (nI k) 200 by exact mo_inN (by omega) (by decide)) ?_
                  (have hih := ih (k + 1) (by omega) (by omega) trivial; have e : mo_fo (fun k s => mo_ite ((σ.1 57 0 k ≤ b ∧ b < σ.1 58 0 k) ∧ σ.1 54 0 k = a ∧ (σ.1 56 0 k = 3 → ¬ z = 0) ∧ σ.1 80 0 (σ.1 55 0 k).toNatClampNeg = σ.1 80 0 a.toNatClampNeg - 1 ∧ (s = (-1 : Int32) ∨ σ.1 55 0 k < s)) (σ.1 55 0 k) s) (-1 : Int32) (k + 1) = σ.1 55 0 (k) := mo_ite_t (by ((try simp only [hkc, mo_bl0, Classical.not_not, ← Int32.not_lt] at c2 c3 c4 c5 c6 c7 ⊢); (try clear ih); (try clear hih); clear hK hQ; grind)); rw [nI_succ, e] at hih; refine hK _ _ _ _ (show mo_X g t_X12_nextOf Q 6 [some (.inr (.inr (50, 0))), some (.inl a), some (.inl b), some (.inr (.inr (80, 0))), some (.inl z), some (.inl (σ.1 55 0 ((nI k).toNatClampNeg))), some (.inl ((nI k) + (1 : Int32)))] [] (σ) from ?_); (try simp only [hkc]); exact hih)
            · (have hih := ih (k + 1) (by omega) (by omega) trivial; have e : mo_fo (fun k s => mo_ite ((σ.1 57 0 k ≤ b ∧ b < σ.1 58 0 k) ∧ σ.1 54 0 k = a ∧ (σ.1 56 0 k = 3 → ¬ z = 0) ∧ σ.1 80 0 (σ.1 55 0 k).toNatClampNeg = σ.1 80 0 a.toNatClampNeg - 1 ∧ (s = (-1 : Int32) ∨ σ.1 55 0 k < s)) (σ.1 55 0 k) s) (-1 : Int32) (k + 1) = mo_fo (fun k s => mo_ite ((σ.1 57 0 k ≤ b ∧ b < σ.1 58 0 k) ∧ σ.1 54 0 k = a ∧ (σ.1 56 0 k = 3 → ¬ z = 0) ∧ σ.1 80 0 (σ.1 55 0 k).toNatClampNeg = σ.1 80 0 a.toNatClampNeg - 1 ∧ (s = (-1 : Int32) ∨ σ.1 55 0 k < s)) (σ.1 55 0 k) s) (-1 : Int32) k := mo_ite_f (by ((try simp only [hkc, mo_bl0, Classical.not_not, ← Int32.not_lt] at c2 c3 c4 c5 ⊢); (try clear ih); (try clear hih); clear hK hQ; grind)); rw [nI_succ, e] at hih; refine hK _ _ _ _ (show mo_X g t_X12_nextOf Q 6 [some (.inr (.inr (50, 0))), some (.inl a), some (.inl b), some (.inr (.inr (80, 0))), some (.inl z), some (.inl (mo_fo (fun k s => mo_ite ((σ.1 57 0 k ≤ b ∧ b < σ.1 58 0 k) ∧ σ.1 54 0 k = a ∧ (σ.1 56 0 k = 3 → ¬ z = 0) ∧ σ.1 80 0 (σ.1 55 0 k).toNatClampNeg = σ.1 80 0 a.toNatClampNeg - 1 ∧ (s = (-1 : Int32) ∨ σ.1 55 0 k < s)) (σ.1 55 0 k) s) (-1 : Int32) k)), some (.inl ((nI k) + (1 : Int32)))] [] (σ) from ?_); (try simp only [hkc]); exact hih)
          · refine And.intro (fun (c5 : z = 0) => ?_) (fun (c5 : ¬ z = 0) => ?_)
            · (have hih := ih (k + 1) (by omega) (by omega) trivial; have e : mo_fo (fun k s => mo_ite ((σ.1 57 0 k ≤ b ∧ b < σ.1 58 0 k) ∧ σ.1 54 0 k = a ∧ (σ.1 56 0 k = 3 → ¬ z = 0) ∧ σ.1 80 0 (σ.1 55 0 k).toNatClampNeg = σ.1 80 0 a.toNatClampNeg - 1 ∧ (s = (-1 : Int32) ∨ σ.1 55 0 k < s)) (σ.1 55 0 k) s) (-1 : Int32) (k + 1) = mo_fo (fun k s => mo_ite ((σ.1 57 0 k ≤ b ∧ b < σ.1 58 0 k) ∧ σ.1 54 0 k = a ∧ (σ.1 56 0 k = 3 → ¬ z = 0) ∧ σ.1 80 0 (σ.1 55 0 k).toNatClampNeg = σ.1 80 0 a.toNatClampNeg - 1 ∧ (s = (-1 : Int32) ∨ σ.1 55 0 k < s)) (σ.1 55 0 k) s) (-1 : Int32) k := mo_ite_f (by ((try simp only [hkc, mo_bl0, Classical.not_not, ← Int32.not_lt] at c2 c3 c4 c5 ⊢); (try clear ih); (try clear hih); clear hK hQ; grind)); rw [nI_succ, e] at hih; refine hK _ _ _ _ (show mo_X g t_X12_nextOf Q 6 [some (.inr (.inr (50, 0))), some (.inl a), some (.inl b), some (.inr (.inr (80, 0))), some (.inl z), some (.inl (mo_fo (fun k s => mo_ite ((σ.1 57 0 k ≤ b ∧ b < σ.1 58 0 k) ∧ σ.1 54 0 k = a ∧ (σ.1 56 0 k = 3 → ¬ z = 0) ∧ σ.1 80 0 (σ.1 55 0 k).toNatClampNeg = σ.1 80 0 a.toNatClampNeg - 1 ∧ (s = (-1 : Int32) ∨ σ.1 55 0 k < s)) (σ.1 55 0 k) s) (-1 : Int32) k)), some (.inl ((nI k) + (1 : Int32)))] [] (σ) from ?_); (try simp only [hkc]); exact hih)
            · refine And.intro (show vp_in (nI k) 200 by exact mo_inN (by omega) (by decide)) ?_
              refine And.intro (show vp_in (σ.1 55 0 ((nI k).toNatClampNeg)) 60 by rw [hkc]; exact hin k hk) ?_
              refine And.intro (show vp_in a 60 by exact ha) ?_
              refine And.intro (fun (c6 : (σ.1 80 0 ((σ.1 55 0 ((nI k).toNatClampNeg)).toNatClampNeg)) = ((σ.1 80 0 a.toNatClampNeg) - (1 : Int32))) => ?_) (fun (c6 : ¬ (σ.1 80 0 ((σ.1 55 0 ((nI k).toNatClampNeg)).toNatClampNeg)) = ((σ.1 80 0 a.toNatClampNeg) - (1 : Int32))) => ?_)
              · refine And.intro (fun (c7 : (mo_fo (fun k s => mo_ite ((σ.1 57 0 k ≤ b ∧ b < σ.1 58 0 k) ∧ σ.1 54 0 k = a ∧ (σ.1 56 0 k = 3 → ¬ z = 0) ∧ σ.1 80 0 (σ.1 55 0 k).toNatClampNeg = σ.1 80 0 a.toNatClampNeg - 1 ∧ (s = (-1 : Int32) ∨ σ.1 55 0 k < s)) (σ.1 55 0 k) s) (-1 : Int32) k) = (-1 : Int32)) => ?_) (fun (c7 : ¬ (mo_fo (fun k s => mo_ite ((σ.1 57 0 k ≤ b ∧ b < σ.1 58 0 k) ∧ σ.1 54 0 k = a ∧ (σ.1 56 0 k = 3 → ¬ z = 0) ∧ σ.1 80 0 (σ.1 55 0 k).toNatClampNeg = σ.1 80 0 a.toNatClampNeg - 1 ∧ (s = (-1 : Int32) ∨ σ.1 55 0 k < s)) (σ.1 55 0 k) s) (-1 : Int32) k) = (-1 : Int32)) => ?_)
                · refine And.intro (show vp_in (nI k) 200 by exact mo_inN (by omega) (by decide)) ?_
                  (have hih := ih (k + 1) (by omega) (by omega) trivial; have e : mo_fo (fun k s => mo_ite ((σ.1 57 0 k ≤ b ∧ b < σ.1 58 0 k) ∧ σ.1 54 0 k = a ∧ (σ.1 56 0 k = 3 → ¬ z = 0) ∧ σ.1 80 0 (σ.1 55 0 k).toNatClampNeg = σ.1 80 0 a.toNatClampNeg - 1 ∧ (s = (-1 : Int32) ∨ σ.1 55 0 k < s)) (σ.1 55 0 k) s) (-1 : Int32) (k + 1) = σ.1 55 0 (k) := mo_ite_t (by ((try simp only [hkc, mo_bl0, Classical.not_not, ← Int32.not_lt] at c2 c3 c4 c5 c6 c7 ⊢); (try clear ih); (try clear hih); clear hK hQ; grind)); rw [nI_succ, e] at hih; refine hK _ _ _ _ (show mo_X g t_X12_nextOf Q 6 [some (.inr (.inr (50, 0))), some (.inl a), some (.inl b), some (.inr (.inr (80, 0))), some (.inl z), some (.inl (σ.1 55 0 ((nI k).toNatClampNeg))), some (.inl ((nI k) + (1 : Int32)))] [] (σ) from ?_); (try simp only [hkc]); exact hih)
                · refine And.intro (show vp_in (nI k) 200 by exact mo_inN (by omega) (by decide)) ?_
                  refine And.intro (fun (c8 : (mo_fo (fun k s => mo_ite ((σ.1 57 0 k ≤ b ∧ b < σ.1 58 0 k) ∧ σ.1 54 0 k = a ∧ (σ.1 56 0 k = 3 → ¬ z = 0) ∧ σ.1 80 0 (σ.1 55 0 k).toNatClampNeg = σ.1 80 0 a.toNatClampNeg - 1 ∧ (s = (-1 : Int32) ∨ σ.1 55 0 k < s)) (σ.1 55 0 k) s) (-1 : Int32) k) ≤ (σ.1 55 0 ((nI k).toNatClampNeg))) => ?_) (fun (c8 : ¬ (mo_fo (fun k s => mo_ite ((σ.1 57 0 k ≤ b ∧ b < σ.1 58 0 k) ∧ σ.1 54 0 k = a ∧ (σ.1 56 0 k = 3 → ¬ z = 0) ∧ σ.1 80 0 (σ.1 55 0 k).toNatClampNeg = σ.1 80 0 a.toNatClampNeg - 1 ∧ (s = (-1 : Int32) ∨ σ.1 55 0 k < s)) (σ.1 55 0 k) s) (-1 : Int32) k) ≤ (σ.1 55 0 ((nI k).toNatClampNeg))) => ?_)
                  · (have hih := ih (k + 1) (by omega) (by omega) trivial; have e : mo_fo (fun k s => mo_ite ((σ.1 57 0 k ≤ b ∧ b < σ.1 58 0 k) ∧ σ.1 54 0 k = a ∧ (σ.1 56 0 k = 3 → ¬ z = 0) ∧ σ.1 80 0 (σ.1 55 0 k).toNatClampNeg = σ.1 80 0 a.toNatClampNeg - 1 ∧ (s = (-1 : Int32) ∨ σ.1 55 0 k < s)) (σ.1 55 0 k) s) (-1 : Int32) (k + 1) = mo_fo (fun k s => mo_ite ((σ.1 57 0 k ≤ b ∧ b < σ.1 58 0 k) ∧ σ.1 54 0 k = a ∧ (σ.1 56 0 k = 3 → ¬ z = 0) ∧ σ.1 80 0 (σ.1 55 0 k).toNatClampNeg = σ.1 80 0 a.toNatClampNeg - 1 ∧ (s = (-1 : Int32) ∨ σ.1 55 0 k < s)) (σ.1 55 0 k) s) (-1 : Int32) k := mo_ite_f (by ((try simp only [hkc, mo_bl0, Classical.not_not, ← Int32.not_lt] at c2 c3 c4 c5 c6 c7 c8 ⊢); (try clear ih); (try clear hih); clear hK hQ; grind)); rw [nI_succ, e] at hih; refine hK _ _ _ _ (show mo_X g t_X12_nextOf Q 6 [some (.inr (.inr (50, 0))), some (.inl a), some (.inl b), some (.inr (.inr (80, 0))), some (.inl z), some (.inl (mo_fo (fun k s => mo_ite ((σ.1 57 0 k ≤ b ∧ b < σ.1 58 0 k) ∧ σ.1 54 0 k = a ∧ (σ.1 56 0 k = 3 → ¬ z = 0) ∧ σ.1 80 0 (σ.1 55 0 k).toNatClampNeg = σ.1 80 0 a.toNatClampNeg - 1 ∧ (s = (-1 : Int32) ∨ σ.1 55 0 k < s)) (σ.1 55 0 k) s) (-1 : Int32) k)), some (.inl ((nI k) + (1 : Int32)))] [] (σ) from ?_); (try simp only [hkc]); exact hih)
                  · refine And.intro (show vp_in (nI k) 200 by exact mo_inN (by omega) (by decide)) ?_
                    (have hih := ih (k + 1) (by omega) (by omega) trivial; have e : mo_fo (fun k s => mo_ite ((σ.1 57 0 k ≤ b ∧ b < σ.1 58 0 k) ∧ σ.1 54 0 k = a ∧ (σ.1 56 0 k = 3 → ¬ z = 0) ∧ σ.1 80 0 (σ.1 55 0 k).toNatClampNeg = σ.1 80 0 a.toNatClampNeg - 1 ∧ (s = (-1 : Int32) ∨ σ.1 55 0 k < s)) (σ.1 55 0 k) s) (-1 : Int32) (k + 1) = σ.1 55 0 (k) := mo_ite_t (by ((try simp only [hkc, mo_bl0, Classical.not_not, ← Int32.not_lt] at c2 c3 c4 c5 c6 c7 c8 ⊢); (try clear ih); (try clear hih); clear hK hQ; grind)); rw [nI_succ, e] at hih; refine hK _ _ _ _ (show mo_X g t_X12_nextOf Q 6 [some (.inr (.inr (50, 0))), some (.inl a), some (.inl b), some (.inr (.inr (80, 0))), some (.inl z), some (.inl (σ.1 55 0 ((nI k).toNatClampNeg))), some (.inl ((nI k) + (1 : Int32)))] [] (σ) from ?_); (try simp only [hkc]); exact hih)
              · (have hih := ih (k + 1) (by omega) (by omega) trivial; have e : mo_fo (fun k s => mo_ite ((σ.1 57 0 k ≤ b ∧ b < σ.1 58 0 k) ∧ σ.1 54 0 k = a ∧ (σ.1 56 0 k = 3 → ¬ z = 0) ∧ σ.1 80 0 (σ.1 55 0 k).toNatClampNeg = σ.1 80 0 a.toNatClampNeg - 1 ∧ (s = (-1 : Int32) ∨ σ.1 55 0 k < s)) (σ.1 55 0 k) s) (-1 : Int32) (k + 1) = mo_fo (fun k s => mo_ite ((σ.1 57 0 k ≤ b ∧ b < σ.1 58 0 k) ∧ σ.1 54 0 k = a ∧ (σ.1 56 0 k = 3 → ¬ z = 0) ∧ σ.1 80 0 (σ.1 55 0 k).toNatClampNeg = σ.1 80 0 a.toNatClampNeg - 1 ∧ (s = (-1 : Int32) ∨ σ.1 55 0 k < s)) (σ.1 55 0 k) s) (-1 : Int32) k := mo_ite_f (by ((try simp only [hkc, mo_bl0, Classical.not_not, ← Int32.not_lt] at c2 c3 c4 c5 c6 ⊢); (try clear ih); (try clear hih); clear hK hQ; grind)); rw [nI_succ, e] at hih; refine hK _ _ _ _ (show mo_X g t_X12_nextOf Q 6 [some (.inr (.inr (50, 0))), some (.inl a), some (.inl b), some (.inr (.inr (80, 0))), some (.inl z), some (.inl (mo_fo (fun k s => mo_ite ((σ.1 57 0 k ≤ b ∧ b < σ.1 58 0 k) ∧ σ.1 54 0 k = a ∧ (σ.1 56 0 k = 3 → ¬ z = 0) ∧ σ.1 80 0 (σ.1 55 0 k).toNatClampNeg = σ.1 80 0 a.toNatClampNeg - 1 ∧ (s = (-1 : Int32) ∨ σ.1 55 0 k < s)) (σ.1 55 0 k) s) (-1 : Int32) k)), some (.inl ((nI k) + (1 : Int32)))] [] (σ) from ?_); (try simp only [hkc]); exact hih)
set_option maxRecDepth 20000 in
set_option maxHeartbeats 2000000 in
theorem ct_X12_nextOf80 : mo_ct yX12_nextOf t_X12_nextOf S_X12_nextOf80 := by
  refine mo_ct_of (by decide) rfl ?_
  rintro g as σ Q ⟨a, b, z, rfl, hpre, hQ⟩
  refine ⟨Nat.le_of_ble_eq_true rfl, mo_go ok_X12_nextOf (cs_X12_nextOf80_ok g) [6] 59 ?_⟩
  intro K hK
  exact hK _ _ _ _ (lp_X12_nextOf80 g σ Q a b z _ hpre.1.1.1 hpre.1.1.2 hpre.1.2 hpre.2 hQ ((σ.1 50 0 6).toNatClampNeg + 1) 0 (by omega) (by omega) trivial)
def S_X12_nextOf81 : mo_S := fun as σ Q => ∃ a : Int32, ∃ b : Int32, ∃ z : Int32, as = [.inr (.inr (50, 0)), .inl a, .inl b, .inr (.inr (81, 0)), .inl z] ∧ ((mo_le (σ.1 50 0 6) 200 ∧ ∀ k, k < (σ.1 50 0 6).toNatClampNeg → vp_in (σ.1 55 0 k) 60) ∧ vp_in a 60) ∧ Q (some (.inl (mo_fo (fun k s => mo_ite ((σ.1 57 0 k ≤ b ∧ b < σ.1 58 0 k) ∧ σ.1 54 0 k = a ∧ (σ.1 56 0 k = 3 → ¬ z = 0) ∧ σ.1 81 0 (σ.1 55 0 k).toNatClampNeg = σ.1 81 0 a.toNatClampNeg - 1 ∧ (s = (-1 : Int32) ∨ σ.1 55 0 k < s)) (σ.1 55 0 k) s) (-1 : Int32) (σ.1 50 0 6).toNatClampNeg))) (σ)
theorem m_X12_nextOf81 : ∀ (as : List mo_V) (σ : mo_M) (P P' : mo_Q), (∀ x τ, P x τ → P' x τ) → S_X12_nextOf81 as σ P → S_X12_nextOf81 as σ P' := by
  rintro as σ P P' h ⟨a, b, z, e, hp, hq⟩
  exact ⟨a, b, z, e, hp, h _ _ hq⟩
def cs_X12_nextOf81 : Nat → mo_C := fun j => match j with
  | 0 => (3, true, 150, 12, S_X12_is)
  | _ => (0, false, 0, 50, fun _ _ _ => False)
theorem cs_X12_nextOf81_ok (g : mo_E) : ∀ j, mo_cok g t_X12_nextOf (cs_X12_nextOf81 j) ∧ mo_mon (cs_X12_nextOf81 j) := by
  intro j
  unfold cs_X12_nextOf81
  split
  · exact ⟨mo_cokV ct_X12_is (by decide) ⟨_, _, rfl⟩ (by decide +kernel), m_X12_is⟩
  · exact ⟨mo_cok0 g _, mo_mon0⟩
set_option maxRecDepth 20000 in
set_option maxHeartbeats 2000000 in
theorem lp_X12_nextOf81 (g : mo_E) (σ : mo_M) (Q : mo_Q) (a b z : Int32) (n : Nat) (hn : σ.1 50 0 6 = nI n) (hle : n ≤ 200) (hin : ∀ k, k < n → vp_in (σ.1 55 0 k) 60) (ha : vp_in a 60) (hQ : Q (some (.inl (mo_fo (fun k s => mo_ite ((σ.1 57 0 k ≤ b ∧ b < σ.1 58 0 k) ∧ σ.1 54 0 k = a ∧ (σ.1 56 0 k = 3 → ¬ z = 0) ∧ σ.1 81 0 (σ.1 55 0 k).toNatClampNeg = σ.1 81 0 a.toNatClampNeg - 1 ∧ (s = (-1 : Int32) ∨ σ.1 55 0 k < s)) (σ.1 55 0 k) s) (-1 : Int32) n))) σ) : ∀ (d k : Nat), n < k + d → k ≤ n → (True) → mo_X g t_X12_nextOf Q 6 [some (.inr (.inr (50, 0))), some (.inl a), some (.inl b), some (.inr (.inr (81, 0))), some (.inl z), some (.inl (mo_fo (fun k s => mo_ite ((σ.1 57 0 k ≤ b ∧ b < σ.1 58 0 k) ∧ σ.1 54 0 k = a ∧ (σ.1 56 0 k = 3 → ¬ z = 0) ∧ σ.1 81 0 (σ.1 55 0 k).toNatClampNeg = σ.1 81 0 a.toNatClampNeg - 1 ∧ (s = (-1 : Int32) ∨ σ.1 55 0 k < s)) (σ.1 55 0 k) s) (-1 : Int32) k)), some (.inl (nI k))] [] (σ) := by
  intro d
  induction d with
  | zero => intro k h1 h2; omega
  | succ d ih =>
    intro k h1 h2 hinv
    have hkc : (nI k).toNatClampNeg = k := mo_cl (by omega)
    refine mo_go ok_X12_nextOf (cs_X12_nextOf81_ok g) [6] 59 ?_
    intro K hK
    refine And.intro (fun (c1 : (σ.1 50 0 6) ≤ (nI k)) => ?_) (fun (c1 : ¬ (σ.1 50 0 6) ≤ (nI k)) => ?_)
    · have hk : n ≤ k := mo_cge hn (by omega) (by omega) c1
      (have e : k = n := (by omega); subst e; exact hQ)
    · have hk : k < n := mo_clt hn (by omega) (by omega) c1
      refine Exists.intro (nI k) (Exists.intro b (And.intro rfl (And.intro (show vp_in (nI k) 200 by exact mo_inN (by omega) (by decide)) ?_)))
      refine And.intro (fun (c2 : (mo_bl (σ.1 57 0 (nI k).toNatClampNeg ≤ b ∧ b < σ.1 58 0 (nI k).toNatClampNeg)) = 0) => ?_) (fun (c2 : ¬ (mo_bl (σ.1 57 0 (nI k).toNatClampNeg ≤ b ∧ b < σ.1 58 0 (nI k).toNatClampNeg)) = 0) => ?_)
      · (have hih := ih (k + 1) (by omega) (by omega) trivial; have e : mo_fo (fun k s => mo_ite ((σ.1 57 0 k ≤ b ∧ b < σ.1 58 0 k) ∧ σ.1 54 0 k = a ∧ (σ.1 56 0 k = 3 → ¬ z = 0) ∧ σ.1 81 0 (σ.1 55 0 k).toNatClampNeg = σ.1 81 0 a.toNatClampNeg - 1 ∧ (s = (-1 : Int32) ∨ σ.1 55 0 k < s)) (σ.1 55 0 k) s) (-1 : Int32) (k + 1) = mo_fo (fun k s => mo_ite ((σ.1 57 0 k ≤ b ∧ b < σ.1 58 0 k) ∧ σ.1 54 0 k = a ∧ (σ.1 56 0 k = 3 → ¬ z = 0) ∧ σ.1 81 0 (σ.1 55 0 k).toNatClampNeg = σ.1 81 0 a.toNatClampNeg - 1 ∧ (s = (-1 : Int32) ∨ σ.1 55 0 k < s)) (σ.1 55 0 k) s) (-1 : Int32) k := mo_ite_f (by ((try simp only [hkc, mo_bl0, Classical.not_not, ← Int32.not_lt] at c2 ⊢); (try clear ih); (try clear hih); clear hK hQ; grind)); rw [nI_succ, e] at hih; refine hK _ _ _ _ (show mo_X g t_X12_nextOf Q 6 [some (.inr (.inr (50, 0))), some (.inl a), some (.inl b), some (.inr (.inr (81, 0))), some (.inl z), some (.inl (mo_fo (fun k s => mo_ite ((σ.1 57 0 k ≤ b ∧ b < σ.1 58 0 k) ∧ σ.1 54 0 k = a ∧ (σ.1 56 0 k = 3 → ¬ z = 0) ∧ σ.1 81 0 (σ.1 55 0 k).toNatClampNeg = σ.1 81 0 a.toNatClampNeg - 1 ∧ (s = (-1 : Int32) ∨ σ.1 55 0 k < s)) (σ.1 55 0 k) s) (-1 : Int32) k)), some (.inl ((nI k) + (1 : Int32)))] [] (σ) from ?_); (try simp only [hkc]); exact hih)
      · refine And.intro (show vp_in (nI k) 200 by exact mo_inN (by omega) (by decide)) ?_
        refine And.intro (fun (c3 : ¬ (σ.1 54 0 ((nI k).toNatClampNeg)) = a) => ?_) (fun (c3 : (σ.1 54 0 ((nI k).toNatClampNeg)) = a) => ?_)
        · (have hih := ih (k + 1) (by omega) (by omega) trivial; have e : mo_fo (fun k s => mo_ite ((σ.1 57 0 k ≤ b ∧ b < σ.1 58 0 k) ∧ σ.1 54 0 k = a ∧ (σ.1 56 0 k = 3 → ¬ z = 0) ∧ σ.1 81 0 (σ.1 55 0 k).toNatClampNeg = σ.1 81 0 a.toNatClampNeg - 1 ∧ (s = (-1 : Int32) ∨ σ.1 55 0 k < s)) (σ.1 55 0 k) s) (-1 : Int32) (k + 1) = mo_fo (fun k s => mo_ite ((σ.1 57 0 k ≤ b ∧ b < σ.1 58 0 k) ∧ σ.1 54 0 k = a ∧ (σ.1 56 0 k = 3 → ¬ z = 0) ∧ σ.1 81 0 (σ.1 55 0 k).toNatClampNeg = σ.1 81 0 a.toNatClampNeg - 1 ∧ (s = (-1 : Int32) ∨ σ.1 55 0 k < s)) (σ.1 55 0 k) s) (-1 : Int32) k := mo_ite_f (by ((try simp only [hkc, mo_bl0, Classical.not_not, ← Int32.not_lt] at c2 c3 ⊢); (try clear ih); (try clear hih); clear hK hQ; grind)); rw [nI_succ, e] at hih; refine hK _ _ _ _ (show mo_X g t_X12_nextOf Q 6 [some (.inr (.inr (50, 0))), some (.inl a), some (.inl b), some (.inr (.inr (81, 0))), some (.inl z), some (.inl (mo_fo (fun k s => mo_ite ((σ.1 57 0 k ≤ b ∧ b < σ.1 58 0 k) ∧ σ.1 54 0 k = a ∧ (σ.1 56 0 k = 3 → ¬ z = 0) ∧ σ.1 81 0 (σ.1 55 0 k).toNatClampNeg = σ.1 81 0 a.toNatClampNeg - 1 ∧ (s = (-1 : Int32) ∨ σ.1 55 0 k < s)) (σ.1 55 0 k) s) (-1 : Int32) k)), some (.inl ((nI k) + (1 : Int32)))] [] (σ) from ?_); (try simp only [hkc]); exact hih)
        · refine And.intro (show vp_in (nI k) 200 by exact mo_inN (by omega) (by decide)) ?_
          refine And.intro (fun (c4 : ¬ (σ.1 56 0 ((nI k).toNatClampNeg)) = (3 : Int32)) => ?_) (fun (c4 : (σ.1 56 0 ((nI k).toNatClampNeg)) = (3 : Int32)) => ?_)
          · refine And.intro (show vp_in (nI k) 200 by exact mo_inN (by omega) (by decide)) ?_
            refine And.intro (show vp_in (σ.1 55 0 ((nI k).toNatClampNeg)) 60 by rw [hkc]; exact hin k hk) ?_
            refine And.intro (show vp_in a 60 by exact ha) ?_
            refine And.intro (fun (c5 : (σ.1 81 0 ((σ.1 55 0 ((nI k).toNatClampNeg)).toNatClampNeg)) = ((σ.1 81 0 a.toNatClampNeg) - (1 : Int32))) => ?_) (fun (c5 : ¬ (σ.1 81 0 ((σ.1 55 0 ((nI k).toNatClampNeg)).toNatClampNeg)) = ((σ.1 81 0 a.toNatClampNeg) - (1 : Int32))) => ?_)
            · refine And.intro (fun (c6 : (mo_fo (fun k s => mo_ite ((σ.1 57 0 k ≤ b ∧ b < σ.1 58 0 k) ∧ σ.1 54 0 k = a ∧ (σ.1 56 0 k = 3 → ¬ z = 0) ∧ σ.1 81 0 (σ.1 55 0 k).toNatClampNeg = σ.1 81 0 a.toNatClampNeg - 1 ∧ (s = (-1 : Int32) ∨ σ.1 55 0 k < s)) (σ.1 55 0 k) s) (-1 : Int32) k) = (-1 : Int32)) => ?_) (fun (c6 : ¬ (mo_fo (fun k s => mo_ite ((σ.1 57 0 k ≤ b ∧ b < σ.1 58 0 k) ∧ σ.1 54 0 k = a ∧ (σ.1 56 0 k = 3 → ¬ z = 0) ∧ σ.1 81 0 (σ.1 55 0 k).toNatClampNeg = σ.1 81 0 a.toNatClampNeg - 1 ∧ (s = (-1 : Int32) ∨ σ.1 55 0 k < s)) (σ.1 55 0 k) s) (-1 : Int32) k) = (-1 : Int32)) => ?_)
              · refine And.intro (show vp_in (nI k) 200 by exact mo_inN (by omega) (by decide)) ?_
                (have hih := ih (k + 1) (by omega) (by omega) trivial; have e : mo_fo (fun k s => mo_ite ((σ.1 57 0 k ≤ b ∧ b < σ.1 58 0 k) ∧ σ.1 54 0 k = a ∧ (σ.1 56 0 k = 3 → ¬ z = 0) ∧ σ.1 81 0 (σ.1 55 0 k).toNatClampNeg = σ.1 81 0 a.toNatClampNeg - 1 ∧ (s = (-1 : Int32) ∨ σ.1 55 0 k < s)) (σ.1 55 0 k) s) (-1 : Int32) (k + 1) = σ.1 55 0 (k) := mo_ite_t (by ((try simp only [hkc, mo_bl0, Classical.not_not, ← Int32.not_lt] at c2 c3 c4 c5 c6 ⊢); (try clear ih); (try clear hih); clear hK hQ; grind)); rw [nI_succ, e] at hih; refine hK _ _ _ _ (show mo_X g t_X12_nextOf Q 6 [some (.inr (.inr (50, 0))), some (.inl a), some (.inl b), some (.inr (.inr (81, 0))), some (.inl z), some (.inl (σ.1 55 0 ((nI k).toNatClampNeg))), some (.inl ((nI k) + (1 : Int32)))] [] (σ) from ?_); (try simp only [hkc]); exact hih)
              · refine And.intro (show vp_in (nI k) 200 by exact mo_inN (by omega) (by decide)) ?_
                refine And.intro (fun (c7 : (mo_fo (fun k s => mo_ite ((σ.1 57 0 k ≤ b ∧ b < σ.1 58 0 k) ∧ σ.1 54 0 k = a ∧ (σ.1 56 0 k = 3 → ¬ z = 0) ∧ σ.1 81 0 (σ.1 55 0 k).toNatClampNeg = σ.1 81 0 a.toNatClampNeg - 1 ∧ (s = (-1 : Int32) ∨ σ.1 55 0 k < s)) (σ.1 55 0 k) s) (-1 : Int32) k) ≤ (σ.1 55 0 ((nI k).toNatClampNeg))) => ?_) (fun (c7 : ¬ (mo_fo (fun k s => mo_ite ((σ.1 57 0 k ≤ b ∧ b < σ.1 58 0 k) ∧ σ.1 54 0 k = a ∧ (σ.1 56 0 k = 3 → ¬ z = 0) ∧ σ.1 81 0 (σ.1 55 0 k).toNatClampNeg = σ.1 81 0 a.toNatClampNeg - 1 ∧ (s = (-1 : Int32) ∨ σ.1 55 0 k < s)) (σ.1 55 0 k) s) (-1 : Int32) k) ≤ (σ.1 55 0 ((nI k).toNatClampNeg))) => ?_)
                · (have hih := ih (k + 1) (by omega) (by omega) trivial; have e : mo_fo (fun k s => mo_ite ((σ.1 57 0 k ≤ b ∧ b < σ.1 58 0 k) ∧ σ.1 54 0 k = a ∧ (σ.1 56 0 k = 3 → ¬ z = 0) ∧ σ.1 81 0 (σ.1 55 0 k).toNatClampNeg = σ.1 81 0 a.toNatClampNeg - 1 ∧ (s = (-1 : Int32) ∨ σ.1 55 0 k < s)) (σ.1 55 0 k) s) (-1 : Int32) (k + 1) = mo_fo (fun k s => mo_ite ((σ.1 57 0 k ≤ b ∧ b < σ.1 58 0 k) ∧ σ.1 54 0 k = a ∧ (σ.1 56 0 k = 3 → ¬ z = 0) ∧ σ.1 81 0 (σ.1 55 0 k).toNatClampNeg = σ.1 81 0 a.toNatClampNeg - 1 ∧ (s = (-1 : Int32) ∨ σ.1 55 0 k < s)) (σ.1 55 0 k) s) (-1 : Int32) k := mo_ite_f (by ((try simp only [hkc, mo_bl0, Classical.not_not, ← Int32.not_lt] at c2 c3 c4 c5 c6 c7 ⊢); (try clear ih); (try clear hih); clear hK hQ; grind)); rw [nI_succ, e] at hih; refine hK _ _ _ _ (show mo_X g t_X12_nextOf Q 6 [some (.inr (.inr (50, 0))), some (.inl a), some (.inl b), some (.inr (.inr (81, 0))), some (.inl z), some (.inl (mo_fo (fun k s => mo_ite ((σ.1 57 0 k ≤ b ∧ b < σ.1 58 0 k) ∧ σ.1 54 0 k = a ∧ (σ.1 56 0 k = 3 → ¬ z = 0) ∧ σ.1 81 0 (σ.1 55 0 k).toNatClampNeg = σ.1 81 0 a.toNatClampNeg - 1 ∧ (s = (-1 : Int32) ∨ σ.1 55 0 k < s)) (σ.1 55 0 k) s) (-1 : Int32) k)), some (.inl ((nI k) + (1 : Int32)))] [] (σ) from ?_); (try simp only [hkc]); exact hih)
                · refine And.intro (show vp_in (nI k) 200 by exact mo_inN (by omega) (by decide)) ?_
                  (have hih := ih (k + 1) (by omega) (by omega) trivial; have e : mo_fo (fun k s => mo_ite ((σ.1 57 0 k ≤ b ∧ b < σ.1 58 0 k) ∧ σ.1 54 0 k = a ∧ (σ.1 56 0 k = 3 → ¬ z = 0) ∧ σ.1 81 0 (σ.1 55 0 k).toNatClampNeg = σ.1 81 0 a.toNatClampNeg - 1 ∧ (s = (-1 : Int32) ∨ σ.1 55 0 k < s)) (σ.1 55 0 k) s) (-1 : Int32) (k + 1) = σ.1 55 0 (k) := mo_ite_t (by ((try simp only [hkc, mo_bl0, Classical.not_not, ← Int32.not_lt] at c2 c3 c4 c5 c6 c7 ⊢); (try clear ih); (try clear hih); clear hK hQ; grind)); rw [nI_succ, e] at hih; refine hK _ _ _ _ (show mo_X g t_X12_nextOf Q 6 [some (.inr (.inr (50, 0))), some (.inl a), some (.inl b), some (.inr (.inr (81, 0))), some (.inl z), some (.inl (σ.1 55 0 ((nI k).toNatClampNeg))), some (.inl ((nI k) + (1 : Int32)))] [] (σ) from ?_); (try simp only [hkc]); exact hih)
            · (have hih := ih (k + 1) (by omega) (by omega) trivial; have e : mo_fo (fun k s => mo_ite ((σ.1 57 0 k ≤ b ∧ b < σ.1 58 0 k) ∧ σ.1 54 0 k = a ∧ (σ.1 56 0 k = 3 → ¬ z = 0) ∧ σ.1 81 0 (σ.1 55 0 k).toNatClampNeg = σ.1 81 0 a.toNatClampNeg - 1 ∧ (s = (-1 : Int32) ∨ σ.1 55 0 k < s)) (σ.1 55 0 k) s) (-1 : Int32) (k + 1) = mo_fo (fun k s => mo_ite ((σ.1 57 0 k ≤ b ∧ b < σ.1 58 0 k) ∧ σ.1 54 0 k = a ∧ (σ.1 56 0 k = 3 → ¬ z = 0) ∧ σ.1 81 0 (σ.1 55 0 k).toNatClampNeg = σ.1 81 0 a.toNatClampNeg - 1 ∧ (s = (-1 : Int32) ∨ σ.1 55 0 k < s)) (σ.1 55 0 k) s) (-1 : Int32) k := mo_ite_f (by ((try simp only [hkc, mo_bl0, Classical.not_not, ← Int32.not_lt] at c2 c3 c4 c5 ⊢); (try clear ih); (try clear hih); clear hK hQ; grind)); rw [nI_succ, e] at hih; refine hK _ _ _ _ (show mo_X g t_X12_nextOf Q 6 [some (.inr (.inr (50, 0))), some (.inl a), some (.inl b), some (.inr (.inr (81, 0))), some (.inl z), some (.inl (mo_fo (fun k s => mo_ite ((σ.1 57 0 k ≤ b ∧ b < σ.1 58 0 k) ∧ σ.1 54 0 k = a ∧ (σ.1 56 0 k = 3 → ¬ z = 0) ∧ σ.1 81 0 (σ.1 55 0 k).toNatClampNeg = σ.1 81 0 a.toNatClampNeg - 1 ∧ (s = (-1 : Int32) ∨ σ.1 55 0 k < s)) (σ.1 55 0 k) s) (-1 : Int32) k)), some (.inl ((nI k) + (1 : Int32)))] [] (σ) from ?_); (try simp only [hkc]); exact hih)
          · refine And.intro (fun (c5 : z = 0) => ?_) (fun (c5 : ¬ z = 0) => ?_)
            · (have hih := ih (k + 1) (by omega) (by omega) trivial; have e : mo_fo (fun k s => mo_ite ((σ.1 57 0 k ≤ b ∧ b < σ.1 58 0 k) ∧ σ.1 54 0 k = a ∧ (σ.1 56 0 k = 3 → ¬ z = 0) ∧ σ.1 81 0 (σ.1 55 0 k).toNatClampNeg = σ.1 81 0 a.toNatClampNeg - 1 ∧ (s = (-1 : Int32) ∨ σ.1 55 0 k < s)) (σ.1 55 0 k) s) (-1 : Int32) (k + 1) = mo_fo (fun k s => mo_ite ((σ.1 57 0 k ≤ b ∧ b < σ.1 58 0 k) ∧ σ.1 54 0 k = a ∧ (σ.1 56 0 k = 3 → ¬ z = 0) ∧ σ.1 81 0 (σ.1 55 0 k).toNatClampNeg = σ.1 81 0 a.toNatClampNeg - 1 ∧ (s = (-1 : Int32) ∨ σ.1 55 0 k < s)) (σ.1 55 0 k) s) (-1 : Int32) k := mo_ite_f (by ((try simp only [hkc, mo_bl0, Classical.not_not, ← Int32.not_lt] at c2 c3 c4 c5 ⊢); (try clear ih); (try clear hih); clear hK hQ; grind)); rw [nI_succ, e] at hih; refine hK _ _ _ _ (show mo_X g t_X12_nextOf Q 6 [some (.inr (.inr (50, 0))), some (.inl a), some (.inl b), some (.inr (.inr (81, 0))), some (.inl z), some (.inl (mo_fo (fun k s => mo_ite ((σ.1 57 0 k ≤ b ∧ b < σ.1 58 0 k) ∧ σ.1 54 0 k = a ∧ (σ.1 56 0 k = 3 → ¬ z = 0) ∧ σ.1 81 0 (σ.1 55 0 k).toNatClampNeg = σ.1 81 0 a.toNatClampNeg - 1 ∧ (s = (-1 : Int32) ∨ σ.1 55 0 k < s)) (σ.1 55 0 k) s) (-1 : Int32) k)), some (.inl ((nI k) + (1 : Int32)))] [] (σ) from ?_); (try simp only [hkc]); exact hih)
            · refine And.intro (show vp_in (nI k) 200 by exact mo_inN (by omega) (by decide)) ?_
              refine And.intro (show vp_in (σ.1 55 0 ((nI k).toNatClampNeg)) 60 by rw [hkc]; exact hin k hk) ?_
              refine And.intro (show vp_in a 60 by exact ha) ?_
              refine And.intro (fun (c6 : (σ.1 81 0 ((σ.1 55 0 ((nI k).toNatClampNeg)).toNatClampNeg)) = ((σ.1 81 0 a.toNatClampNeg) - (1 : Int32))) => ?_) (fun (c6 : ¬ (σ.1 81 0 ((σ.1 55 0 ((nI k).toNatClampNeg)).toNatClampNeg)) = ((σ.1 81 0 a.toNatClampNeg) - (1 : Int32))) => ?_)
              · refine And.intro (fun (c7 : (mo_fo (fun k s => mo_ite ((σ.1 57 0 k ≤ b ∧ b < σ.1 58 0 k) ∧ σ.1 54 0 k = a ∧ (σ.1 56 0 k = 3 → ¬ z = 0) ∧ σ.1 81 0 (σ.1 55 0 k).toNatClampNeg = σ.1 81 0 a.toNatClampNeg - 1 ∧ (s = (-1 : Int32) ∨ σ.1 55 0 k < s)) (σ.1 55 0 k) s) (-1 : Int32) k) = (-1 : Int32)) => ?_) (fun (c7 : ¬ (mo_fo (fun k s => mo_ite ((σ.1 57 0 k ≤ b ∧ b < σ.1 58 0 k) ∧ σ.1 54 0 k = a ∧ (σ.1 56 0 k = 3 → ¬ z = 0) ∧ σ.1 81 0 (σ.1 55 0 k).toNatClampNeg = σ.1 81 0 a.toNatClampNeg - 1 ∧ (s = (-1 : Int32) ∨ σ.1 55 0 k < s)) (σ.1 55 0 k) s) (-1 : Int32) k) = (-1 : Int32)) => ?_)
                · refine And.intro (show vp_in (nI k) 200 by exact mo_inN (by omega) (by decide)) ?_
                  (have hih := ih (k + 1) (by omega) (by omega) trivial; have e : mo_fo (fun k s => mo_ite ((σ.1 57 0 k ≤ b ∧ b < σ.1 58 0 k) ∧ σ.1 54 0 k = a ∧ (σ.1 56 0 k = 3 → ¬ z = 0) ∧ σ.1 81 0 (σ.1 55 0 k).toNatClampNeg = σ.1 81 0 a.toNatClampNeg - 1 ∧ (s = (-1 : Int32) ∨ σ.1 55 0 k < s)) (σ.1 55 0 k) s) (-1 : Int32) (k + 1) = σ.1 55 0 (k) := mo_ite_t (by ((try simp only [hkc, mo_bl0, Classical.not_not, ← Int32.not_lt] at c2 c3 c4 c5 c6 c7 ⊢); (try clear ih); (try clear hih); clear hK hQ; grind)); rw [nI_succ, e] at hih; refine hK _ _ _ _ (show mo_X g t_X12_nextOf Q 6 [some (.inr (.inr (50, 0))), some (.inl a), some (.inl b), some (.inr (.inr (81, 0))), some (.inl z), some (.inl (σ.1 55 0 ((nI k).toNatClampNeg))), some (.inl ((nI k) + (1 : Int32)))] [] (σ) from ?_); (try simp only [hkc]); exact hih)
                · refine And.intro (show vp_in (nI k) 200 by exact mo_inN (by omega) (by decide)) ?_
                  refine And.intro (fun (c8 : (mo_fo (fun k s => mo_ite ((σ.1 57 0 k ≤ b ∧ b < σ.1 58 0 k) ∧ σ.1 54 0 k = a ∧ (σ.1 56 0 k = 3 → ¬ z = 0) ∧ σ.1 81 0 (σ.1 55 0 k).toNatClampNeg = σ.1 81 0 a.toNatClampNeg - 1 ∧ (s = (-1 : Int32) ∨ σ.1 55 0 k < s)) (σ.1 55 0 k) s) (-1 : Int32) k) ≤ (σ.1 55 0 ((nI k).toNatClampNeg))) => ?_) (fun (c8 : ¬ (mo_fo (fun k s => mo_ite ((σ.1 57 0 k ≤ b ∧ b < σ.1 58 0 k) ∧ σ.1 54 0 k = a ∧ (σ.1 56 0 k = 3 → ¬ z = 0) ∧ σ.1 81 0 (σ.1 55 0 k).toNatClampNeg = σ.1 81 0 a.toNatClampNeg - 1 ∧ (s = (-1 : Int32) ∨ σ.1 55 0 k < s)) (σ.1 55 0 k) s) (-1 : Int32) k) ≤ (σ.1 55 0 ((nI k).toNatClampNeg))) => ?_)
                  · (have hih := ih (k + 1) (by omega) (by omega) trivial; have e : mo_fo (fun k s => mo_ite ((σ.1 57 0 k ≤ b ∧ b < σ.1 58 0 k) ∧ σ.1 54 0 k = a ∧ (σ.1 56 0 k = 3 → ¬ z = 0) ∧ σ.1 81 0 (σ.1 55 0 k).toNatClampNeg = σ.1 81 0 a.toNatClampNeg - 1 ∧ (s = (-1 : Int32) ∨ σ.1 55 0 k < s)) (σ.1 55 0 k) s) (-1 : Int32) (k + 1) = mo_fo (fun k s => mo_ite ((σ.1 57 0 k ≤ b ∧ b < σ.1 58 0 k) ∧ σ.1 54 0 k = a ∧ (σ.1 56 0 k = 3 → ¬ z = 0) ∧ σ.1 81 0 (σ.1 55 0 k).toNatClampNeg = σ.1 81 0 a.toNatClampNeg - 1 ∧ (s = (-1 : Int32) ∨ σ.1 55 0 k < s)) (σ.1 55 0 k) s) (-1 : Int32) k := mo_ite_f (by ((try simp only [hkc, mo_bl0, Classical.not_not, ← Int32.not_lt] at c2 c3 c4 c5 c6 c7 c8 ⊢); (try clear ih); (try clear hih); clear hK hQ; grind)); rw [nI_succ, e] at hih; refine hK _ _ _ _ (show mo_X g t_X12_nextOf Q 6 [some (.inr (.inr (50, 0))), some (.inl a), some (.inl b), some (.inr (.inr (81, 0))), some (.inl z), some (.inl (mo_fo (fun k s => mo_ite ((σ.1 57 0 k ≤ b ∧ b < σ.1 58 0 k) ∧ σ.1 54 0 k = a ∧ (σ.1 56 0 k = 3 → ¬ z = 0) ∧ σ.1 81 0 (σ.1 55 0 k).toNatClampNeg = σ.1 81 0 a.toNatClampNeg - 1 ∧ (s = (-1 : Int32) ∨ σ.1 55 0 k < s)) (σ.1 55 0 k) s) (-1 : Int32) k)), some (.inl ((nI k) + (1 : Int32)))] [] (σ) from ?_); (try simp only [hkc]); exact hih)
                  · refine And.intro (show vp_in (nI k) 200 by exact mo_inN (by omega) (by decide)) ?_
                    (have hih := ih (k + 1) (by omega) (by omega) trivial; have e : mo_fo (fun k s => mo_ite ((σ.1 57 0 k ≤ b ∧ b < σ.1 58 0 k) ∧ σ.1 54 0 k = a ∧ (σ.1 56 0 k = 3 → ¬ z = 0) ∧ σ.1 81 0 (σ.1 55 0 k).toNatClampNeg = σ.1 81 0 a.toNatClampNeg - 1 ∧ (s = (-1 : Int32) ∨ σ.1 55 0 k < s)) (σ.1 55 0 k) s) (-1 : Int32) (k + 1) = σ.1 55 0 (k) := mo_ite_t (by ((try simp only [hkc, mo_bl0, Classical.not_not, ← Int32.not_lt] at c2 c3 c4 c5 c6 c7 c8 ⊢); (try clear ih); (try clear hih); clear hK hQ; grind)); rw [nI_succ, e] at hih; refine hK _ _ _ _ (show mo_X g t_X12_nextOf Q 6 [some (.inr (.inr (50, 0))), some (.inl a), some (.inl b), some (.inr (.inr (81, 0))), some (.inl z), some (.inl (σ.1 55 0 ((nI k).toNatClampNeg))), some (.inl ((nI k) + (1 : Int32)))] [] (σ) from ?_); (try simp only [hkc]); exact hih)
              · (have hih := ih (k + 1) (by omega) (by omega) trivial; have e : mo_fo (fun k s => mo_ite ((σ.1 57 0 k ≤ b ∧ b < σ.1 58 0 k) ∧ σ.1 54 0 k = a ∧ (σ.1 56 0 k = 3 → ¬ z = 0) ∧ σ.1 81 0 (σ.1 55 0 k).toNatClampNeg = σ.1 81 0 a.toNatClampNeg - 1 ∧ (s = (-1 : Int32) ∨ σ.1 55 0 k < s)) (σ.1 55 0 k) s) (-1 : Int32) (k + 1) = mo_fo (fun k s => mo_ite ((σ.1 57 0 k ≤ b ∧ b < σ.1 58 0 k) ∧ σ.1 54 0 k = a ∧ (σ.1 56 0 k = 3 → ¬ z = 0) ∧ σ.1 81 0 (σ.1 55 0 k).toNatClampNeg = σ.1 81 0 a.toNatClampNeg - 1 ∧ (s = (-1 : Int32) ∨ σ.1 55 0 k < s)) (σ.1 55 0 k) s) (-1 : Int32) k := mo_ite_f (by ((try simp only [hkc, mo_bl0, Classical.not_not, ← Int32.not_lt] at c2 c3 c4 c5 c6 ⊢); (try clear ih); (try clear hih); clear hK hQ; grind)); rw [nI_succ, e] at hih; refine hK _ _ _ _ (show mo_X g t_X12_nextOf Q 6 [some (.inr (.inr (50, 0))), some (.inl a), some (.inl b), some (.inr (.inr (81, 0))), some (.inl z), some (.inl (mo_fo (fun k s => mo_ite ((σ.1 57 0 k ≤ b ∧ b < σ.1 58 0 k) ∧ σ.1 54 0 k = a ∧ (σ.1 56 0 k = 3 → ¬ z = 0) ∧ σ.1 81 0 (σ.1 55 0 k).toNatClampNeg = σ.1 81 0 a.toNatClampNeg - 1 ∧ (s = (-1 : Int32) ∨ σ.1 55 0 k < s)) (σ.1 55 0 k) s) (-1 : Int32) k)), some (.inl ((nI k) + (1 : Int32)))] [] (σ) from ?_); (try simp only [hkc]); exact hih)
set_option maxRecDepth 20000 in
set_option maxHeartbeats 2000000 in
theorem ct_X12_nextOf81 : mo_ct yX12_nextOf t_X12_nextOf S_X12_nextOf81 := by
  refine mo_ct_of (by decide) rfl ?_
  rintro g as σ Q ⟨a, b, z, rfl, hpre, hQ⟩
  refine ⟨Nat.le_of_ble_eq_true rfl, mo_go ok_X12_nextOf (cs_X12_nextOf81_ok g) [6] 59 ?_⟩
  intro K hK
  exact hK _ _ _ _ (lp_X12_nextOf81 g σ Q a b z _ hpre.1.1.1 hpre.1.1.2 hpre.1.2 hpre.2 hQ ((σ.1 50 0 6).toNatClampNeg + 1) 0 (by omega) (by omega) trivial)
def mo_many (a : Int32) : Int32 := mo_fo (fun k s => s + (a >>> (nI k &&& 31) &&& (1 : Int32))) 0 10
def S_X12_calls : mo_S := fun as σ Q => ∃ a : Int32, as = [.inr (.inr (50, 0)), .inl a] ∧ (mo_le (σ.1 50 0 6) 200 ∧ ∀ u, u < (σ.1 50 0 6).toNatClampNeg → vp_in (σ.1 54 0 u) 60 ∧ vp_in (σ.1 55 0 u) 60 ∧ vp_in (σ.1 52 0 (σ.1 54 0 u).toNatClampNeg) 30 ∧ vp_in (σ.1 52 0 (σ.1 55 0 u).toNatClampNeg) 30) ∧ Q (some (.inl (mo_ite (0 ≤ a ∧ a ≤ (10000 : Int32)) (mo_fo (fun k s => mo_ite ((∀ u, u < (σ.1 50 0 6).toNatClampNeg → ¬ ((σ.1 57 0 u ≤ a ∧ a < σ.1 58 0 u) ∧ σ.1 56 0 u = 3 ∧ nI k >>> (σ.1 51 0 (σ.1 52 0 (σ.1 54 0 u).toNatClampNeg).toNatClampNeg &&& 31) &&& 1 = 0 ∧ nI k >>> (σ.1 51 0 (σ.1 52 0 (σ.1 55 0 u).toNatClampNeg).toNatClampNeg &&& 31) &&& 1 = 0)) ∧ mo_many (nI k) < mo_many s) (nI k) s) (1023 : Int32) 1024) (-1 : Int32)))) (σ)
theorem m_X12_calls : ∀ (as : List mo_V) (σ : mo_M) (P P' : mo_Q), (∀ x τ, P x τ → P' x τ) → S_X12_calls as σ P → S_X12_calls as σ P' := by
  rintro as σ P P' h ⟨a, e, hp, hq⟩
  exact ⟨a, e, hp, h _ _ hq⟩
def cs_X12_calls : Nat → mo_C := fun j => match j with
  | 0 => (1, false, 141, 50, S_X12_isDay)
  | 1 => (3, true, 279, 12, S_X12_settles)
  | 2 => (1, false, 282, 50, S_X12_many)
  | _ => (0, false, 0, 50, fun _ _ _ => False)
theorem cs_X12_calls_ok (g : mo_E) : ∀ j, mo_cok g t_X12_calls (cs_X12_calls j) ∧ mo_mon (cs_X12_calls j) := by
  intro j
  unfold cs_X12_calls
  split
  · exact ⟨mo_cokS ct_X12_isDay (by decide +kernel), m_X12_isDay⟩
  · exact ⟨mo_cokV ct_X12_settles (by decide) ⟨_, _, rfl⟩ (by decide +kernel), m_X12_settles⟩
  · exact ⟨mo_cokS ct_X12_many (by decide +kernel), m_X12_many⟩
  · exact ⟨mo_cok0 g _, mo_mon0⟩
set_option maxRecDepth 20000 in
set_option maxHeartbeats 2000000 in
theorem lp_X12_calls (g : mo_E) (σ : mo_M) (Q : mo_Q) (a : Int32) (n : Nat) (hn : (1024 : Int32) = nI n) (hle : n ≤ 1024) (hp : mo_le (σ.1 50 0 6) 200 ∧ ∀ u, u < (σ.1 50 0 6).toNatClampNeg → vp_in (σ.1 54 0 u) 60 ∧ vp_in (σ.1 55 0 u) 60 ∧ vp_in (σ.1 52 0 (σ.1 54 0 u).toNatClampNeg) 30 ∧ vp_in (σ.1 52 0 (σ.1 55 0 u).toNatClampNeg) 30) (hQ : Q (some (.inl (mo_fo (fun k s => mo_ite ((∀ u, u < (σ.1 50 0 6).toNatClampNeg → ¬ ((σ.1 57 0 u ≤ a ∧ a < σ.1 58 0 u) ∧ σ.1 56 0 u = 3 ∧ nI k >>> (σ.1 51 0 (σ.1 52 0 (σ.1 54 0 u).toNatClampNeg).toNatClampNeg &&& 31) &&& 1 = 0 ∧ nI k >>> (σ.1 51 0 (σ.1 52 0 (σ.1 55 0 u).toNatClampNeg).toNatClampNeg &&& 31) &&& 1 = 0)) ∧ mo_many (nI k) < mo_many s) (nI k) s) (1023 : Int32) n))) σ) : ∀ (d k : Nat), n < k + d → k ≤ n → (True) → mo_X g t_X12_calls Q 15 [some (.inr (.inr (50, 0))), some (.inl a), some (.inl (mo_fo (fun k s => mo_ite ((∀ u, u < (σ.1 50 0 6).toNatClampNeg → ¬ ((σ.1 57 0 u ≤ a ∧ a < σ.1 58 0 u) ∧ σ.1 56 0 u = 3 ∧ nI k >>> (σ.1 51 0 (σ.1 52 0 (σ.1 54 0 u).toNatClampNeg).toNatClampNeg &&& 31) &&& 1 = 0 ∧ nI k >>> (σ.1 51 0 (σ.1 52 0 (σ.1 55 0 u).toNatClampNeg).toNatClampNeg &&& 31) &&& 1 = 0)) ∧ mo_many (nI k) < mo_many s) (nI k) s) (1023 : Int32) k)), some (.inl (nI k))] [] (σ) := by
  intro d
  induction d with
  | zero => intro k h1 h2; omega
  | succ d ih =>
    intro k h1 h2 hinv
    have hkc : (nI k).toNatClampNeg = k := mo_cl (by omega)
    refine mo_go ok_X12_calls (cs_X12_calls_ok g) [15] 29 ?_
    intro K hK
    refine And.intro (fun (c1 : (1024 : Int32) ≤ (nI k)) => ?_) (fun (c1 : ¬ (1024 : Int32) ≤ (nI k)) => ?_)
    · have hk : n ≤ k := mo_cge hn (by omega) (by omega) c1
      (have e : k = n := (by omega); subst e; exact hQ)
    · have hk : k < n := mo_clt hn (by omega) (by omega) c1
      refine Exists.intro (nI k) (Exists.intro a (And.intro rfl (And.intro (show mo_le (σ.1 50 0 6) 200 ∧ ∀ u_, u_ < (σ.1 50 0 6).toNatClampNeg → vp_in (σ.1 54 0 u_) 60 ∧ vp_in (σ.1 55 0 u_) 60 ∧ vp_in (σ.1 52 0 (σ.1 54 0 u_).toNatClampNeg) 30 ∧ vp_in (σ.1 52 0 (σ.1 55 0 u_).toNatClampNeg) 30 by exact hp) ?_)))
      refine And.intro (fun (c2 : (mo_bl (∀ u_, u_ < (σ.1 50 0 6).toNatClampNeg → ¬ ((σ.1 57 0 u_ ≤ a ∧ a < σ.1 58 0 u_) ∧ σ.1 56 0 u_ = 3 ∧ (nI k) >>> (σ.1 51 0 (σ.1 52 0 (σ.1 54 0 u_).toNatClampNeg).toNatClampNeg &&& 31) &&& 1 = 0 ∧ (nI k) >>> (σ.1 51 0 (σ.1 52 0 (σ.1 55 0 u_).toNatClampNeg).toNatClampNeg &&& 31) &&& 1 = 0))) = 0) => ?_) (fun (c2 : ¬ (mo_bl (∀ u_, u_ < (σ.1 50 0 6).toNatClampNeg → ¬ ((σ.1 57 0 u_ ≤ a ∧ a < σ.1 58 0 u_) ∧ σ.1 56 0 u_ = 3 ∧ (nI k) >>> (σ.1 51 0 (σ.1 52 0 (σ.1 54 0 u_).toNatClampNeg).toNatClampNeg &&& 31) &&& 1 = 0 ∧ (nI k) >>> (σ.1 51 0 (σ.1 52 0 (σ.1 55 0 u_).toNatClampNeg).toNatClampNeg &&& 31) &&& 1 = 0))) = 0) => ?_)
      · (have hih := ih (k + 1) (by omega) (by omega) trivial; have e : mo_fo (fun k s => mo_ite ((∀ u, u < (σ.1 50 0 6).toNatClampNeg → ¬ ((σ.1 57 0 u ≤ a ∧ a < σ.1 58 0 u) ∧ σ.1 56 0 u = 3 ∧ nI k >>> (σ.1 51 0 (σ.1 52 0 (σ.1 54 0 u).toNatClampNeg).toNatClampNeg &&& 31) &&& 1 = 0 ∧ nI k >>> (σ.1 51 0 (σ.1 52 0 (σ.1 55 0 u).toNatClampNeg).toNatClampNeg &&& 31) &&& 1 = 0)) ∧ mo_many (nI k) < mo_many s) (nI k) s) (1023 : Int32) (k + 1) = mo_fo (fun k s => mo_ite ((∀ u, u < (σ.1 50 0 6).toNatClampNeg → ¬ ((σ.1 57 0 u ≤ a ∧ a < σ.1 58 0 u) ∧ σ.1 56 0 u = 3 ∧ nI k >>> (σ.1 51 0 (σ.1 52 0 (σ.1 54 0 u).toNatClampNeg).toNatClampNeg &&& 31) &&& 1 = 0 ∧ nI k >>> (σ.1 51 0 (σ.1 52 0 (σ.1 55 0 u).toNatClampNeg).toNatClampNeg &&& 31) &&& 1 = 0)) ∧ mo_many (nI k) < mo_many s) (nI k) s) (1023 : Int32) k := mo_ite_f (fun q => mo_bl0.mp c2 q.1); rw [nI_succ, e] at hih; exact hK _ _ _ _ hih)
      · refine Exists.intro (nI k) (And.intro rfl (And.intro (show True by trivial) ?_))
        refine Exists.intro (mo_fo (fun k s => mo_ite ((∀ u, u < (σ.1 50 0 6).toNatClampNeg → ¬ ((σ.1 57 0 u ≤ a ∧ a < σ.1 58 0 u) ∧ σ.1 56 0 u = 3 ∧ nI k >>> (σ.1 51 0 (σ.1 52 0 (σ.1 54 0 u).toNatClampNeg).toNatClampNeg &&& 31) &&& 1 = 0 ∧ nI k >>> (σ.1 51 0 (σ.1 52 0 (σ.1 55 0 u).toNatClampNeg).toNatClampNeg &&& 31) &&& 1 = 0)) ∧ mo_many (nI k) < mo_many s) (nI k) s) (1023 : Int32) k) (And.intro rfl (And.intro (show True by trivial) ?_))
        refine And.intro (fun (c3 : (mo_many (mo_fo (fun k s => mo_ite ((∀ u, u < (σ.1 50 0 6).toNatClampNeg → ¬ ((σ.1 57 0 u ≤ a ∧ a < σ.1 58 0 u) ∧ σ.1 56 0 u = 3 ∧ nI k >>> (σ.1 51 0 (σ.1 52 0 (σ.1 54 0 u).toNatClampNeg).toNatClampNeg &&& 31) &&& 1 = 0 ∧ nI k >>> (σ.1 51 0 (σ.1 52 0 (σ.1 55 0 u).toNatClampNeg).toNatClampNeg &&& 31) &&& 1 = 0)) ∧ mo_many (nI k) < mo_many s) (nI k) s) (1023 : Int32) k)) ≤ (mo_many (nI k))) => ?_) (fun (c3 : ¬ (mo_many (mo_fo (fun k s => mo_ite ((∀ u, u < (σ.1 50 0 6).toNatClampNeg → ¬ ((σ.1 57 0 u ≤ a ∧ a < σ.1 58 0 u) ∧ σ.1 56 0 u = 3 ∧ nI k >>> (σ.1 51 0 (σ.1 52 0 (σ.1 54 0 u).toNatClampNeg).toNatClampNeg &&& 31) &&& 1 = 0 ∧ nI k >>> (σ.1 51 0 (σ.1 52 0 (σ.1 55 0 u).toNatClampNeg).toNatClampNeg &&& 31) &&& 1 = 0)) ∧ mo_many (nI k) < mo_many s) (nI k) s) (1023 : Int32) k)) ≤ (mo_many (nI k))) => ?_)
        · (have hih := ih (k + 1) (by omega) (by omega) trivial; have e : mo_fo (fun k s => mo_ite ((∀ u, u < (σ.1 50 0 6).toNatClampNeg → ¬ ((σ.1 57 0 u ≤ a ∧ a < σ.1 58 0 u) ∧ σ.1 56 0 u = 3 ∧ nI k >>> (σ.1 51 0 (σ.1 52 0 (σ.1 54 0 u).toNatClampNeg).toNatClampNeg &&& 31) &&& 1 = 0 ∧ nI k >>> (σ.1 51 0 (σ.1 52 0 (σ.1 55 0 u).toNatClampNeg).toNatClampNeg &&& 31) &&& 1 = 0)) ∧ mo_many (nI k) < mo_many s) (nI k) s) (1023 : Int32) (k + 1) = mo_fo (fun k s => mo_ite ((∀ u, u < (σ.1 50 0 6).toNatClampNeg → ¬ ((σ.1 57 0 u ≤ a ∧ a < σ.1 58 0 u) ∧ σ.1 56 0 u = 3 ∧ nI k >>> (σ.1 51 0 (σ.1 52 0 (σ.1 54 0 u).toNatClampNeg).toNatClampNeg &&& 31) &&& 1 = 0 ∧ nI k >>> (σ.1 51 0 (σ.1 52 0 (σ.1 55 0 u).toNatClampNeg).toNatClampNeg &&& 31) &&& 1 = 0)) ∧ mo_many (nI k) < mo_many s) (nI k) s) (1023 : Int32) k := mo_ite_f (fun q => absurd q.2 (Int32.not_lt.mpr c3)); rw [nI_succ, e] at hih; exact hK _ _ _ _ hih)
        · (have hih := ih (k + 1) (by omega) (by omega) trivial; have e : mo_fo (fun k s => mo_ite ((∀ u, u < (σ.1 50 0 6).toNatClampNeg → ¬ ((σ.1 57 0 u ≤ a ∧ a < σ.1 58 0 u) ∧ σ.1 56 0 u = 3 ∧ nI k >>> (σ.1 51 0 (σ.1 52 0 (σ.1 54 0 u).toNatClampNeg).toNatClampNeg &&& 31) &&& 1 = 0 ∧ nI k >>> (σ.1 51 0 (σ.1 52 0 (σ.1 55 0 u).toNatClampNeg).toNatClampNeg &&& 31) &&& 1 = 0)) ∧ mo_many (nI k) < mo_many s) (nI k) s) (1023 : Int32) (k + 1) = nI k := mo_ite_t ⟨mo_blT c2, Int32.not_le.mp c3⟩; rw [nI_succ, e] at hih; exact hK _ _ _ _ hih)
set_option maxRecDepth 20000 in
set_option maxHeartbeats 2000000 in
theorem ct_X12_calls : mo_ct yX12_calls t_X12_calls S_X12_calls := by
  refine mo_ct_of (by decide) rfl ?_
  rintro g as σ Q ⟨a, rfl, hpre, hQ⟩
  refine ⟨Nat.le_of_ble_eq_true rfl, mo_go ok_X12_calls (cs_X12_calls_ok g) [15] 29 ?_⟩
  intro K hK
  refine Exists.intro a (And.intro rfl (And.intro (show True by trivial) ?_))
  refine And.intro (fun (c1 : ¬ (mo_bl (0 ≤ a ∧ a ≤ (10000 : Int32))) = 0) => ?_) (fun (c1 : (mo_bl (0 ≤ a ∧ a ≤ (10000 : Int32))) = 0) => ?_)
  · (rw [mo_ite_t (mo_blT c1)] at hQ; exact hK _ _ _ _ (lp_X12_calls g σ Q a 1024 rfl (by omega) hpre hQ 1025 0 (by omega) (by omega) trivial))
  · exact mo_q hQ (by rw [mo_ite_f (mo_bl0.mp c1)]; rfl) rfl
end
section
def S_J9_max_7cf53 : mo_S := fun as σ Q => ∃ a : Int32, ∃ b : Int32, as = [.inl a, .inl b] ∧ (True) ∧ Q (some (.inl (if a < b then b else a))) (σ)
theorem m_J9_max_7cf53 : ∀ (as : List mo_V) (σ : mo_M) (P P' : mo_Q), (∀ x τ, P x τ → P' x τ) → S_J9_max_7cf53 as σ P → S_J9_max_7cf53 as σ P' := by
  rintro as σ P P' h ⟨a, b, e, hp, hq⟩
  exact ⟨a, b, e, hp, h _ _ hq⟩
def mo_mmax (own : String) (R : Room) (i : Nat) : Bool := (mo_gB (.methodLink own i yJ9_max_7cf53) && (mo_gB (.static yJ9_max_7cf53) && (mo_gB (.initialized "java/lang/Math") && mo_gB (.code yJ9_max_7cf53 cJ9_max_7cf53 2 (some .int))))) && decide (1 ≤ R.frames ∧ 21 ≤ R.locals)
set_option maxHeartbeats 2000000 in
theorem ck_J9_max_7cf53 {g : mo_E} {mt : mo_T} {i : Nat} (h : mo_mmax mt.2.1 mt.2.2.2.2 i = true) : mo_cok g mt (2, false, i, 50, S_J9_max_7cf53) := by
  unfold mo_mmax at h
  simp only [Bool.and_eq_true, decide_eq_true_eq] at h
  obtain ⟨⟨h1, h2, h3, h4⟩, h5, h6⟩ := h
  intro pc hd Q ls as rest σ hn hcat hrc hsp
  obtain ⟨a, b, rfl, -, hX⟩ := hsp
  intro p l e s m args below meth c cells slots QQ C H locs A hP hS hl
  obtain ⟨hx, hb, hml, hown, hw, hok, hcs, hret⟩ := id C
  exact va_mmax (rest := rest.map (mo_cv g.2.2.1)) hx hb (hml.trans hl.1.symm) hown (hw _ (mo_gB_of h1)) (hw _ (mo_gB_of h2)) (hw _ (mo_gB_of h3)) (hw _ (mo_gB_of h4)) h5 (by rw [mo_catv]; omega) hcs.1 hcs.2 hd (hX p l e s m args below meth c cells slots QQ C H locs A hP hS hl)
def S_J9_min_7cf53 : mo_S := fun as σ Q => ∃ a : Int32, ∃ b : Int32, as = [.inl a, .inl b] ∧ (True) ∧ Q (some (.inl (if b < a then b else a))) (σ)
theorem m_J9_min_7cf53 : ∀ (as : List mo_V) (σ : mo_M) (P P' : mo_Q), (∀ x τ, P x τ → P' x τ) → S_J9_min_7cf53 as σ P → S_J9_min_7cf53 as σ P' := by
  rintro as σ P P' h ⟨a, b, e, hp, hq⟩
  exact ⟨a, b, e, hp, h _ _ hq⟩
def mo_mmin (own : String) (R : Room) (i : Nat) : Bool := (mo_gB (.methodLink own i yJ9_min_7cf53) && (mo_gB (.static yJ9_min_7cf53) && (mo_gB (.initialized "java/lang/Math") && mo_gB (.code yJ9_min_7cf53 cJ9_min_7cf53 2 (some .int))))) && decide (1 ≤ R.frames ∧ 21 ≤ R.locals)
set_option maxHeartbeats 2000000 in
theorem ck_J9_min_7cf53 {g : mo_E} {mt : mo_T} {i : Nat} (h : mo_mmin mt.2.1 mt.2.2.2.2 i = true) : mo_cok g mt (2, false, i, 50, S_J9_min_7cf53) := by
  unfold mo_mmin at h
  simp only [Bool.and_eq_true, decide_eq_true_eq] at h
  obtain ⟨⟨h1, h2, h3, h4⟩, h5, h6⟩ := h
  intro pc hd Q ls as rest σ hn hcat hrc hsp
  obtain ⟨a, b, rfl, -, hX⟩ := hsp
  intro p l e s m args below meth c cells slots QQ C H locs A hP hS hl
  obtain ⟨hx, hb, hml, hown, hw, hok, hcs, hret⟩ := id C
  exact va_mmin (rest := rest.map (mo_cv g.2.2.1)) hx hb (hml.trans hl.1.symm) hown (hw _ (mo_gB_of h1)) (hw _ (mo_gB_of h2)) (hw _ (mo_gB_of h3)) (hw _ (mo_gB_of h4)) h5 (by rw [mo_catv]; omega) hcs.1 hcs.2 hd (hX p l e s m args below meth c cells slots QQ C H locs A hP hS hl)
def S_X9_narrow : mo_S := fun as σ Q => ∃ w : Nat, ∃ a : Int32, ∃ b : Int32, as = [.inr (.inr (39, w)), .inl a, .inl b] ∧ (w < 20 ∧ (((σ.1 39 w 2) ≤ 0 → Q (none) (σ)) ∧ (¬ (σ.1 39 w 2) ≤ 0 → (w < 20 ∧ (w < 20 ∧ (w < 20 ∧ (w < 20 ∧ (w < 20 ∧ (vp_in ((σ.1 39 w 2) - (1 : Int32)) 30 ∧ (w < 20 ∧ (vp_in ((σ.1 39 w 2) - (1 : Int32)) 30 ∧ (w < 20 ∧ (w < 20 ∧ (w < 20 ∧ (w < 20 ∧ (w < 20 ∧ (vp_in ((σ.1 39 w 2) - (1 : Int32)) 30 ∧ (w < 20 ∧ (vp_in ((σ.1 39 w 2) - (1 : Int32)) 30 ∧ Q (none) (mo_wI (mo_wI σ 40 w (((σ.1 39 w 2) - (1 : Int32)).toNatClampNeg) (if (σ.1 40 w (((σ.1 39 w 2) - (1 : Int32)).toNatClampNeg)) < a then a else (σ.1 40 w (((σ.1 39 w 2) - (1 : Int32)).toNatClampNeg)))) 41 w (((σ.1 39 w 2) - (1 : Int32)).toNatClampNeg) (if b < (σ.1 41 w (((σ.1 39 w 2) - (1 : Int32)).toNatClampNeg)) then b else (σ.1 41 w (((σ.1 39 w 2) - (1 : Int32)).toNatClampNeg)))))))))))))))))))))))
theorem m_X9_narrow : ∀ (as : List mo_V) (σ : mo_M) (P P' : mo_Q), (∀ x τ, P x τ → P' x τ) → S_X9_narrow as σ P → S_X9_narrow as σ P' := by
  rintro as σ P P' hm ⟨w, a, b, e, hq⟩
  exact ⟨w, a, b, e, ⟨hq.1, ⟨fun c1 => hm _ _ (hq.2.1 c1), fun c1 => ⟨(hq.2.2 c1).1, ⟨(hq.2.2 c1).2.1, ⟨(hq.2.2 c1).2.2.1, ⟨(hq.2.2 c1).2.2.2.1, ⟨(hq.2.2 c1).2.2.2.2.1, ⟨(hq.2.2 c1).2.2.2.2.2.1, ⟨(hq.2.2 c1).2.2.2.2.2.2.1, ⟨(hq.2.2 c1).2.2.2.2.2.2.2.1, ⟨(hq.2.2 c1).2.2.2.2.2.2.2.2.1, ⟨(hq.2.2 c1).2.2.2.2.2.2.2.2.2.1, ⟨(hq.2.2 c1).2.2.2.2.2.2.2.2.2.2.1, ⟨(hq.2.2 c1).2.2.2.2.2.2.2.2.2.2.2.1, ⟨(hq.2.2 c1).2.2.2.2.2.2.2.2.2.2.2.2.1, ⟨(hq.2.2 c1).2.2.2.2.2.2.2.2.2.2.2.2.2.1, ⟨(hq.2.2 c1).2.2.2.2.2.2.2.2.2.2.2.2.2.2.1, ⟨(hq.2.2 c1).2.2.2.2.2.2.2.2.2.2.2.2.2.2.2.1, hm _ _ (hq.2.2 c1).2.2.2.2.2.2.2.2.2.2.2.2.2.2.2.2⟩⟩⟩⟩⟩⟩⟩⟩⟩⟩⟩⟩⟩⟩⟩⟩⟩⟩⟩
def cs_X9_narrow : Nat → mo_C := fun j => match j with
  | 0 => (2, false, 32, 50, S_J9_max_7cf53)
  | 1 => (2, false, 38, 50, S_J9_min_7cf53)
  | _ => (0, false, 0, 50, fun _ _ _ => False)
theorem cs_X9_narrow_ok (g : mo_E) : ∀ j, mo_cok g t_X9_narrow (cs_X9_narrow j) ∧ mo_mon (cs_X9_narrow j) := by
  intro j
  unfold cs_X9_narrow
  split
  · exact ⟨ck_J9_max_7cf53 (by decide +kernel), m_J9_max_7cf53⟩
  · exact ⟨ck_J9_min_7cf53 (by decide +kernel), m_J9_min_7cf53⟩
  · exact ⟨mo_cok0 g _, mo_mon0⟩
set_option maxRecDepth 20000 in
set_option maxHeartbeats 2000000 in
theorem ct_X9_narrow : mo_ct yX9_narrow t_X9_narrow S_X9_narrow := by
  refine mo_ct_of (by decide) rfl ?_
  rintro g as σ Q ⟨w, a, b, rfl, hQ⟩
  refine ⟨Nat.le_of_ble_eq_true rfl, mo_go ok_X9_narrow (cs_X9_narrow_ok g) [] 37 ?_⟩
  intro K hK
  refine And.intro (show w < 20 from hQ.1) ?_
  refine And.intro (fun (c1 : (σ.1 39 w 2) ≤ 0) => ?_) (fun (c1 : ¬ (σ.1 39 w 2) ≤ 0) => ?_)
  · exact (hQ.2.1 c1)
  · refine And.intro (show w < 20 from (hQ.2.2 c1).1) ?_
    refine And.intro (show w < 20 from (hQ.2.2 c1).2.1) ?_
    refine And.intro (show w < 20 from (hQ.2.2 c1).2.2.1) ?_
    refine And.intro (show w < 20 from (hQ.2.2 c1).2.2.2.1) ?_
    refine And.intro (show w < 20 from (hQ.2.2 c1).2.2.2.2.1) ?_
    refine And.intro (show vp_in ((σ.1 39 w 2) - (1 : Int32)) 30 from (hQ.2.2 c1).2.2.2.2.2.1) ?_
    refine Exists.intro (σ.1 40 w (((σ.1 39 w 2) - (1 : Int32)).toNatClampNeg)) (Exists.intro a (And.intro rfl (And.intro trivial ?_)))
    refine And.intro (show w < 20 from (hQ.2.2 c1).2.2.2.2.2.2.1) ?_
    refine And.intro (show vp_in ((σ.1 39 w 2) - (1 : Int32)) 30 from (hQ.2.2 c1).2.2.2.2.2.2.2.1) ?_
    refine And.intro (show w < 20 from (hQ.2.2 c1).2.2.2.2.2.2.2.2.1) ?_
    refine And.intro (show w < 20 from (hQ.2.2 c1).2.2.2.2.2.2.2.2.2.1) ?_
    refine And.intro (show w < 20 from (hQ.2.2 c1).2.2.2.2.2.2.2.2.2.2.1) ?_
    refine And.intro (show w < 20 from (hQ.2.2 c1).2.2.2.2.2.2.2.2.2.2.2.1) ?_
    refine And.intro (show w < 20 from (hQ.2.2 c1).2.2.2.2.2.2.2.2.2.2.2.2.1) ?_
    refine And.intro (show vp_in ((σ.1 39 w 2) - (1 : Int32)) 30 from (hQ.2.2 c1).2.2.2.2.2.2.2.2.2.2.2.2.2.1) ?_
    refine Exists.intro (σ.1 41 w (((σ.1 39 w 2) - (1 : Int32)).toNatClampNeg)) (Exists.intro b (And.intro rfl (And.intro trivial ?_)))
    refine And.intro (show w < 20 from (hQ.2.2 c1).2.2.2.2.2.2.2.2.2.2.2.2.2.2.1) ?_
    refine And.intro (show vp_in ((σ.1 39 w 2) - (1 : Int32)) 30 from (hQ.2.2 c1).2.2.2.2.2.2.2.2.2.2.2.2.2.2.2.1) ?_
    exact (hQ.2.2 c1).2.2.2.2.2.2.2.2.2.2.2.2.2.2.2.2
end
section
noncomputable def mo_ask (σ : mo_M) : Nat → Int32 := mo_fo (fun k s => mo_ite (mo_pc (nI (1022 - k)) ≤ mo_pc s ∧ (∀ u, u < 10 → ¬ (¬ mo_bt (nI (1022 - k)).toInt64 (nI u) ∧ ¬ (σ.1 37 0 u &&& (nI (1022 - k) ^^^ (-1 : Int32))) = 0))) (nI (1022 - k)) s) (1023 : Int32)
def cs_X11_calls : Nat → mo_C := fun j => match j with
  | 0 => (1, false, 137, 50, S_X11_isDay)
  | 1 => (2, true, 246, 11, S_X11_raiseQuestions)
  | 2 => (1, false, 229, 50, S_J6_bitCount_0f7a4)
  | 3 => (2, true, 249, 6, S_X6_areSettledBy)
  | _ => (0, false, 0, 50, fun _ _ _ => False)
theorem cs_X11_calls_ok (g : mo_E) : ∀ j, mo_cok g t_X11_calls (cs_X11_calls j) ∧ mo_mon (cs_X11_calls j) := by
  intro j
  unfold cs_X11_calls
  split
  · exact ⟨mo_cokS ct_X11_isDay (by decide +kernel), m_X11_isDay⟩
  · exact ⟨mo_cokV ct_X11_raiseQuestions (by decide) ⟨_, _, rfl⟩ (by decide +kernel), m_X11_raiseQuestions⟩
  · exact ⟨mo_cokS ct_J6_bitCount_0f7a4 (by decide +kernel), m_J6_bitCount_0f7a4⟩
  · exact ⟨mo_cokV ct_X6_areSettledBy (by decide) ⟨_, _, rfl⟩ (by decide +kernel), m_X6_areSettledBy⟩
  · exact ⟨mo_cok0 g _, mo_mon0⟩

set_option maxRecDepth 20000 in
set_option maxHeartbeats 2000000 in
theorem lp_X11_calls (g : mo_E) (σ : mo_M) (Q : mo_Q) (a : Int32) (hQ : Q (some (.inl (mo_ask σ 1023))) σ) : ∀ j : Nat, j ≤ 1023 → mo_X g t_X11_calls Q 22 [some (.inr (.inr (0, 0))), some (.inl a), some (.inl (mo_ask σ (1023 - j))), some (.inl (nI j + (-1 : Int32)))] [] σ := by
  intro j
  induction j with
  | zero =>
    intro _
    refine (show mo_X g t_X11_calls Q 22 [some (.inr (.inr (0, 0))), some (.inl a), some (.inl (mo_ask σ 1023)), some (.inl (-1 : Int32))] [] σ from ?_)
    refine mo_go ok_X11_calls (cs_X11_calls_ok g) [22] 33 ?_
    intro K hK
    refine And.intro (fun (c1 : (-1 : Int32) < 0) => ?_) (fun (c1 : ¬ (-1 : Int32) < 0) => ?_)
    · exact hQ
    · exact absurd c1 (by decide)
  | succ j ih =>
    intro hj
    rw [pk_m1]
    have ej : 1022 - (1023 - (j + 1)) = j := by omega
    refine mo_go ok_X11_calls (cs_X11_calls_ok g) [22] 33 ?_
    intro K hK
    refine And.intro (fun (c1 : (nI j) < 0) => ?_) (fun (c1 : ¬ (nI j) < 0) => ?_)
    · exact absurd c1 (by exact nI_pos (by omega))
    · refine Exists.intro (nI j) (And.intro rfl (And.intro (show True by trivial) ?_))
      refine Exists.intro (mo_ask σ (1023 - (j + 1))) (And.intro rfl (And.intro (show True by trivial) ?_))
      refine And.intro (fun (c2 : (mo_pc (mo_ask σ (1023 - (j + 1)))) < (mo_pc (nI j))) => ?_) (fun (c2 : ¬ (mo_pc (mo_ask σ (1023 - (j + 1)))) < (mo_pc (nI j))) => ?_)
      · (have e : mo_ask σ (1023 - (j + 1) + 1) = mo_ask σ (1023 - (j + 1)) := mo_ite_f (fun q => by rw [ej] at q; exact absurd q.1 (Int32.not_le.mpr c2)); rw [show 1023 - (j + 1) + 1 = 1023 - j from by omega] at e; have hih := ih (by omega); (try rw [ej] at e); rw [e] at hih; exact hK _ _ _ _ hih)
      · refine Exists.intro (nI j) (And.intro rfl (And.intro (show True by trivial) ?_))
        refine And.intro (fun (c3 : (mo_bl (∀ k_, k_ < 10 → ¬ (¬ mo_bt (nI j).toInt64 (nI k_) ∧ ¬ (σ.1 37 0 k_ &&& ((nI j) ^^^ (-1 : Int32))) = 0))) = 0) => ?_) (fun (c3 : ¬ (mo_bl (∀ k_, k_ < 10 → ¬ (¬ mo_bt (nI j).toInt64 (nI k_) ∧ ¬ (σ.1 37 0 k_ &&& ((nI j) ^^^ (-1 : Int32))) = 0))) = 0) => ?_)
        · (have e : mo_ask σ (1023 - (j + 1) + 1) = mo_ask σ (1023 - (j + 1)) := mo_ite_f (fun q => by rw [ej] at q; exact mo_bl0.mp c3 q.2); rw [show 1023 - (j + 1) + 1 = 1023 - j from by omega] at e; have hih := ih (by omega); (try rw [ej] at e); rw [e] at hih; exact hK _ _ _ _ hih)
        · (have e : mo_ask σ (1023 - (j + 1) + 1) = nI (1022 - (1023 - (j + 1))) := mo_ite_t ⟨by rw [ej]; exact Int32.not_lt.mp c2, by rw [ej]; exact mo_blT c3⟩; rw [show 1023 - (j + 1) + 1 = 1023 - j from by omega] at e; have hih := ih (by omega); (try rw [ej] at e); rw [e] at hih; exact hK _ _ _ _ hih)
def S_X11_calls : mo_S := fun as σ Q => ∃ a : Int32, as = [.inr (.inr (0, 0)), .inl a] ∧ (mo_le (σ.1 6 0 5) 200 ∧ ∀ k, k < (σ.1 6 0 5).toNatClampNeg → vp_in (σ.1 7 0 k) 60 ∧ vp_in (σ.1 8 0 k) 60 ∧ vp_in (σ.1 4 0 (σ.1 7 0 k).toNatClampNeg) 30 ∧ vp_in (σ.1 4 0 (σ.1 8 0 k).toNatClampNeg) 30 ∧ vp_in (σ.1 2 0 (σ.1 4 0 (σ.1 7 0 k).toNatClampNeg).toNatClampNeg) 10) ∧ Q (some (.inl (mo_ite (0 ≤ a ∧ a ≤ (10000 : Int32)) (mo_ask (mo_rowI σ 37 0 (mo_fo (fun k r => mo_ite (σ.1 9 0 k = 3 ∧ (σ.1 10 0 k ≤ a ∧ a < σ.1 11 0 k)) (upd r (σ.1 2 0 (σ.1 4 0 (σ.1 7 0 k).toNatClampNeg).toNatClampNeg).toNatClampNeg (r (σ.1 2 0 (σ.1 4 0 (σ.1 7 0 k).toNatClampNeg).toNatClampNeg).toNatClampNeg ||| (1 : Int32) <<< (σ.1 2 0 (σ.1 4 0 (σ.1 8 0 k).toNatClampNeg).toNatClampNeg &&& 31))) r) (mo_fo (fun k r => upd r k 0) (σ.1 37 0) 10) (σ.1 6 0 5).toNatClampNeg)) 1023) (-1 : Int32)))) (mo_ite (0 ≤ a ∧ a ≤ (10000 : Int32)) (mo_rowI σ 37 0 (mo_fo (fun k r => mo_ite (σ.1 9 0 k = 3 ∧ (σ.1 10 0 k ≤ a ∧ a < σ.1 11 0 k)) (upd r (σ.1 2 0 (σ.1 4 0 (σ.1 7 0 k).toNatClampNeg).toNatClampNeg).toNatClampNeg (r (σ.1 2 0 (σ.1 4 0 (σ.1 7 0 k).toNatClampNeg).toNatClampNeg).toNatClampNeg ||| (1 : Int32) <<< (σ.1 2 0 (σ.1 4 0 (σ.1 8 0 k).toNatClampNeg).toNatClampNeg &&& 31))) r) (mo_fo (fun k r => upd r k 0) (σ.1 37 0) 10) (σ.1 6 0 5).toNatClampNeg)) σ)
theorem m_X11_calls : ∀ (as : List mo_V) (σ : mo_M) (P P' : mo_Q), (∀ x τ, P x τ → P' x τ) → S_X11_calls as σ P → S_X11_calls as σ P' := by
  rintro as σ P P' h ⟨a, e, hp, hq⟩
  exact ⟨a, e, hp, h _ _ hq⟩
set_option maxRecDepth 20000 in
set_option maxHeartbeats 2000000 in
theorem ct_X11_calls : mo_ct yX11_calls t_X11_calls S_X11_calls := by
  refine mo_ct_of (by decide) rfl ?_
  rintro g as σ Q ⟨a, rfl, hpre, hQ⟩
  refine ⟨Nat.le_of_ble_eq_true rfl, mo_go ok_X11_calls (cs_X11_calls_ok g) [22] 33 ?_⟩
  intro K hK
  refine Exists.intro a (And.intro rfl (And.intro (show True by trivial) ?_))
  refine And.intro (fun (c1 : ¬ (mo_bl (0 ≤ a ∧ a ≤ (10000 : Int32))) = 0) => ?_) (fun (c1 : (mo_bl (0 ≤ a ∧ a ≤ (10000 : Int32))) = 0) => ?_)
  · refine Exists.intro a (And.intro rfl (And.intro (show mo_le (σ.1 6 0 5) 200 ∧ ∀ k_, k_ < (σ.1 6 0 5).toNatClampNeg → vp_in (σ.1 7 0 k_) 60 ∧ vp_in (σ.1 8 0 k_) 60 ∧ vp_in (σ.1 4 0 (σ.1 7 0 k_).toNatClampNeg) 30 ∧ vp_in (σ.1 4 0 (σ.1 8 0 k_).toNatClampNeg) 30 ∧ vp_in (σ.1 2 0 (σ.1 4 0 (σ.1 7 0 k_).toNatClampNeg).toNatClampNeg) 10 by exact hpre) ?_))
    (rw [mo_ite_t (mo_blT c1), mo_ite_t (mo_blT c1)] at hQ; exact hK _ _ _ _ (lp_X11_calls g _ Q a hQ 1023 (by omega)))
  · exact mo_q hQ (by rw [mo_ite_f (mo_bl0.mp c1)]; rfl) (by rw [mo_ite_f (mo_bl0.mp c1)])
end
section
def mo_val (σ : mo_M) (s0 : Nat) : Nat → Int32 := mo_fo (fun k v => if (1000 : Int32) < (v * (10 : Int32) + σ.1 31 0 (s0 + k)) - (48 : Int32) then (1000 : Int32) else (v * (10 : Int32) + σ.1 31 0 (s0 + k)) - (48 : Int32)) 0
def S_X7_valueAtHand : mo_S := fun as σ Q => as = [.inr (.inr (32, 0))] ∧ (σ.1 32 0 2 = nI (σ.1 32 0 2).toNatClampNeg ∧ σ.1 32 0 3 = nI (σ.1 32 0 3).toNatClampNeg ∧ (σ.1 32 0 2).toNatClampNeg ≤ (σ.1 32 0 3).toNatClampNeg ∧ (σ.1 32 0 3).toNatClampNeg ≤ 200) ∧ Q (some (.inl (mo_val σ (σ.1 32 0 2).toNatClampNeg ((σ.1 32 0 3).toNatClampNeg - (σ.1 32 0 2).toNatClampNeg)))) (σ)
theorem m_X7_valueAtHand : ∀ (as : List mo_V) (σ : mo_M) (P P' : mo_Q), (∀ x τ, P x τ → P' x τ) → S_X7_valueAtHand as σ P → S_X7_valueAtHand as σ P' := by
  rintro as σ P P' h ⟨e, hp, hq⟩
  exact ⟨e, hp, h _ _ hq⟩
def cs_X7_valueAtHand : Nat → mo_C := fun j => match j with
  | 0 => (2, false, 98, 50, S_J9_min_7cf53)
  | _ => (0, false, 0, 50, fun _ _ _ => False)
theorem cs_X7_valueAtHand_ok (g : mo_E) : ∀ j, mo_cok g t_X7_valueAtHand (cs_X7_valueAtHand j) ∧ mo_mon (cs_X7_valueAtHand j) := by
  intro j
  unfold cs_X7_valueAtHand
  split
  · exact ⟨ck_J9_min_7cf53 (by decide +kernel), m_J9_min_7cf53⟩
  · exact ⟨mo_cok0 g _, mo_mon0⟩
set_option maxRecDepth 20000 in
set_option maxHeartbeats 2000000 in
theorem lp_X7_valueAtHand (g : mo_E) (σ : mo_M) (Q : mo_Q) (s0 n : Nat) (hn : σ.1 32 0 3 = nI (s0 + n)) (hle : s0 + n ≤ 200) (hQ : Q (some (.inl (mo_val σ s0 n))) σ) : ∀ (d k : Nat), n < k + d → k ≤ n → (True) → mo_X g t_X7_valueAtHand Q 7 [some (.inr (.inr (32, 0))), some (.inl (mo_val σ s0 k)), some (.inl (nI (s0 + k)))] [] (σ) := by
  intro d
  induction d with
  | zero => intro k h1 h2; omega
  | succ d ih =>
    intro k h1 h2 hinv
    have hkc : (nI k).toNatClampNeg = k := mo_cl (by omega)
    have hkc2 : (nI (s0 + k)).toNatClampNeg = s0 + k := mo_cl (by omega)
    refine mo_go ok_X7_valueAtHand (cs_X7_valueAtHand_ok g) [7] 28 ?_
    intro K hK
    refine And.intro (fun (c1 : (σ.1 32 0 3) ≤ (nI (s0 + k))) => ?_) (fun (c1 : ¬ (σ.1 32 0 3) ≤ (nI (s0 + k))) => ?_)
    · have hk : s0 + n ≤ s0 + k := mo_cge hn (by omega) (by omega) c1
      (have e : k = n := (by omega); subst e; exact hQ)
    · have hk : s0 + k < s0 + n := mo_clt hn (by omega) (by omega) c1
      refine And.intro (show vp_in (nI (s0 + k)) 200 by exact mo_inN (by omega) (by decide)) ?_
      refine Exists.intro ((((mo_val σ s0 k) * (10 : Int32)) + (σ.1 31 0 ((nI (s0 + k)).toNatClampNeg))) - (48 : Int32)) (Exists.intro (1000 : Int32) (And.intro rfl (And.intro (show True by trivial) ?_)))
      (have hih := ih (k + 1) (by omega) (by omega) trivial; rw [show s0 + (k + 1) = s0 + k + 1 from rfl, nI_succ] at hih; refine hK _ _ _ _ (show mo_X g t_X7_valueAtHand Q 7 [some (.inr (.inr (32, 0))), some (.inl (if (1000 : Int32) < ((((mo_val σ s0 k) * (10 : Int32)) + (σ.1 31 0 ((nI (s0 + k)).toNatClampNeg))) - (48 : Int32)) then (1000 : Int32) else ((((mo_val σ s0 k) * (10 : Int32)) + (σ.1 31 0 ((nI (s0 + k)).toNatClampNeg))) - (48 : Int32)))), some (.inl ((nI (s0 + k)) + (1 : Int32)))] [] (σ) from ?_); rw [hkc2]; exact hih)
set_option maxRecDepth 20000 in
set_option maxHeartbeats 2000000 in
theorem ct_X7_valueAtHand : mo_ct yX7_valueAtHand t_X7_valueAtHand S_X7_valueAtHand := by
  refine mo_ct_of (by decide) rfl ?_
  rintro g as σ Q ⟨rfl, hpre, hQ⟩
  refine ⟨Nat.le_of_ble_eq_true rfl, mo_go ok_X7_valueAtHand (cs_X7_valueAtHand_ok g) [7] 28 ?_⟩
  intro K hK
  (obtain ⟨p1, p2, p3, p4⟩ := hpre; have h0 := lp_X7_valueAtHand g σ Q (σ.1 32 0 2).toNatClampNeg ((σ.1 32 0 3).toNatClampNeg - (σ.1 32 0 2).toNatClampNeg) (by rw [show (σ.1 32 0 2).toNatClampNeg + ((σ.1 32 0 3).toNatClampNeg - (σ.1 32 0 2).toNatClampNeg) = (σ.1 32 0 3).toNatClampNeg from by omega]; exact p2) (by omega) hQ ((σ.1 32 0 3).toNatClampNeg - (σ.1 32 0 2).toNatClampNeg + 1) 0 (by omega) (by omega) trivial; rw [show nI ((σ.1 32 0 2).toNatClampNeg + 0) = σ.1 32 0 2 from p1.symm] at h0; exact hK _ _ _ _ h0)
end
section
set_option maxRecDepth 20000 in
set_option maxHeartbeats 2000000 in
theorem lp_X12_feed (g : mo_E) (σ : mo_M) (Q : mo_Q) (a b c d1 f : Int32) (t0 n : Nat) (hn : (20 : Int32) = nI n) (hle : n ≤ 20) (ht : σ.1 50 0 30 = nI t0) (ht2 : t0 + 20 ≤ 200) (hQ : Q (some (.inl (σ.1 50 0 30 + (20 : Int32)))) (mo_wI (mo_rowI σ 72 0 (mo_fo (fun k r => upd r (σ.1 50 0 30 + nI k).toNatClampNeg (vp_nar .byte ((σ.1 79 0 (nI k / (4 : Int32)).toNatClampNeg) >>> (((24 : Int32) - ((8 : Int32) * (nI k - nI k / (4 : Int32) * (4 : Int32)))) &&& 31)).toInt8.toInt32)) (σ.1 72 0) n)) 50 0 30 (σ.1 50 0 30 + (20 : Int32)))) : ∀ (d k : Nat), n < k + d → k ≤ n → (True) → mo_X g t_X12_feed Q 55 [some (.inr (.inr (50, 0))), some (.inl a), some (.inl b), some (.inl c), some (.inl d1), some (.inl f), some (.inl (nI k))] [] (mo_rowI σ 72 0 (mo_fo (fun k r => upd r (σ.1 50 0 30 + nI k).toNatClampNeg (vp_nar .byte ((σ.1 79 0 (nI k / (4 : Int32)).toNatClampNeg) >>> (((24 : Int32) - ((8 : Int32) * (nI k - nI k / (4 : Int32) * (4 : Int32)))) &&& 31)).toInt8.toInt32)) (σ.1 72 0) k)) := by
  intro d
  induction d with
  | zero => intro k h1 h2; omega
  | succ d ih =>
    intro k h1 h2 hinv
    have hkc : (nI k).toNatClampNeg = k := mo_cl (by omega)
    refine mo_go ok_X12_feed (mo_no_ok g _) [55] 72 ?_
    intro K hK
    refine And.intro (fun (c1 : (20 : Int32) ≤ (nI k)) => ?_) (fun (c1 : ¬ (20 : Int32) ≤ (nI k)) => ?_)
    · have hk : n ≤ k := mo_cge hn (by omega) (by omega) c1
      (have e : k = n := (by omega); subst e; exact hQ)
    · have hk : k < n := mo_clt hn (by omega) (by omega) c1
      refine And.intro (by decide) ?_
      refine And.intro (show vp_in ((nI k) / (4 : Int32)) 5 by rw [show (4 : Int32) = nI 4 from rfl, pk_div (by omega) (by omega) (by omega)]; exact mo_inN (by omega) (by decide)) ?_
      refine And.intro (by decide) ?_
      refine And.intro (show vp_in ((σ.1 50 0 30) + (nI k)) 200 by rw [ht, nI_add]; exact mo_inN (by omega) (by decide)) ?_
      (have hih := ih (k + 1) (by omega) (by omega) trivial; rw [nI_succ] at hih; refine hK _ _ _ _ (show mo_X g t_X12_feed Q 55 [some (.inr (.inr (50, 0))), some (.inl a), some (.inl b), some (.inl c), some (.inl d1), some (.inl f), some (.inl ((nI k) + (1 : Int32)))] [] (mo_wI (mo_rowI σ 72 0 (mo_fo (fun k r => upd r (σ.1 50 0 30 + nI k).toNatClampNeg (vp_nar .byte ((σ.1 79 0 (nI k / (4 : Int32)).toNatClampNeg) >>> (((24 : Int32) - ((8 : Int32) * (nI k - nI k / (4 : Int32) * (4 : Int32)))) &&& 31)).toInt8.toInt32)) (σ.1 72 0) k)) 72 0 (((σ.1 50 0 30) + (nI k)).toNatClampNeg) (vp_nar .byte (((σ.1 79 0 (((nI k) / (4 : Int32)).toNatClampNeg)) >>> (((24 : Int32) - ((8 : Int32) * ((nI k) - (nI k) / (4 : Int32) * (4 : Int32)))) &&& 31)).toInt8.toInt32))) from ?_); rw [mo_rowI_w]; exact hih)
def S_X12_feed : mo_S := fun as σ Q => ∃ a : Int32, ∃ b : Int32, ∃ c : Int32, ∃ d : Int32, ∃ f : Int32, as = [.inr (.inr (50, 0)), .inl a, .inl b, .inl c, .inl d, .inl f] ∧ (mo_le (σ.1 50 0 30) 200) ∧ Q (some (.inl (mo_ite ((200 : Int32) < σ.1 50 0 30 + (20 : Int32)) (-1 : Int32) (σ.1 50 0 30 + (20 : Int32))))) (mo_ite ((200 : Int32) < σ.1 50 0 30 + (20 : Int32)) σ (mo_wI (mo_rowI (mo_wI (mo_wI (mo_wI (mo_wI (mo_wI σ 79 0 0 a) 79 0 1 b) 79 0 2 c) 79 0 3 d) 79 0 4 f) 72 0 (mo_fo (fun k r => upd r ((mo_wI (mo_wI (mo_wI (mo_wI (mo_wI σ 79 0 0 a) 79 0 1 b) 79 0 2 c) 79 0 3 d) 79 0 4 f).1 50 0 30 + nI k).toNatClampNeg (vp_nar .byte (((mo_wI (mo_wI (mo_wI (mo_wI (mo_wI σ 79 0 0 a) 79 0 1 b) 79 0 2 c) 79 0 3 d) 79 0 4 f).1 79 0 (nI k / (4 : Int32)).toNatClampNeg) >>> (((24 : Int32) - ((8 : Int32) * (nI k - nI k / (4 : Int32) * (4 : Int32)))) &&& 31)).toInt8.toInt32)) (σ.1 72 0) 20)) 50 0 30 (σ.1 50 0 30 + (20 : Int32))))
theorem m_X12_feed : ∀ (as : List mo_V) (σ : mo_M) (P P' : mo_Q), (∀ x τ, P x τ → P' x τ) → S_X12_feed as σ P → S_X12_feed as σ P' := by
  rintro as σ P P' h ⟨a, b, c, d, f, e, hp, hq⟩
  exact ⟨a, b, c, d, f, e, hp, h _ _ hq⟩
set_option maxRecDepth 20000 in
set_option maxHeartbeats 2000000 in
theorem ct_X12_feed : mo_ct yX12_feed t_X12_feed S_X12_feed := by
  refine mo_ct_of (by decide) rfl ?_
  rintro g as σ Q ⟨a, b, c, d, f, rfl, hpre, hQ⟩
  refine ⟨Nat.le_of_ble_eq_true rfl, mo_go ok_X12_feed (mo_no_ok g _) [55] 72 ?_⟩
  intro K hK
  refine And.intro (fun (c1 : ((σ.1 50 0 30) + (20 : Int32)) ≤ (200 : Int32)) => ?_) (fun (c1 : ¬ ((σ.1 50 0 30) + (20 : Int32)) ≤ (200 : Int32)) => ?_)
  · refine And.intro (show vp_in (0 : Int32) 5 by exact vp_in_nI (n := 0) (by decide) (by decide)) ?_
    refine And.intro (show vp_in (1 : Int32) 5 by exact vp_in_nI (n := 1) (by decide) (by decide)) ?_
    refine And.intro (show vp_in (2 : Int32) 5 by exact vp_in_nI (n := 2) (by decide) (by decide)) ?_
    refine And.intro (show vp_in (3 : Int32) 5 by exact vp_in_nI (n := 3) (by decide) (by decide)) ?_
    refine And.intro (show vp_in (4 : Int32) 5 by exact vp_in_nI (n := 4) (by decide) (by decide)) ?_
    (have hc : ¬ (200 : Int32) < σ.1 50 0 30 + (20 : Int32) := (by have q := c1; simp only [← Int32.not_lt] at q ⊢; grind); rw [mo_ite_f hc, mo_ite_f hc] at hQ; have hl : (σ.1 50 0 30).toNatClampNeg + 20 ≤ 200 := (by have q := hc; rw [hpre.1, show (20 : Int32) = nI 20 from rfl, show (200 : Int32) = nI 200 from rfl, nI_add, nI_ltI (by omega) (by have := hpre.2; omega)] at q; omega); exact hK _ _ _ _ (lp_X12_feed g (mo_wI (mo_wI (mo_wI (mo_wI (mo_wI σ 79 0 0 a) 79 0 1 b) 79 0 2 c) 79 0 3 d) 79 0 4 f) Q a b c d f (σ.1 50 0 30).toNatClampNeg 20 rfl (by omega) hpre.1 hl hQ 21 0 (by omega) (by omega) trivial |> fun h0 => by rw [show mo_rowI (mo_wI (mo_wI (mo_wI (mo_wI (mo_wI σ 79 0 0 a) 79 0 1 b) 79 0 2 c) 79 0 3 d) 79 0 4 f) 72 0 (mo_fo (fun k r => upd r ((mo_wI (mo_wI (mo_wI (mo_wI (mo_wI σ 79 0 0 a) 79 0 1 b) 79 0 2 c) 79 0 3 d) 79 0 4 f).1 50 0 30 + nI k).toNatClampNeg (vp_nar .byte (((mo_wI (mo_wI (mo_wI (mo_wI (mo_wI σ 79 0 0 a) 79 0 1 b) 79 0 2 c) 79 0 3 d) 79 0 4 f).1 79 0 (nI k / (4 : Int32)).toNatClampNeg) >>> (((24 : Int32) - ((8 : Int32) * (nI k - nI k / (4 : Int32) * (4 : Int32)))) &&& 31)).toInt8.toInt32)) ((mo_wI (mo_wI (mo_wI (mo_wI (mo_wI σ 79 0 0 a) 79 0 1 b) 79 0 2 c) 79 0 3 d) 79 0 4 f).1 72 0) 0) = mo_wI (mo_wI (mo_wI (mo_wI (mo_wI σ 79 0 0 a) 79 0 1 b) 79 0 2 c) 79 0 3 d) 79 0 4 f from mo_rowI_id (mo_wI (mo_wI (mo_wI (mo_wI (mo_wI σ 79 0 0 a) 79 0 1 b) 79 0 2 c) 79 0 3 d) 79 0 4 f) 72 0] at h0; exact h0))
  · exact mo_q hQ (by rw [mo_ite_t (by have q := c1; simp only [← Int32.not_lt] at q ⊢; grind)]; rfl) (by rw [mo_ite_t (by have q := c1; simp only [← Int32.not_lt] at q ⊢; grind)])
end
section
def mo_hl (σ : mo_M) (a b c f : Int32) : Prop := ∃ u_, u_ < (σ.1 50 0 6).toNatClampNeg ∧ (σ.1 57 0 u_ ≤ f ∧ f < σ.1 58 0 u_) ∧ σ.1 54 0 u_ = a ∧ σ.1 56 0 u_ = c ∧ σ.1 71 0 (σ.1 52 0 (σ.1 55 0 u_).toNatClampNeg).toNatClampNeg = b
def cs_X12_gaps : Nat → mo_C := fun j => match j with
  | 0 => (2, true, 144, 12, S_X12_isMake)
  | 1 => (1, false, 141, 50, S_X12_isDay)
  | 2 => (3, false, 109, 50, S_X12_in)
  | 3 => (2, true, 172, 12, S_X12_gathers)
  | 4 => (5, true, 275, 12, S_X12_hasLink)
  | _ => (0, false, 0, 50, fun _ _ _ => False)
theorem cs_X12_gaps_ok (g : mo_E) : ∀ j, mo_cok g t_X12_gaps (cs_X12_gaps j) ∧ mo_mon (cs_X12_gaps j) := by
  intro j
  unfold cs_X12_gaps
  split
  · exact ⟨mo_cokV ct_X12_isMake (by decide) ⟨_, _, rfl⟩ (by decide +kernel), m_X12_isMake⟩
  · exact ⟨mo_cokS ct_X12_isDay (by decide +kernel), m_X12_isDay⟩
  · exact ⟨mo_cokS ct_X12_in (by decide +kernel), m_X12_in⟩
  · exact ⟨mo_cokV ct_X12_gathers (by decide) ⟨_, _, rfl⟩ (by decide +kernel), m_X12_gathers⟩
  · exact ⟨mo_cokV ct_X12_hasLink (by decide) ⟨_, _, rfl⟩ (by decide +kernel), m_X12_hasLink⟩
  · exact ⟨mo_cok0 g _, mo_mon0⟩
set_option maxRecDepth 20000 in
set_option maxHeartbeats 2000000 in
theorem lp_X12_gaps (g : mo_E) (σ : mo_M) (Q : mo_Q) (a b c : Int32) (n : Nat) (hn : σ.1 50 0 1 = nI n) (hle : n ≤ 30) (hp : mo_le (σ.1 50 0 6) 200 ∧ ∀ u, u < (σ.1 50 0 6).toNatClampNeg → vp_in (σ.1 55 0 u) 60 ∧ vp_in (σ.1 52 0 (σ.1 55 0 u).toNatClampNeg) 30) (hQ : Q (some (.inl (mo_fo (fun k s => mo_ite (mo_hl σ a (nI k) ((1 : Int32) - c) b ∧ ¬ mo_hl σ a (nI k) c b) (s + (1 : Int32)) s) 0 n))) σ) : ∀ (d k : Nat), n < k + d → k ≤ n → (True) → mo_X g t_X12_gaps Q 37 [some (.inr (.inr (50, 0))), some (.inl a), some (.inl b), some (.inl c), some (.inl (mo_fo (fun k s => mo_ite (mo_hl σ a (nI k) ((1 : Int32) - c) b ∧ ¬ mo_hl σ a (nI k) c b) (s + (1 : Int32)) s) 0 k)), some (.inl (nI k))] [] (σ) := by
  intro d
  induction d with
  | zero => intro k h1 h2; omega
  | succ d ih =>
    intro k h1 h2 hinv
    have hkc : (nI k).toNatClampNeg = k := mo_cl (by omega)
    refine mo_go ok_X12_gaps (cs_X12_gaps_ok g) [37] 47 ?_
    intro K hK
    refine And.intro (fun (c1 : (σ.1 50 0 1) ≤ (nI k)) => ?_) (fun (c1 : ¬ (σ.1 50 0 1) ≤ (nI k)) => ?_)
    · have hk : n ≤ k := mo_cge hn (by omega) (by omega) c1
      (have e : k = n := (by omega); subst e; exact hQ)
    · have hk : k < n := mo_clt hn (by omega) (by omega) c1
      refine Exists.intro a (Exists.intro (nI k) (Exists.intro ((1 : Int32) - c) (Exists.intro b (And.intro rfl (And.intro (show mo_le (σ.1 50 0 6) 200 ∧ ∀ u_, u_ < (σ.1 50 0 6).toNatClampNeg → vp_in (σ.1 55 0 u_) 60 ∧ vp_in (σ.1 52 0 (σ.1 55 0 u_).toNatClampNeg) 30 by exact hp) ?_)))))
      refine And.intro (fun (c2 : (mo_bl (mo_hl σ a (nI k) ((1 : Int32) - c) b)) = 0) => ?_) (fun (c2 : ¬ (mo_bl (mo_hl σ a (nI k) ((1 : Int32) - c) b)) = 0) => ?_)
      · (have hih := ih (k + 1) (by omega) (by omega) trivial; have e : mo_fo (fun k s => mo_ite (mo_hl σ a (nI k) ((1 : Int32) - c) b ∧ ¬ mo_hl σ a (nI k) c b) (s + (1 : Int32)) s) 0 (k + 1) = mo_fo (fun k s => mo_ite (mo_hl σ a (nI k) ((1 : Int32) - c) b ∧ ¬ mo_hl σ a (nI k) c b) (s + (1 : Int32)) s) 0 k := mo_ite_f (fun q => mo_bl0.mp c2 q.1); rw [nI_succ, e] at hih; exact hK _ _ _ _ hih)
      · refine Exists.intro a (Exists.intro (nI k) (Exists.intro c (Exists.intro b (And.intro rfl (And.intro (show mo_le (σ.1 50 0 6) 200 ∧ ∀ u_, u_ < (σ.1 50 0 6).toNatClampNeg → vp_in (σ.1 55 0 u_) 60 ∧ vp_in (σ.1 52 0 (σ.1 55 0 u_).toNatClampNeg) 30 by exact hp) ?_)))))
        refine And.intro (fun (c3 : ¬ (mo_bl (mo_hl σ a (nI k) c b)) = 0) => ?_) (fun (c3 : (mo_bl (mo_hl σ a (nI k) c b)) = 0) => ?_)
        · (have hih := ih (k + 1) (by omega) (by omega) trivial; have e : mo_fo (fun k s => mo_ite (mo_hl σ a (nI k) ((1 : Int32) - c) b ∧ ¬ mo_hl σ a (nI k) c b) (s + (1 : Int32)) s) 0 (k + 1) = mo_fo (fun k s => mo_ite (mo_hl σ a (nI k) ((1 : Int32) - c) b ∧ ¬ mo_hl σ a (nI k) c b) (s + (1 : Int32)) s) 0 k := mo_ite_f (fun q => q.2 (mo_blT c3)); rw [nI_succ, e] at hih; exact hK _ _ _ _ hih)
        · (have hih := ih (k + 1) (by omega) (by omega) trivial; have e : mo_fo (fun k s => mo_ite (mo_hl σ a (nI k) ((1 : Int32) - c) b ∧ ¬ mo_hl σ a (nI k) c b) (s + (1 : Int32)) s) 0 (k + 1) = (mo_fo (fun k s => mo_ite (mo_hl σ a (nI k) ((1 : Int32) - c) b ∧ ¬ mo_hl σ a (nI k) c b) (s + (1 : Int32)) s) 0 k) + (1 : Int32) := mo_ite_t ⟨mo_blT c2, mo_bl0.mp c3⟩; rw [nI_succ, e] at hih; exact hK _ _ _ _ hih)
def S_X12_gaps : mo_S := fun as σ Q => ∃ a : Int32, ∃ b : Int32, ∃ c : Int32, as = [.inr (.inr (50, 0)), .inl a, .inl b, .inl c] ∧ ((mo_le (σ.1 50 0 18) 40 ∧ (mo_le (σ.1 50 0 19) 40 ∧ ∀ u, u < (σ.1 50 0 19).toNatClampNeg → vp_in (σ.1 68 0 u) 30 ∧ vp_in (σ.1 69 0 u) 30) ∧ ∀ k, k < (σ.1 50 0 18).toNatClampNeg → vp_in (σ.1 64 0 k) 30 ∧ vp_in (σ.1 65 0 k) 30) ∧ mo_le (σ.1 50 0 1) 30 ∧ (mo_le (σ.1 50 0 6) 200 ∧ ∀ u, u < (σ.1 50 0 6).toNatClampNeg → vp_in (σ.1 55 0 u) 60 ∧ vp_in (σ.1 52 0 (σ.1 55 0 u).toNatClampNeg) 30)) ∧ Q (some (.inl (mo_ite ((0 ≤ a ∧ a ≤ σ.1 50 0 2 - 1) ∧ (0 ≤ b ∧ b ≤ (10000 : Int32)) ∧ (0 ≤ c ∧ c ≤ (1 : Int32))) (mo_fo (fun k s => mo_ite (mo_hl (mo_rowI (mo_wI σ 50 0 28 (mo_gat σ b (σ.1 50 0 18).toNatClampNeg).2) 71 0 (mo_gat σ b (σ.1 50 0 18).toNatClampNeg).1) a (nI k) ((1 : Int32) - c) b ∧ ¬ mo_hl (mo_rowI (mo_wI σ 50 0 28 (mo_gat σ b (σ.1 50 0 18).toNatClampNeg).2) 71 0 (mo_gat σ b (σ.1 50 0 18).toNatClampNeg).1) a (nI k) c b) (s + (1 : Int32)) s) 0 (σ.1 50 0 1).toNatClampNeg) (-1 : Int32)))) (mo_ite ((0 ≤ a ∧ a ≤ σ.1 50 0 2 - 1) ∧ (0 ≤ b ∧ b ≤ (10000 : Int32)) ∧ (0 ≤ c ∧ c ≤ (1 : Int32))) (mo_rowI (mo_wI σ 50 0 28 (mo_gat σ b (σ.1 50 0 18).toNatClampNeg).2) 71 0 (mo_gat σ b (σ.1 50 0 18).toNatClampNeg).1) σ)
theorem m_X12_gaps : ∀ (as : List mo_V) (σ : mo_M) (P P' : mo_Q), (∀ x τ, P x τ → P' x τ) → S_X12_gaps as σ P → S_X12_gaps as σ P' := by
  rintro as σ P P' h ⟨a, b, c, e, hp, hq⟩
  exact ⟨a, b, c, e, hp, h _ _ hq⟩
set_option maxRecDepth 20000 in
set_option maxHeartbeats 2000000 in
theorem ct_X12_gaps : mo_ct yX12_gaps t_X12_gaps S_X12_gaps := by
  refine mo_ct_of (by decide) rfl ?_
  rintro g as σ Q ⟨a, b, c, rfl, hpre, hQ⟩
  refine ⟨Nat.le_of_ble_eq_true rfl, mo_go ok_X12_gaps (cs_X12_gaps_ok g) [37] 47 ?_⟩
  intro K hK
  refine Exists.intro a (And.intro rfl (And.intro (show True by trivial) ?_))
  refine And.intro (fun (c1 : (mo_bl (0 ≤ a ∧ a ≤ σ.1 50 0 2 - 1)) = 0) => ?_) (fun (c1 : ¬ (mo_bl (0 ≤ a ∧ a ≤ σ.1 50 0 2 - 1)) = 0) => ?_)
  · (have hg : ¬ ((0 ≤ a ∧ a ≤ σ.1 50 0 2 - 1) ∧ (0 ≤ b ∧ b ≤ (10000 : Int32)) ∧ (0 ≤ c ∧ c ≤ (1 : Int32))) := (by simp only [mo_bl0, Classical.not_not] at c1; clear hK hQ hpre; grind); exact mo_q hQ (by rw [mo_ite_f hg]; rfl) (by rw [mo_ite_f hg]))
  · refine Exists.intro b (And.intro rfl (And.intro (show True by trivial) ?_))
    refine And.intro (fun (c2 : (mo_bl (0 ≤ b ∧ b ≤ (10000 : Int32))) = 0) => ?_) (fun (c2 : ¬ (mo_bl (0 ≤ b ∧ b ≤ (10000 : Int32))) = 0) => ?_)
    · (have hg : ¬ ((0 ≤ a ∧ a ≤ σ.1 50 0 2 - 1) ∧ (0 ≤ b ∧ b ≤ (10000 : Int32)) ∧ (0 ≤ c ∧ c ≤ (1 : Int32))) := (by simp only [mo_bl0, Classical.not_not] at c1 c2; clear hK hQ hpre; grind); exact mo_q hQ (by rw [mo_ite_f hg]; rfl) (by rw [mo_ite_f hg]))
    · refine Exists.intro c (Exists.intro (0 : Int32) (Exists.intro (1 : Int32) (And.intro rfl (And.intro (show True by trivial) ?_))))
      refine And.intro (fun (c3 : ¬ (mo_bl ((0 : Int32) ≤ c ∧ c ≤ (1 : Int32))) = 0) => ?_) (fun (c3 : (mo_bl ((0 : Int32) ≤ c ∧ c ≤ (1 : Int32))) = 0) => ?_)
      · refine Exists.intro b (And.intro rfl (And.intro (show mo_le (σ.1 50 0 18) 40 ∧ (mo_le (σ.1 50 0 19) 40 ∧ ∀ u_, u_ < (σ.1 50 0 19).toNatClampNeg → vp_in (σ.1 68 0 u_) 30 ∧ vp_in (σ.1 69 0 u_) 30) ∧ ∀ k_, k_ < (σ.1 50 0 18).toNatClampNeg → vp_in (σ.1 64 0 k_) 30 ∧ vp_in (σ.1 65 0 k_) 30 by exact hpre.1) ?_))
        (have hg : (0 ≤ a ∧ a ≤ σ.1 50 0 2 - 1) ∧ (0 ≤ b ∧ b ≤ (10000 : Int32)) ∧ (0 ≤ c ∧ c ≤ (1 : Int32)) := (by simp only [mo_bl0, Classical.not_not] at c1 c2 c3; clear hK hQ hpre; grind); rw [mo_ite_t hg, mo_ite_t hg] at hQ; exact hK _ _ _ _ (lp_X12_gaps g (mo_rowI (mo_wI σ 50 0 28 (mo_gat σ b (σ.1 50 0 18).toNatClampNeg).2) 71 0 (mo_gat σ b (σ.1 50 0 18).toNatClampNeg).1) Q a b c _ hpre.2.1.1 hpre.2.1.2 hpre.2.2 hQ ((σ.1 50 0 1).toNatClampNeg + 1) 0 (by omega) (by omega) trivial))
      · (have hg : ¬ ((0 ≤ a ∧ a ≤ σ.1 50 0 2 - 1) ∧ (0 ≤ b ∧ b ≤ (10000 : Int32)) ∧ (0 ≤ c ∧ c ≤ (1 : Int32))) := (by simp only [mo_bl0, Classical.not_not] at c1 c2 c3; clear hK hQ hpre; grind); exact mo_q hQ (by rw [mo_ite_f hg]; rfl) (by rw [mo_ite_f hg]))
end
section
def S_X11_count : mo_S := fun as σ Q => ∃ a : Int32, as = [.inr (.inr (0, 0)), .inl a] ∧ (True) ∧ Q (some (.inl (mo_ite (a = (0 : Int32)) (σ.1 1 0 1) (mo_ite (a = (1 : Int32)) (σ.1 3 0 2) (mo_ite (a = (2 : Int32)) (σ.1 6 0 5) (mo_ite (a = (3 : Int32)) (σ.1 12 0 5) (mo_ite (a = (4 : Int32)) (σ.1 18 0 4) (mo_ite (a = (5 : Int32)) (σ.1 23 0 4) (mo_ite (a = (6 : Int32)) (σ.1 0 0 12) (mo_ite (a = (7 : Int32)) (σ.1 30 0 1) ((-1 : Int32)))))))))))) (σ)
theorem m_X11_count : ∀ (as : List mo_V) (σ : mo_M) (P P' : mo_Q), (∀ x τ, P x τ → P' x τ) → S_X11_count as σ P → S_X11_count as σ P' := by
  rintro as σ P P' h ⟨a, e, hp, hq⟩
  exact ⟨a, e, hp, h _ _ hq⟩
set_option maxRecDepth 20000 in
set_option maxHeartbeats 2000000 in
theorem ct_X11_count : mo_ct yX11_count t_X11_count S_X11_count := by
  refine mo_ct_of (by decide) rfl ?_
  rintro g as σ Q ⟨a, rfl, hpre, hQ⟩
  refine ⟨Nat.le_of_ble_eq_true rfl, mo_go ok_X11_count (mo_no_ok g _) [] 36 ?_⟩
  intro K hK
  intro tt ht
  by_cases e0 : a = (0 : Int32)
  · have q : mo_sw 1 (108) (0) (7) #[47, 55, 63, 71, 79, 87, 95, 100] a = (48 : Int) := by rw [e0]; decide
    have e : tt = 48 := by have z := ht.symm.trans q; omega
    subst e
    exact mo_q hQ (by rw [mo_ite_t e0]; try rfl) rfl
  by_cases e1 : a = (1 : Int32)
  · have q : mo_sw 1 (108) (0) (7) #[47, 55, 63, 71, 79, 87, 95, 100] a = (56 : Int) := by rw [e1]; decide
    have e : tt = 56 := by have z := ht.symm.trans q; omega
    subst e
    exact mo_q hQ (by rw [mo_ite_f e0, mo_ite_t e1]; try rfl) rfl
  by_cases e2 : a = (2 : Int32)
  · have q : mo_sw 1 (108) (0) (7) #[47, 55, 63, 71, 79, 87, 95, 100] a = (64 : Int) := by rw [e2]; decide
    have e : tt = 64 := by have z := ht.symm.trans q; omega
    subst e
    exact mo_q hQ (by rw [mo_ite_f e0, mo_ite_f e1, mo_ite_t e2]; try rfl) rfl
  by_cases e3 : a = (3 : Int32)
  · have q : mo_sw 1 (108) (0) (7) #[47, 55, 63, 71, 79, 87, 95, 100] a = (72 : Int) := by rw [e3]; decide
    have e : tt = 72 := by have z := ht.symm.trans q; omega
    subst e
    exact mo_q hQ (by rw [mo_ite_f e0, mo_ite_f e1, mo_ite_f e2, mo_ite_t e3]; try rfl) rfl
  by_cases e4 : a = (4 : Int32)
  · have q : mo_sw 1 (108) (0) (7) #[47, 55, 63, 71, 79, 87, 95, 100] a = (80 : Int) := by rw [e4]; decide
    have e : tt = 80 := by have z := ht.symm.trans q; omega
    subst e
    exact mo_q hQ (by rw [mo_ite_f e0, mo_ite_f e1, mo_ite_f e2, mo_ite_f e3, mo_ite_t e4]; try rfl) rfl
  by_cases e5 : a = (5 : Int32)
  · have q : mo_sw 1 (108) (0) (7) #[47, 55, 63, 71, 79, 87, 95, 100] a = (88 : Int) := by rw [e5]; decide
    have e : tt = 88 := by have z := ht.symm.trans q; omega
    subst e
    exact mo_q hQ (by rw [mo_ite_f e0, mo_ite_f e1, mo_ite_f e2, mo_ite_f e3, mo_ite_f e4, mo_ite_t e5]; try rfl) rfl
  by_cases e6 : a = (6 : Int32)
  · have q : mo_sw 1 (108) (0) (7) #[47, 55, 63, 71, 79, 87, 95, 100] a = (96 : Int) := by rw [e6]; decide
    have e : tt = 96 := by have z := ht.symm.trans q; omega
    subst e
    exact mo_q hQ (by rw [mo_ite_f e0, mo_ite_f e1, mo_ite_f e2, mo_ite_f e3, mo_ite_f e4, mo_ite_f e5, mo_ite_t e6]; try rfl) rfl
  by_cases e7 : a = (7 : Int32)
  · have q : mo_sw 1 (108) (0) (7) #[47, 55, 63, 71, 79, 87, 95, 100] a = (101 : Int) := by rw [e7]; decide
    have e : tt = 101 := by have z := ht.symm.trans q; omega
    subst e
    exact mo_q hQ (by rw [mo_ite_f e0, mo_ite_f e1, mo_ite_f e2, mo_ite_f e3, mo_ite_f e4, mo_ite_f e5, mo_ite_f e6, mo_ite_t e7]; try rfl) rfl
  have q : mo_sw 1 (108) (0) (7) #[47, 55, 63, 71, 79, 87, 95, 100] a = (109 : Int) := by
    unfold mo_sw
    simp only [mo_ieq] at e0 e1 e2 e3 e4 e5 e6 e7
    rw [if_pos (by have z0 : (0 : Int32).toInt = 0 := (by decide); have z1 : (1 : Int32).toInt = 1 := (by decide); have z2 : (2 : Int32).toInt = 2 := (by decide); have z3 : (3 : Int32).toInt = 3 := (by decide); have z4 : (4 : Int32).toInt = 4 := (by decide); have z5 : (5 : Int32).toInt = 5 := (by decide); have z6 : (6 : Int32).toInt = 6 := (by decide); have z7 : (7 : Int32).toInt = 7 := (by decide); omega)]
    rfl
  have e : tt = 109 := by have z := ht.symm.trans q; omega
  subst e
  exact mo_q hQ (by rw [mo_ite_f e0, mo_ite_f e1, mo_ite_f e2, mo_ite_f e3, mo_ite_f e4, mo_ite_f e5, mo_ite_f e6, mo_ite_f e7]; try rfl) rfl
def S_X12_count : mo_S := fun as σ Q => ∃ a : Int32, as = [.inr (.inr (50, 0)), .inl a] ∧ (True) ∧ Q (some (.inl (mo_ite (a = (0 : Int32)) (σ.1 50 0 1) (mo_ite (a = (1 : Int32)) (σ.1 50 0 2) (mo_ite (a = (2 : Int32)) (σ.1 50 0 6) (mo_ite (a = (3 : Int32)) (σ.1 50 0 12) (mo_ite (a = (4 : Int32)) (σ.1 50 0 18) (mo_ite (a = (5 : Int32)) (σ.1 50 0 19) (mo_ite (a = (6 : Int32)) (σ.1 50 0 36) (mo_ite (a = (7 : Int32)) (σ.1 50 0 30) ((-1 : Int32)))))))))))) (σ)
theorem m_X12_count : ∀ (as : List mo_V) (σ : mo_M) (P P' : mo_Q), (∀ x τ, P x τ → P' x τ) → S_X12_count as σ P → S_X12_count as σ P' := by
  rintro as σ P P' h ⟨a, e, hp, hq⟩
  exact ⟨a, e, hp, h _ _ hq⟩
set_option maxRecDepth 20000 in
set_option maxHeartbeats 2000000 in
theorem ct_X12_count : mo_ct yX12_count t_X12_count S_X12_count := by
  refine mo_ct_of (by decide) rfl ?_
  rintro g as σ Q ⟨a, rfl, hpre, hQ⟩
  refine ⟨Nat.le_of_ble_eq_true rfl, mo_go ok_X12_count (mo_no_ok g _) [] 29 ?_⟩
  intro K hK
  intro tt ht
  by_cases e0 : a = (0 : Int32)
  · have q : mo_sw 1 (87) (0) (7) #[47, 52, 57, 62, 67, 72, 77, 82] a = (48 : Int) := by rw [e0]; decide
    have e : tt = 48 := by have z := ht.symm.trans q; omega
    subst e
    exact mo_q hQ (by rw [mo_ite_t e0]; try rfl) rfl
  by_cases e1 : a = (1 : Int32)
  · have q : mo_sw 1 (87) (0) (7) #[47, 52, 57, 62, 67, 72, 77, 82] a = (53 : Int) := by rw [e1]; decide
    have e : tt = 53 := by have z := ht.symm.trans q; omega
    subst e
    exact mo_q hQ (by rw [mo_ite_f e0, mo_ite_t e1]; try rfl) rfl
  by_cases e2 : a = (2 : Int32)
  · have q : mo_sw 1 (87) (0) (7) #[47, 52, 57, 62, 67, 72, 77, 82] a = (58 : Int) := by rw [e2]; decide
    have e : tt = 58 := by have z := ht.symm.trans q; omega
    subst e
    exact mo_q hQ (by rw [mo_ite_f e0, mo_ite_f e1, mo_ite_t e2]; try rfl) rfl
  by_cases e3 : a = (3 : Int32)
  · have q : mo_sw 1 (87) (0) (7) #[47, 52, 57, 62, 67, 72, 77, 82] a = (63 : Int) := by rw [e3]; decide
    have e : tt = 63 := by have z := ht.symm.trans q; omega
    subst e
    exact mo_q hQ (by rw [mo_ite_f e0, mo_ite_f e1, mo_ite_f e2, mo_ite_t e3]; try rfl) rfl
  by_cases e4 : a = (4 : Int32)
  · have q : mo_sw 1 (87) (0) (7) #[47, 52, 57, 62, 67, 72, 77, 82] a = (68 : Int) := by rw [e4]; decide
    have e : tt = 68 := by have z := ht.symm.trans q; omega
    subst e
    exact mo_q hQ (by rw [mo_ite_f e0, mo_ite_f e1, mo_ite_f e2, mo_ite_f e3, mo_ite_t e4]; try rfl) rfl
  by_cases e5 : a = (5 : Int32)
  · have q : mo_sw 1 (87) (0) (7) #[47, 52, 57, 62, 67, 72, 77, 82] a = (73 : Int) := by rw [e5]; decide
    have e : tt = 73 := by have z := ht.symm.trans q; omega
    subst e
    exact mo_q hQ (by rw [mo_ite_f e0, mo_ite_f e1, mo_ite_f e2, mo_ite_f e3, mo_ite_f e4, mo_ite_t e5]; try rfl) rfl
  by_cases e6 : a = (6 : Int32)
  · have q : mo_sw 1 (87) (0) (7) #[47, 52, 57, 62, 67, 72, 77, 82] a = (78 : Int) := by rw [e6]; decide
    have e : tt = 78 := by have z := ht.symm.trans q; omega
    subst e
    exact mo_q hQ (by rw [mo_ite_f e0, mo_ite_f e1, mo_ite_f e2, mo_ite_f e3, mo_ite_f e4, mo_ite_f e5, mo_ite_t e6]; try rfl) rfl
  by_cases e7 : a = (7 : Int32)
  · have q : mo_sw 1 (87) (0) (7) #[47, 52, 57, 62, 67, 72, 77, 82] a = (83 : Int) := by rw [e7]; decide
    have e : tt = 83 := by have z := ht.symm.trans q; omega
    subst e
    exact mo_q hQ (by rw [mo_ite_f e0, mo_ite_f e1, mo_ite_f e2, mo_ite_f e3, mo_ite_f e4, mo_ite_f e5, mo_ite_f e6, mo_ite_t e7]; try rfl) rfl
  have q : mo_sw 1 (87) (0) (7) #[47, 52, 57, 62, 67, 72, 77, 82] a = (88 : Int) := by
    unfold mo_sw
    simp only [mo_ieq] at e0 e1 e2 e3 e4 e5 e6 e7
    rw [if_pos (by have z0 : (0 : Int32).toInt = 0 := (by decide); have z1 : (1 : Int32).toInt = 1 := (by decide); have z2 : (2 : Int32).toInt = 2 := (by decide); have z3 : (3 : Int32).toInt = 3 := (by decide); have z4 : (4 : Int32).toInt = 4 := (by decide); have z5 : (5 : Int32).toInt = 5 := (by decide); have z6 : (6 : Int32).toInt = 6 := (by decide); have z7 : (7 : Int32).toInt = 7 := (by decide); omega)]
    rfl
  have e : tt = 88 := by have z := ht.symm.trans q; omega
  subst e
  exact mo_q hQ (by rw [mo_ite_f e0, mo_ite_f e1, mo_ite_f e2, mo_ite_f e3, mo_ite_f e4, mo_ite_f e5, mo_ite_f e6, mo_ite_f e7]; try rfl) rfl
end
section
noncomputable def mo_hold (σ : mo_M) (a b : Int32) : Prop := mo_ite (σ.1 75 0 a.toNatClampNeg = (0 : Int32)) (b < σ.1 76 0 a.toNatClampNeg) (mo_ite (σ.1 75 0 a.toNatClampNeg = (1 : Int32)) (b ≤ σ.1 76 0 a.toNatClampNeg) (mo_ite (σ.1 75 0 a.toNatClampNeg = (2 : Int32)) (σ.1 76 0 a.toNatClampNeg < b) (mo_ite (σ.1 75 0 a.toNatClampNeg = (3 : Int32)) (σ.1 76 0 a.toNatClampNeg ≤ b) (mo_ite (σ.1 75 0 a.toNatClampNeg = (4 : Int32)) (b = σ.1 76 0 a.toNatClampNeg) (True)))))
def S_X12_holds : mo_S := fun as σ Q => ∃ a : Int32, ∃ b : Int32, as = [.inr (.inr (50, 0)), .inl a, .inl b] ∧ (vp_in a 600) ∧ Q (some (.inl (mo_bl (mo_hold σ a b)))) (σ)
theorem m_X12_holds : ∀ (as : List mo_V) (σ : mo_M) (P P' : mo_Q), (∀ x τ, P x τ → P' x τ) → S_X12_holds as σ P → S_X12_holds as σ P' := by
  rintro as σ P P' h ⟨a, b, e, hp, hq⟩
  exact ⟨a, b, e, hp, h _ _ hq⟩
set_option maxRecDepth 20000 in
set_option maxHeartbeats 2000000 in
theorem ct_X12_holds : mo_ct yX12_holds t_X12_holds S_X12_holds := by
  refine mo_ct_of (by decide) rfl ?_
  rintro g as σ Q ⟨a, b, rfl, hpre, hQ⟩
  refine ⟨Nat.le_of_ble_eq_true rfl, mo_go ok_X12_holds (mo_no_ok g _) [] 48 ?_⟩
  intro K hK
  refine And.intro (show vp_in a 600 from hpre) ?_
  refine And.intro (show vp_in a 600 from hpre) ?_
  intro tt ht
  by_cases e0 : σ.1 75 0 a.toNatClampNeg = (0 : Int32)
  · have q : mo_sw 13 (90) (0) (4) #[35, 46, 57, 68, 79] (σ.1 75 0 a.toNatClampNeg) = (48 : Int) := by rw [e0]; decide
    have e : tt = 48 := by have z := ht.symm.trans q; omega
    subst e
    have hh : mo_hold σ a b = (b < σ.1 76 0 a.toNatClampNeg) := by unfold mo_hold; rw [mo_ite_t e0]
    refine And.intro (fun (c1 : (σ.1 76 0 a.toNatClampNeg) ≤ b) => ?_) (fun (c1 : ¬ (σ.1 76 0 a.toNatClampNeg) ≤ b) => ?_)
    · refine And.intro (by first | decide | exact mo_bl01 _) ?_
      exact mo_q hQ (mo_r0 (by rw [hh]; ((try simp only [mo_bl0, Classical.not_not] at c1); (try simp only [Int32.lt_iff_toInt_lt, Int32.le_iff_toInt_le, mo_ieq, Int32.toInt_zero, mo_n1, Nat.reduceAdd] at c1 ⊢); omega))) rfl
    · refine And.intro (by first | decide | exact mo_bl01 _) ?_
      exact mo_q hQ (mo_r1 (by rw [hh]; ((try simp only [mo_bl0, Classical.not_not] at c1); (try simp only [Int32.lt_iff_toInt_lt, Int32.le_iff_toInt_le, mo_ieq, Int32.toInt_zero, mo_n1, Nat.reduceAdd] at c1 ⊢); omega))) rfl
  by_cases e1 : σ.1 75 0 a.toNatClampNeg = (1 : Int32)
  · have q : mo_sw 13 (90) (0) (4) #[35, 46, 57, 68, 79] (σ.1 75 0 a.toNatClampNeg) = (59 : Int) := by rw [e1]; decide
    have e : tt = 59 := by have z := ht.symm.trans q; omega
    subst e
    have hh : mo_hold σ a b = (b ≤ σ.1 76 0 a.toNatClampNeg) := by unfold mo_hold; rw [mo_ite_f e0, mo_ite_t e1]
    refine And.intro (fun (c1 : (σ.1 76 0 a.toNatClampNeg) < b) => ?_) (fun (c1 : ¬ (σ.1 76 0 a.toNatClampNeg) < b) => ?_)
    · refine And.intro (by first | decide | exact mo_bl01 _) ?_
      exact mo_q hQ (mo_r0 (by rw [hh]; ((try simp only [mo_bl0, Classical.not_not] at c1); (try simp only [Int32.lt_iff_toInt_lt, Int32.le_iff_toInt_le, mo_ieq, Int32.toInt_zero, mo_n1, Nat.reduceAdd] at c1 ⊢); omega))) rfl
    · refine And.intro (by first | decide | exact mo_bl01 _) ?_
      exact mo_q hQ (mo_r1 (by rw [hh]; ((try simp only [mo_bl0, Classical.not_not] at c1); (try simp only [Int32.lt_iff_toInt_lt, Int32.le_iff_toInt_le, mo_ieq, Int32.toInt_zero, mo_n1, Nat.reduceAdd] at c1 ⊢); omega))) rfl
  by_cases e2 : σ.1 75 0 a.toNatClampNeg = (2 : Int32)
  · have q : mo_sw 13 (90) (0) (4) #[35, 46, 57, 68, 79] (σ.1 75 0 a.toNatClampNeg) = (70 : Int) := by rw [e2]; decide
    have e : tt = 70 := by have z := ht.symm.trans q; omega
    subst e
    have hh : mo_hold σ a b = (σ.1 76 0 a.toNatClampNeg < b) := by unfold mo_hold; rw [mo_ite_f e0, mo_ite_f e1, mo_ite_t e2]
    refine And.intro (fun (c1 : b ≤ (σ.1 76 0 a.toNatClampNeg)) => ?_) (fun (c1 : ¬ b ≤ (σ.1 76 0 a.toNatClampNeg)) => ?_)
    · refine And.intro (by first | decide | exact mo_bl01 _) ?_
      exact mo_q hQ (mo_r0 (by rw [hh]; ((try simp only [mo_bl0, Classical.not_not] at c1); (try simp only [Int32.lt_iff_toInt_lt, Int32.le_iff_toInt_le, mo_ieq, Int32.toInt_zero, mo_n1, Nat.reduceAdd] at c1 ⊢); omega))) rfl
    · refine And.intro (by first | decide | exact mo_bl01 _) ?_
      exact mo_q hQ (mo_r1 (by rw [hh]; ((try simp only [mo_bl0, Classical.not_not] at c1); (try simp only [Int32.lt_iff_toInt_lt, Int32.le_iff_toInt_le, mo_ieq, Int32.toInt_zero, mo_n1, Nat.reduceAdd] at c1 ⊢); omega))) rfl
  by_cases e3 : σ.1 75 0 a.toNatClampNeg = (3 : Int32)
  · have q : mo_sw 13 (90) (0) (4) #[35, 46, 57, 68, 79] (σ.1 75 0 a.toNatClampNeg) = (81 : Int) := by rw [e3]; decide
    have e : tt = 81 := by have z := ht.symm.trans q; omega
    subst e
    have hh : mo_hold σ a b = (σ.1 76 0 a.toNatClampNeg ≤ b) := by unfold mo_hold; rw [mo_ite_f e0, mo_ite_f e1, mo_ite_f e2, mo_ite_t e3]
    refine And.intro (fun (c1 : b < (σ.1 76 0 a.toNatClampNeg)) => ?_) (fun (c1 : ¬ b < (σ.1 76 0 a.toNatClampNeg)) => ?_)
    · refine And.intro (by first | decide | exact mo_bl01 _) ?_
      exact mo_q hQ (mo_r0 (by rw [hh]; ((try simp only [mo_bl0, Classical.not_not] at c1); (try simp only [Int32.lt_iff_toInt_lt, Int32.le_iff_toInt_le, mo_ieq, Int32.toInt_zero, mo_n1, Nat.reduceAdd] at c1 ⊢); omega))) rfl
    · refine And.intro (by first | decide | exact mo_bl01 _) ?_
      exact mo_q hQ (mo_r1 (by rw [hh]; ((try simp only [mo_bl0, Classical.not_not] at c1); (try simp only [Int32.lt_iff_toInt_lt, Int32.le_iff_toInt_le, mo_ieq, Int32.toInt_zero, mo_n1, Nat.reduceAdd] at c1 ⊢); omega))) rfl
  by_cases e4 : σ.1 75 0 a.toNatClampNeg = (4 : Int32)
  · have q : mo_sw 13 (90) (0) (4) #[35, 46, 57, 68, 79] (σ.1 75 0 a.toNatClampNeg) = (92 : Int) := by rw [e4]; decide
    have e : tt = 92 := by have z := ht.symm.trans q; omega
    subst e
    have hh : mo_hold σ a b = (b = σ.1 76 0 a.toNatClampNeg) := by unfold mo_hold; rw [mo_ite_f e0, mo_ite_f e1, mo_ite_f e2, mo_ite_f e3, mo_ite_t e4]
    refine And.intro (fun (c1 : ¬ b = (σ.1 76 0 a.toNatClampNeg)) => ?_) (fun (c1 : b = (σ.1 76 0 a.toNatClampNeg)) => ?_)
    · refine And.intro (by first | decide | exact mo_bl01 _) ?_
      exact mo_q hQ (mo_r0 (by rw [hh]; ((try simp only [mo_bl0, Classical.not_not] at c1); (try simp only [Int32.lt_iff_toInt_lt, Int32.le_iff_toInt_le, mo_ieq, Int32.toInt_zero, mo_n1, Nat.reduceAdd] at c1 ⊢); omega))) rfl
    · refine And.intro (by first | decide | exact mo_bl01 _) ?_
      exact mo_q hQ (mo_r1 (by rw [hh]; ((try simp only [mo_bl0, Classical.not_not] at c1); (try simp only [Int32.lt_iff_toInt_lt, Int32.le_iff_toInt_le, mo_ieq, Int32.toInt_zero, mo_n1, Nat.reduceAdd] at c1 ⊢); omega))) rfl
  have q : mo_sw 13 (90) (0) (4) #[35, 46, 57, 68, 79] (σ.1 75 0 a.toNatClampNeg) = (103 : Int) := by
    unfold mo_sw
    simp only [mo_ieq] at e0 e1 e2 e3 e4
    rw [if_pos (by have z0 : (0 : Int32).toInt = 0 := (by decide); have z1 : (1 : Int32).toInt = 1 := (by decide); have z2 : (2 : Int32).toInt = 2 := (by decide); have z3 : (3 : Int32).toInt = 3 := (by decide); have z4 : (4 : Int32).toInt = 4 := (by decide); omega)]
    rfl
  have e : tt = 103 := by have z := ht.symm.trans q; omega
  subst e
  have hh : mo_hold σ a b = (True) := by unfold mo_hold; rw [mo_ite_f e0, mo_ite_f e1, mo_ite_f e2, mo_ite_f e3, mo_ite_f e4]
  refine And.intro (by first | decide | exact mo_bl01 _) ?_
  exact mo_q hQ (mo_r1 (by rw [hh]; trivial)) rfl
end
section
theorem mo_inI {x : Int32} {N : Nat} (h : vp_in x N) : x = nI x.toNatClampNeg ∧ x.toNatClampNeg < N := by
  unfold vp_in at h
  have h0 : ¬ x < 0 := fun q => h (Or.inl q)
  have h1 : ¬ N ≤ x.toNatClampNeg := fun q => h (Or.inr q)
  obtain ⟨j, hj, rfl⟩ := nI_of h0
  rw [nI_clamp hj] at h1 ⊢
  exact ⟨rfl, by omega⟩
noncomputable def mo_isb (σ : mo_M) (a b : Int32) : Nat → Prop × Prop := mo_fo (fun k (p : Prop × Prop) => (p.1 ∨ (((0 : Int32) < nI k ∧ ¬ σ.1 77 0 ((30 : Int32) * a + nI k).toNatClampNeg = σ.1 77 0 (((30 : Int32) * a + nI k) - 1).toNatClampNeg) ∧ p.2), (((0 : Int32) < nI k ∧ ¬ σ.1 77 0 ((30 : Int32) * a + nI k).toNatClampNeg = σ.1 77 0 (((30 : Int32) * a + nI k) - 1).toNatClampNeg) ∨ p.2) ∧ mo_hold σ ((30 : Int32) * a + nI k) (σ.1 53 0 b.toNatClampNeg))) (False, True)
noncomputable def mo_isB (σ : mo_M) (a b : Int32) : Prop := σ.1 71 0 (σ.1 52 0 b.toNatClampNeg).toNatClampNeg = σ.1 71 0 (σ.1 73 0 a.toNatClampNeg).toNatClampNeg ∧ ((mo_isb σ a b (σ.1 74 0 a.toNatClampNeg).toNatClampNeg).1 ∨ (mo_isb σ a b (σ.1 74 0 a.toNatClampNeg).toNatClampNeg).2)
def S_X12_isBad : mo_S := fun as σ Q => ∃ a : Int32, ∃ b : Int32, as = [.inr (.inr (50, 0)), .inl a, .inl b] ∧ (vp_in a 20 ∧ vp_in b 60 ∧ vp_in (σ.1 52 0 b.toNatClampNeg) 30 ∧ vp_in (σ.1 73 0 a.toNatClampNeg) 30 ∧ mo_le (σ.1 74 0 a.toNatClampNeg) 30) ∧ Q (some (.inl (mo_bl (mo_isB σ a b)))) (σ)
theorem m_X12_isBad : ∀ (as : List mo_V) (σ : mo_M) (P P' : mo_Q), (∀ x τ, P x τ → P' x τ) → S_X12_isBad as σ P → S_X12_isBad as σ P' := by
  rintro as σ P P' h ⟨a, b, e, hp, hq⟩
  exact ⟨a, b, e, hp, h _ _ hq⟩
def cs_X12_isBad : Nat → mo_C := fun j => match j with
  | 0 => (3, true, 246, 12, S_X12_holds)
  | _ => (0, false, 0, 50, fun _ _ _ => False)
theorem cs_X12_isBad_ok (g : mo_E) : ∀ j, mo_cok g t_X12_isBad (cs_X12_isBad j) ∧ mo_mon (cs_X12_isBad j) := by
  intro j
  unfold cs_X12_isBad
  split
  · exact ⟨mo_cokV ct_X12_holds (by decide) ⟨_, _, rfl⟩ (by decide +kernel), m_X12_holds⟩
  · exact ⟨mo_cok0 g _, mo_mon0⟩
set_option maxRecDepth 20000 in
set_option maxHeartbeats 2000000 in
theorem lp_X12_isBad (g : mo_E) (σ : mo_M) (Q : mo_Q) (a b : Int32) (n : Nat) (ha : a = nI a.toNatClampNeg ∧ a.toNatClampNeg < 20) (hb : vp_in b 60) (hn : σ.1 74 0 a.toNatClampNeg = nI n) (hle : n ≤ 30) (hQ : Q (some (.inl (mo_bl ((mo_isb σ a b n).1 ∨ (mo_isb σ a b n).2)))) σ) : ∀ (d k : Nat), n < k + d → k ≤ n → (True) → mo_X g t_X12_isBad Q 35 [some (.inr (.inr (50, 0))), some (.inl a), some (.inl b), some (.inl (mo_bl (mo_isb σ a b k).1)), some (.inl (mo_bl (mo_isb σ a b k).2)), some (.inl (nI k)), none] [] (σ) := by
  intro d
  induction d with
  | zero => intro k h1 h2; omega
  | succ d ih =>
    intro k h1 h2 hinv
    have hkc : (nI k).toNatClampNeg = k := mo_cl (by omega)
    have hat : ((30 : Int32) * a + nI k) = nI (30 * a.toNatClampNeg + k) := (congrArg (fun z => (30 : Int32) * z + nI k) ha.1).trans ((congrArg (fun z => z + nI k) (pk_mul 30 _)).trans (nI_add _ _))
    refine mo_go ok_X12_isBad (cs_X12_isBad_ok g) [35] 83 ?_
    intro K hK
    refine And.intro (show vp_in a 20 by rw [ha.1]; exact mo_inN ha.2 (by decide)) ?_
    refine And.intro (fun (c1 : (σ.1 74 0 a.toNatClampNeg) ≤ (nI k)) => ?_) (fun (c1 : ¬ (σ.1 74 0 a.toNatClampNeg) ≤ (nI k)) => ?_)
    · have hk : n ≤ k := mo_cge hn (by omega) (by omega) c1
      refine And.intro (fun (c2 : ¬ (mo_bl (mo_isb σ a b k).1) = 0) => ?_) (fun (c2 : (mo_bl (mo_isb σ a b k).1) = 0) => ?_)
      · refine And.intro (by first | decide | exact mo_bl01 _) ?_
        (have e : k = n := (by omega); subst e; exact mo_q hQ (mo_r1 (by ((try simp only [hkc, mo_bl0, Classical.not_not, ← Int32.not_lt] at c2 ⊢); (try clear ih); (try clear hih); clear hK hQ; grind))) rfl)
      · refine And.intro (fun (c3 : (mo_bl (mo_isb σ a b k).2) = 0) => ?_) (fun (c3 : ¬ (mo_bl (mo_isb σ a b k).2) = 0) => ?_)
        · refine And.intro (by first | decide | exact mo_bl01 _) ?_
          (have e : k = n := (by omega); subst e; exact mo_q hQ (mo_r0 (by ((try simp only [hkc, mo_bl0, Classical.not_not, ← Int32.not_lt] at c2 c3 ⊢); (try clear ih); (try clear hih); clear hK hQ; grind))) rfl)
        · refine And.intro (by first | decide | exact mo_bl01 _) ?_
          (have e : k = n := (by omega); subst e; exact mo_q hQ (mo_r1 (by ((try simp only [hkc, mo_bl0, Classical.not_not, ← Int32.not_lt] at c2 c3 ⊢); (try clear ih); (try clear hih); clear hK hQ; grind))) rfl)
    · have hk : k < n := mo_clt hn (by omega) (by omega) c1
      refine And.intro (fun (c2 : (nI k) ≤ 0) => ?_) (fun (c2 : ¬ (nI k) ≤ 0) => ?_)
      · refine And.intro (fun (c3 : (mo_bl (mo_isb σ a b k).2) = 0) => ?_) (fun (c3 : ¬ (mo_bl (mo_isb σ a b k).2) = 0) => ?_)
        · (have hih := ih (k + 1) (by omega) (by omega) trivial; have e3 : mo_bl (mo_isb σ a b (k + 1)).1 = mo_bl (mo_isb σ a b k).1 := mo_blc (show ((mo_isb σ a b k).1 ∨ (((0 : Int32) < nI k ∧ ¬ σ.1 77 0 ((30 : Int32) * a + nI k).toNatClampNeg = σ.1 77 0 (((30 : Int32) * a + nI k) - 1).toNatClampNeg) ∧ (mo_isb σ a b k).2)) ↔ (mo_isb σ a b k).1 from by ((try simp only [hkc, mo_bl0, Classical.not_not, ← Int32.not_lt] at c2 c3 ⊢); (try clear ih); (try clear hih); clear hK hQ; grind)); have e4 : mo_bl (mo_isb σ a b (k + 1)).2 = (0 : Int32) := mo_bl_f (show ¬ ((((0 : Int32) < nI k ∧ ¬ σ.1 77 0 ((30 : Int32) * a + nI k).toNatClampNeg = σ.1 77 0 (((30 : Int32) * a + nI k) - 1).toNatClampNeg) ∨ (mo_isb σ a b k).2) ∧ mo_hold σ ((30 : Int32) * a + nI k) (σ.1 53 0 b.toNatClampNeg)) from by ((try simp only [hkc, mo_bl0, Classical.not_not, ← Int32.not_lt] at c2 c3 ⊢); (try clear ih); (try clear hih); clear hK hQ; grind)); rw [nI_succ, e3, e4] at hih; refine hK _ _ _ _ (show mo_X g t_X12_isBad Q 35 [some (.inr (.inr (50, 0))), some (.inl a), some (.inl b), some (.inl (mo_bl (mo_isb σ a b k).1)), some (.inl (0 : Int32)), some (.inl ((nI k) + (1 : Int32))), some (.inl (((30 : Int32) * a) + (nI k)))] [] (σ) from ?_); refine mo_wk ?_ hih; exact And.intro rfl (And.intro rfl (And.intro rfl (And.intro rfl (And.intro rfl (And.intro rfl (trivial)))))))
        · refine And.intro (show vp_in b 60 by exact hb) ?_
          refine Exists.intro (((30 : Int32) * a) + (nI k)) (Exists.intro (σ.1 53 0 b.toNatClampNeg) (And.intro rfl (And.intro (show vp_in (((30 : Int32) * a) + (nI k)) 600 by rw [hat]; exact mo_inN (by omega) (by decide)) ?_)))
          refine And.intro (fun (c4 : (mo_bl (mo_hold σ (((30 : Int32) * a) + (nI k)) (σ.1 53 0 b.toNatClampNeg))) = 0) => ?_) (fun (c4 : ¬ (mo_bl (mo_hold σ (((30 : Int32) * a) + (nI k)) (σ.1 53 0 b.toNatClampNeg))) = 0) => ?_)
          · (have hih := ih (k + 1) (by omega) (by omega) trivial; have e3 : mo_bl (mo_isb σ a b (k + 1)).1 = mo_bl (mo_isb σ a b k).1 := mo_blc (show ((mo_isb σ a b k).1 ∨ (((0 : Int32) < nI k ∧ ¬ σ.1 77 0 ((30 : Int32) * a + nI k).toNatClampNeg = σ.1 77 0 (((30 : Int32) * a + nI k) - 1).toNatClampNeg) ∧ (mo_isb σ a b k).2)) ↔ (mo_isb σ a b k).1 from by ((try simp only [hkc, mo_bl0, Classical.not_not, ← Int32.not_lt] at c2 c3 c4 ⊢); (try clear ih); (try clear hih); clear hK hQ; grind)); have e4 : mo_bl (mo_isb σ a b (k + 1)).2 = (0 : Int32) := mo_bl_f (show ¬ ((((0 : Int32) < nI k ∧ ¬ σ.1 77 0 ((30 : Int32) * a + nI k).toNatClampNeg = σ.1 77 0 (((30 : Int32) * a + nI k) - 1).toNatClampNeg) ∨ (mo_isb σ a b k).2) ∧ mo_hold σ ((30 : Int32) * a + nI k) (σ.1 53 0 b.toNatClampNeg)) from by ((try simp only [hkc, mo_bl0, Classical.not_not, ← Int32.not_lt] at c2 c3 c4 ⊢); (try clear ih); (try clear hih); clear hK hQ; grind)); rw [nI_succ, e3, e4] at hih; refine hK _ _ _ _ (show mo_X g t_X12_isBad Q 35 [some (.inr (.inr (50, 0))), some (.inl a), some (.inl b), some (.inl (mo_bl (mo_isb σ a b k).1)), some (.inl (0 : Int32)), some (.inl ((nI k) + (1 : Int32))), some (.inl (((30 : Int32) * a) + (nI k)))] [] (σ) from ?_); refine mo_wk ?_ hih; exact And.intro rfl (And.intro rfl (And.intro rfl (And.intro rfl (And.intro rfl (And.intro rfl (trivial)))))))
          · (have hih := ih (k + 1) (by omega) (by omega) trivial; have e3 : mo_bl (mo_isb σ a b (k + 1)).1 = mo_bl (mo_isb σ a b k).1 := mo_blc (show ((mo_isb σ a b k).1 ∨ (((0 : Int32) < nI k ∧ ¬ σ.1 77 0 ((30 : Int32) * a + nI k).toNatClampNeg = σ.1 77 0 (((30 : Int32) * a + nI k) - 1).toNatClampNeg) ∧ (mo_isb σ a b k).2)) ↔ (mo_isb σ a b k).1 from by ((try simp only [hkc, mo_bl0, Classical.not_not, ← Int32.not_lt] at c2 c3 c4 ⊢); (try clear ih); (try clear hih); clear hK hQ; grind)); have e4 : mo_bl (mo_isb σ a b (k + 1)).2 = (1 : Int32) := mo_bl_t (show (((0 : Int32) < nI k ∧ ¬ σ.1 77 0 ((30 : Int32) * a + nI k).toNatClampNeg = σ.1 77 0 (((30 : Int32) * a + nI k) - 1).toNatClampNeg) ∨ (mo_isb σ a b k).2) ∧ mo_hold σ ((30 : Int32) * a + nI k) (σ.1 53 0 b.toNatClampNeg) from by ((try simp only [hkc, mo_bl0, Classical.not_not, ← Int32.not_lt] at c2 c3 c4 ⊢); (try clear ih); (try clear hih); clear hK hQ; grind)); rw [nI_succ, e3, e4] at hih; refine hK _ _ _ _ (show mo_X g t_X12_isBad Q 35 [some (.inr (.inr (50, 0))), some (.inl a), some (.inl b), some (.inl (mo_bl (mo_isb σ a b k).1)), some (.inl (1 : Int32)), some (.inl ((nI k) + (1 : Int32))), some (.inl (((30 : Int32) * a) + (nI k)))] [] (σ) from ?_); refine mo_wk ?_ hih; exact And.intro rfl (And.intro rfl (And.intro rfl (And.intro rfl (And.intro rfl (And.intro rfl (trivial)))))))
      · refine And.intro (show vp_in (((30 : Int32) * a) + (nI k)) 600 by rw [hat]; exact mo_inN (by omega) (by decide)) ?_
        refine And.intro (show vp_in ((((30 : Int32) * a) + (nI k)) - (1 : Int32)) 600 by rw [hat]; have hk0 : 0 < k := (by rcases Nat.eq_zero_or_pos k with q | q; (· subst q; exact absurd (by decide) c2); exact q); obtain ⟨z, hz⟩ : ∃ z, 30 * a.toNatClampNeg + k = z + 1 := ⟨30 * a.toNatClampNeg + k - 1, by omega⟩; rw [hz, nI_pred]; exact mo_inN (by omega) (by decide)) ?_
        refine And.intro (fun (c3 : (σ.1 77 0 ((((30 : Int32) * a) + (nI k)).toNatClampNeg)) = (σ.1 77 0 (((((30 : Int32) * a) + (nI k)) - (1 : Int32)).toNatClampNeg))) => ?_) (fun (c3 : ¬ (σ.1 77 0 ((((30 : Int32) * a) + (nI k)).toNatClampNeg)) = (σ.1 77 0 (((((30 : Int32) * a) + (nI k)) - (1 : Int32)).toNatClampNeg))) => ?_)
        · refine And.intro (fun (c4 : (mo_bl (mo_isb σ a b k).2) = 0) => ?_) (fun (c4 : ¬ (mo_bl (mo_isb σ a b k).2) = 0) => ?_)
          · (have hih := ih (k + 1) (by omega) (by omega) trivial; have e3 : mo_bl (mo_isb σ a b (k + 1)).1 = mo_bl (mo_isb σ a b k).1 := mo_blc (show ((mo_isb σ a b k).1 ∨ (((0 : Int32) < nI k ∧ ¬ σ.1 77 0 ((30 : Int32) * a + nI k).toNatClampNeg = σ.1 77 0 (((30 : Int32) * a + nI k) - 1).toNatClampNeg) ∧ (mo_isb σ a b k).2)) ↔ (mo_isb σ a b k).1 from by ((try simp only [hkc, mo_bl0, Classical.not_not, ← Int32.not_lt] at c2 c3 c4 ⊢); (try clear ih); (try clear hih); clear hK hQ; grind)); have e4 : mo_bl (mo_isb σ a b (k + 1)).2 = (0 : Int32) := mo_bl_f (show ¬ ((((0 : Int32) < nI k ∧ ¬ σ.1 77 0 ((30 : Int32) * a + nI k).toNatClampNeg = σ.1 77 0 (((30 : Int32) * a + nI k) - 1).toNatClampNeg) ∨ (mo_isb σ a b k).2) ∧ mo_hold σ ((30 : Int32) * a + nI k) (σ.1 53 0 b.toNatClampNeg)) from by ((try simp only [hkc, mo_bl0, Classical.not_not, ← Int32.not_lt] at c2 c3 c4 ⊢); (try clear ih); (try clear hih); clear hK hQ; grind)); rw [nI_succ, e3, e4] at hih; refine hK _ _ _ _ (show mo_X g t_X12_isBad Q 35 [some (.inr (.inr (50, 0))), some (.inl a), some (.inl b), some (.inl (mo_bl (mo_isb σ a b k).1)), some (.inl (0 : Int32)), some (.inl ((nI k) + (1 : Int32))), some (.inl (((30 : Int32) * a) + (nI k)))] [] (σ) from ?_); refine mo_wk ?_ hih; exact And.intro rfl (And.intro rfl (And.intro rfl (And.intro rfl (And.intro rfl (And.intro rfl (trivial)))))))
          · refine And.intro (show vp_in b 60 by exact hb) ?_
            refine Exists.intro (((30 : Int32) * a) + (nI k)) (Exists.intro (σ.1 53 0 b.toNatClampNeg) (And.intro rfl (And.intro (show vp_in (((30 : Int32) * a) + (nI k)) 600 by rw [hat]; exact mo_inN (by omega) (by decide)) ?_)))
            refine And.intro (fun (c5 : (mo_bl (mo_hold σ (((30 : Int32) * a) + (nI k)) (σ.1 53 0 b.toNatClampNeg))) = 0) => ?_) (fun (c5 : ¬ (mo_bl (mo_hold σ (((30 : Int32) * a) + (nI k)) (σ.1 53 0 b.toNatClampNeg))) = 0) => ?_)
            · (have hih := ih (k + 1) (by omega) (by omega) trivial; have e3 : mo_bl (mo_isb σ a b (k + 1)).1 = mo_bl (mo_isb σ a b k).1 := mo_blc (show ((mo_isb σ a b k).1 ∨ (((0 : Int32) < nI k ∧ ¬ σ.1 77 0 ((30 : Int32) * a + nI k).toNatClampNeg = σ.1 77 0 (((30 : Int32) * a + nI k) - 1).toNatClampNeg) ∧ (mo_isb σ a b k).2)) ↔ (mo_isb σ a b k).1 from by ((try simp only [hkc, mo_bl0, Classical.not_not, ← Int32.not_lt] at c2 c3 c4 c5 ⊢); (try clear ih); (try clear hih); clear hK hQ; grind)); have e4 : mo_bl (mo_isb σ a b (k + 1)).2 = (0 : Int32) := mo_bl_f (show ¬ ((((0 : Int32) < nI k ∧ ¬ σ.1 77 0 ((30 : Int32) * a + nI k).toNatClampNeg = σ.1 77 0 (((30 : Int32) * a + nI k) - 1).toNatClampNeg) ∨ (mo_isb σ a b k).2) ∧ mo_hold σ ((30 : Int32) * a + nI k) (σ.1 53 0 b.toNatClampNeg)) from by ((try simp only [hkc, mo_bl0, Classical.not_not, ← Int32.not_lt] at c2 c3 c4 c5 ⊢); (try clear ih); (try clear hih); clear hK hQ; grind)); rw [nI_succ, e3, e4] at hih; refine hK _ _ _ _ (show mo_X g t_X12_isBad Q 35 [some (.inr (.inr (50, 0))), some (.inl a), some (.inl b), some (.inl (mo_bl (mo_isb σ a b k).1)), some (.inl (0 : Int32)), some (.inl ((nI k) + (1 : Int32))), some (.inl (((30 : Int32) * a) + (nI k)))] [] (σ) from ?_); refine mo_wk ?_ hih; exact And.intro rfl (And.intro rfl (And.intro rfl (And.intro rfl (And.intro rfl (And.intro rfl (trivial)))))))
            · (have hih := ih (k + 1) (by omega) (by omega) trivial; have e3 : mo_bl (mo_isb σ a b (k + 1)).1 = mo_bl (mo_isb σ a b k).1 := mo_blc (show ((mo_isb σ a b k).1 ∨ (((0 : Int32) < nI k ∧ ¬ σ.1 77 0 ((30 : Int32) * a + nI k).toNatClampNeg = σ.1 77 0 (((30 : Int32) * a + nI k) - 1).toNatClampNeg) ∧ (mo_isb σ a b k).2)) ↔ (mo_isb σ a b k).1 from by ((try simp only [hkc, mo_bl0, Classical.not_not, ← Int32.not_lt] at c2 c3 c4 c5 ⊢); (try clear ih); (try clear hih); clear hK hQ; grind)); have e4 : mo_bl (mo_isb σ a b (k + 1)).2 = (1 : Int32) := mo_bl_t (show (((0 : Int32) < nI k ∧ ¬ σ.1 77 0 ((30 : Int32) * a + nI k).toNatClampNeg = σ.1 77 0 (((30 : Int32) * a + nI k) - 1).toNatClampNeg) ∨ (mo_isb σ a b k).2) ∧ mo_hold σ ((30 : Int32) * a + nI k) (σ.1 53 0 b.toNatClampNeg) from by ((try simp only [hkc, mo_bl0, Classical.not_not, ← Int32.not_lt] at c2 c3 c4 c5 ⊢); (try clear ih); (try clear hih); clear hK hQ; grind)); rw [nI_succ, e3, e4] at hih; refine hK _ _ _ _ (show mo_X g t_X12_isBad Q 35 [some (.inr (.inr (50, 0))), some (.inl a), some (.inl b), some (.inl (mo_bl (mo_isb σ a b k).1)), some (.inl (1 : Int32)), some (.inl ((nI k) + (1 : Int32))), some (.inl (((30 : Int32) * a) + (nI k)))] [] (σ) from ?_); refine mo_wk ?_ hih; exact And.intro rfl (And.intro rfl (And.intro rfl (And.intro rfl (And.intro rfl (And.intro rfl (trivial)))))))
        · refine And.intro (fun (c4 : ¬ (mo_bl (mo_isb σ a b k).1) = 0) => ?_) (fun (c4 : (mo_bl (mo_isb σ a b k).1) = 0) => ?_)
          · refine And.intro (fun (c5 : (1 : Int32) = 0) => ?_) (fun (c5 : ¬ (1 : Int32) = 0) => ?_)
            · exact absurd c5 (by decide)
            · refine And.intro (show vp_in b 60 by exact hb) ?_
              refine Exists.intro (((30 : Int32) * a) + (nI k)) (Exists.intro (σ.1 53 0 b.toNatClampNeg) (And.intro rfl (And.intro (show vp_in (((30 : Int32) * a) + (nI k)) 600 by rw [hat]; exact mo_inN (by omega) (by decide)) ?_)))
              refine And.intro (fun (c6 : (mo_bl (mo_hold σ (((30 : Int32) * a) + (nI k)) (σ.1 53 0 b.toNatClampNeg))) = 0) => ?_) (fun (c6 : ¬ (mo_bl (mo_hold σ (((30 : Int32) * a) + (nI k)) (σ.1 53 0 b.toNatClampNeg))) = 0) => ?_)
              · (have hih := ih (k + 1) (by omega) (by omega) trivial; have e3 : mo_bl (mo_isb σ a b (k + 1)).1 = (1 : Int32) := mo_bl_t (show (mo_isb σ a b k).1 ∨ (((0 : Int32) < nI k ∧ ¬ σ.1 77 0 ((30 : Int32) * a + nI k).toNatClampNeg = σ.1 77 0 (((30 : Int32) * a + nI k) - 1).toNatClampNeg) ∧ (mo_isb σ a b k).2) from by ((try simp only [hkc, mo_bl0, Classical.not_not, ← Int32.not_lt] at c2 c3 c4 c5 c6 ⊢); (try clear ih); (try clear hih); clear hK hQ; grind)); have e4 : mo_bl (mo_isb σ a b (k + 1)).2 = (0 : Int32) := mo_bl_f (show ¬ ((((0 : Int32) < nI k ∧ ¬ σ.1 77 0 ((30 : Int32) * a + nI k).toNatClampNeg = σ.1 77 0 (((30 : Int32) * a + nI k) - 1).toNatClampNeg) ∨ (mo_isb σ a b k).2) ∧ mo_hold σ ((30 : Int32) * a + nI k) (σ.1 53 0 b.toNatClampNeg)) from by ((try simp only [hkc, mo_bl0, Classical.not_not, ← Int32.not_lt] at c2 c3 c4 c5 c6 ⊢); (try clear ih); (try clear hih); clear hK hQ; grind)); rw [nI_succ, e3, e4] at hih; refine hK _ _ _ _ (show mo_X g t_X12_isBad Q 35 [some (.inr (.inr (50, 0))), some (.inl a), some (.inl b), some (.inl (1 : Int32)), some (.inl (0 : Int32)), some (.inl ((nI k) + (1 : Int32))), some (.inl (((30 : Int32) * a) + (nI k)))] [] (σ) from ?_); refine mo_wk ?_ hih; exact And.intro rfl (And.intro rfl (And.intro rfl (And.intro rfl (And.intro rfl (And.intro rfl (trivial)))))))
              · (have hih := ih (k + 1) (by omega) (by omega) trivial; have e3 : mo_bl (mo_isb σ a b (k + 1)).1 = (1 : Int32) := mo_bl_t (show (mo_isb σ a b k).1 ∨ (((0 : Int32) < nI k ∧ ¬ σ.1 77 0 ((30 : Int32) * a + nI k).toNatClampNeg = σ.1 77 0 (((30 : Int32) * a + nI k) - 1).toNatClampNeg) ∧ (mo_isb σ a b k).2) from by ((try simp only [hkc, mo_bl0, Classical.not_not, ← Int32.not_lt] at c2 c3 c4 c5 c6 ⊢); (try clear ih); (try clear hih); clear hK hQ; grind)); have e4 : mo_bl (mo_isb σ a b (k + 1)).2 = (1 : Int32) := mo_bl_t (show (((0 : Int32) < nI k ∧ ¬ σ.1 77 0 ((30 : Int32) * a + nI k).toNatClampNeg = σ.1 77 0 (((30 : Int32) * a + nI k) - 1).toNatClampNeg) ∨ (mo_isb σ a b k).2) ∧ mo_hold σ ((30 : Int32) * a + nI k) (σ.1 53 0 b.toNatClampNeg) from by ((try simp only [hkc, mo_bl0, Classical.not_not, ← Int32.not_lt] at c2 c3 c4 c5 c6 ⊢); (try clear ih); (try clear hih); clear hK hQ; grind)); rw [nI_succ, e3, e4] at hih; refine hK _ _ _ _ (show mo_X g t_X12_isBad Q 35 [some (.inr (.inr (50, 0))), some (.inl a), some (.inl b), some (.inl (1 : Int32)), some (.inl (1 : Int32)), some (.inl ((nI k) + (1 : Int32))), some (.inl (((30 : Int32) * a) + (nI k)))] [] (σ) from ?_); refine mo_wk ?_ hih; exact And.intro rfl (And.intro rfl (And.intro rfl (And.intro rfl (And.intro rfl (And.intro rfl (trivial)))))))
          · refine And.intro (fun (c5 : (mo_bl (mo_isb σ a b k).2) = 0) => ?_) (fun (c5 : ¬ (mo_bl (mo_isb σ a b k).2) = 0) => ?_)
            · refine And.intro (fun (c6 : (1 : Int32) = 0) => ?_) (fun (c6 : ¬ (1 : Int32) = 0) => ?_)
              · exact absurd c6 (by decide)
              · refine And.intro (show vp_in b 60 by exact hb) ?_
                refine Exists.intro (((30 : Int32) * a) + (nI k)) (Exists.intro (σ.1 53 0 b.toNatClampNeg) (And.intro rfl (And.intro (show vp_in (((30 : Int32) * a) + (nI k)) 600 by rw [hat]; exact mo_inN (by omega) (by decide)) ?_)))
                refine And.intro (fun (c7 : (mo_bl (mo_hold σ (((30 : Int32) * a) + (nI k)) (σ.1 53 0 b.toNatClampNeg))) = 0) => ?_) (fun (c7 : ¬ (mo_bl (mo_hold σ (((30 : Int32) * a) + (nI k)) (σ.1 53 0 b.toNatClampNeg))) = 0) => ?_)
                · (have hih := ih (k + 1) (by omega) (by omega) trivial; have e3 : mo_bl (mo_isb σ a b (k + 1)).1 = (0 : Int32) := mo_bl_f (show ¬ ((mo_isb σ a b k).1 ∨ (((0 : Int32) < nI k ∧ ¬ σ.1 77 0 ((30 : Int32) * a + nI k).toNatClampNeg = σ.1 77 0 (((30 : Int32) * a + nI k) - 1).toNatClampNeg) ∧ (mo_isb σ a b k).2)) from by ((try simp only [hkc, mo_bl0, Classical.not_not, ← Int32.not_lt] at c2 c3 c4 c5 c6 c7 ⊢); (try clear ih); (try clear hih); clear hK hQ; grind)); have e4 : mo_bl (mo_isb σ a b (k + 1)).2 = (0 : Int32) := mo_bl_f (show ¬ ((((0 : Int32) < nI k ∧ ¬ σ.1 77 0 ((30 : Int32) * a + nI k).toNatClampNeg = σ.1 77 0 (((30 : Int32) * a + nI k) - 1).toNatClampNeg) ∨ (mo_isb σ a b k).2) ∧ mo_hold σ ((30 : Int32) * a + nI k) (σ.1 53 0 b.toNatClampNeg)) from by ((try simp only [hkc, mo_bl0, Classical.not_not, ← Int32.not_lt] at c2 c3 c4 c5 c6 c7 ⊢); (try clear ih); (try clear hih); clear hK hQ; grind)); rw [nI_succ, e3, e4] at hih; refine hK _ _ _ _ (show mo_X g t_X12_isBad Q 35 [some (.inr (.inr (50, 0))), some (.inl a), some (.inl b), some (.inl (0 : Int32)), some (.inl (0 : Int32)), some (.inl ((nI k) + (1 : Int32))), some (.inl (((30 : Int32) * a) + (nI k)))] [] (σ) from ?_); refine mo_wk ?_ hih; exact And.intro rfl (And.intro rfl (And.intro rfl (And.intro rfl (And.intro rfl (And.intro rfl (trivial)))))))
                · (have hih := ih (k + 1) (by omega) (by omega) trivial; have e3 : mo_bl (mo_isb σ a b (k + 1)).1 = (0 : Int32) := mo_bl_f (show ¬ ((mo_isb σ a b k).1 ∨ (((0 : Int32) < nI k ∧ ¬ σ.1 77 0 ((30 : Int32) * a + nI k).toNatClampNeg = σ.1 77 0 (((30 : Int32) * a + nI k) - 1).toNatClampNeg) ∧ (mo_isb σ a b k).2)) from by ((try simp only [hkc, mo_bl0, Classical.not_not, ← Int32.not_lt] at c2 c3 c4 c5 c6 c7 ⊢); (try clear ih); (try clear hih); clear hK hQ; grind)); have e4 : mo_bl (mo_isb σ a b (k + 1)).2 = (1 : Int32) := mo_bl_t (show (((0 : Int32) < nI k ∧ ¬ σ.1 77 0 ((30 : Int32) * a + nI k).toNatClampNeg = σ.1 77 0 (((30 : Int32) * a + nI k) - 1).toNatClampNeg) ∨ (mo_isb σ a b k).2) ∧ mo_hold σ ((30 : Int32) * a + nI k) (σ.1 53 0 b.toNatClampNeg) from by ((try simp only [hkc, mo_bl0, Classical.not_not, ← Int32.not_lt] at c2 c3 c4 c5 c6 c7 ⊢); (try clear ih); (try clear hih); clear hK hQ; grind)); rw [nI_succ, e3, e4] at hih; refine hK _ _ _ _ (show mo_X g t_X12_isBad Q 35 [some (.inr (.inr (50, 0))), some (.inl a), some (.inl b), some (.inl (0 : Int32)), some (.inl (1 : Int32)), some (.inl ((nI k) + (1 : Int32))), some (.inl (((30 : Int32) * a) + (nI k)))] [] (σ) from ?_); refine mo_wk ?_ hih; exact And.intro rfl (And.intro rfl (And.intro rfl (And.intro rfl (And.intro rfl (And.intro rfl (trivial)))))))
            · refine And.intro (fun (c6 : (1 : Int32) = 0) => ?_) (fun (c6 : ¬ (1 : Int32) = 0) => ?_)
              · exact absurd c6 (by decide)
              · refine And.intro (show vp_in b 60 by exact hb) ?_
                refine Exists.intro (((30 : Int32) * a) + (nI k)) (Exists.intro (σ.1 53 0 b.toNatClampNeg) (And.intro rfl (And.intro (show vp_in (((30 : Int32) * a) + (nI k)) 600 by rw [hat]; exact mo_inN (by omega) (by decide)) ?_)))
                refine And.intro (fun (c7 : (mo_bl (mo_hold σ (((30 : Int32) * a) + (nI k)) (σ.1 53 0 b.toNatClampNeg))) = 0) => ?_) (fun (c7 : ¬ (mo_bl (mo_hold σ (((30 : Int32) * a) + (nI k)) (σ.1 53 0 b.toNatClampNeg))) = 0) => ?_)
                · (have hih := ih (k + 1) (by omega) (by omega) trivial; have e3 : mo_bl (mo_isb σ a b (k + 1)).1 = (1 : Int32) := mo_bl_t (show (mo_isb σ a b k).1 ∨ (((0 : Int32) < nI k ∧ ¬ σ.1 77 0 ((30 : Int32) * a + nI k).toNatClampNeg = σ.1 77 0 (((30 : Int32) * a + nI k) - 1).toNatClampNeg) ∧ (mo_isb σ a b k).2) from by ((try simp only [hkc, mo_bl0, Classical.not_not, ← Int32.not_lt] at c2 c3 c4 c5 c6 c7 ⊢); (try clear ih); (try clear hih); clear hK hQ; grind)); have e4 : mo_bl (mo_isb σ a b (k + 1)).2 = (0 : Int32) := mo_bl_f (show ¬ ((((0 : Int32) < nI k ∧ ¬ σ.1 77 0 ((30 : Int32) * a + nI k).toNatClampNeg = σ.1 77 0 (((30 : Int32) * a + nI k) - 1).toNatClampNeg) ∨ (mo_isb σ a b k).2) ∧ mo_hold σ ((30 : Int32) * a + nI k) (σ.1 53 0 b.toNatClampNeg)) from by ((try simp only [hkc, mo_bl0, Classical.not_not, ← Int32.not_lt] at c2 c3 c4 c5 c6 c7 ⊢); (try clear ih); (try clear hih); clear hK hQ; grind)); rw [nI_succ, e3, e4] at hih; refine hK _ _ _ _ (show mo_X g t_X12_isBad Q 35 [some (.inr (.inr (50, 0))), some (.inl a), some (.inl b), some (.inl (1 : Int32)), some (.inl (0 : Int32)), some (.inl ((nI k) + (1 : Int32))), some (.inl (((30 : Int32) * a) + (nI k)))] [] (σ) from ?_); refine mo_wk ?_ hih; exact And.intro rfl (And.intro rfl (And.intro rfl (And.intro rfl (And.intro rfl (And.intro rfl (trivial)))))))
                · (have hih := ih (k + 1) (by omega) (by omega) trivial; have e3 : mo_bl (mo_isb σ a b (k + 1)).1 = (1 : Int32) := mo_bl_t (show (mo_isb σ a b k).1 ∨ (((0 : Int32) < nI k ∧ ¬ σ.1 77 0 ((30 : Int32) * a + nI k).toNatClampNeg = σ.1 77 0 (((30 : Int32) * a + nI k) - 1).toNatClampNeg) ∧ (mo_isb σ a b k).2) from by ((try simp only [hkc, mo_bl0, Classical.not_not, ← Int32.not_lt] at c2 c3 c4 c5 c6 c7 ⊢); (try clear ih); (try clear hih); clear hK hQ; grind)); have e4 : mo_bl (mo_isb σ a b (k + 1)).2 = (1 : Int32) := mo_bl_t (show (((0 : Int32) < nI k ∧ ¬ σ.1 77 0 ((30 : Int32) * a + nI k).toNatClampNeg = σ.1 77 0 (((30 : Int32) * a + nI k) - 1).toNatClampNeg) ∨ (mo_isb σ a b k).2) ∧ mo_hold σ ((30 : Int32) * a + nI k) (σ.1 53 0 b.toNatClampNeg) from by ((try simp only [hkc, mo_bl0, Classical.not_not, ← Int32.not_lt] at c2 c3 c4 c5 c6 c7 ⊢); (try clear ih); (try clear hih); clear hK hQ; grind)); rw [nI_succ, e3, e4] at hih; refine hK _ _ _ _ (show mo_X g t_X12_isBad Q 35 [some (.inr (.inr (50, 0))), some (.inl a), some (.inl b), some (.inl (1 : Int32)), some (.inl (1 : Int32)), some (.inl ((nI k) + (1 : Int32))), some (.inl (((30 : Int32) * a) + (nI k)))] [] (σ) from ?_); refine mo_wk ?_ hih; exact And.intro rfl (And.intro rfl (And.intro rfl (And.intro rfl (And.intro rfl (And.intro rfl (trivial)))))))
set_option maxRecDepth 20000 in
set_option maxHeartbeats 2000000 in
theorem ct_X12_isBad : mo_ct yX12_isBad t_X12_isBad S_X12_isBad := by
  refine mo_ct_of (by decide) rfl ?_
  rintro g as σ Q ⟨a, b, rfl, hpre, hQ⟩
  refine ⟨Nat.le_of_ble_eq_true rfl, mo_go ok_X12_isBad (cs_X12_isBad_ok g) [35] 83 ?_⟩
  intro K hK
  refine And.intro (show vp_in b 60 by exact hpre.2.1) ?_
  refine And.intro (show vp_in (σ.1 52 0 b.toNatClampNeg) 30 by exact hpre.2.2.1) ?_
  refine And.intro (show vp_in a 20 by exact hpre.1) ?_
  refine And.intro (show vp_in (σ.1 73 0 a.toNatClampNeg) 30 by exact hpre.2.2.2.1) ?_
  refine And.intro (fun (c1 : (σ.1 71 0 ((σ.1 52 0 b.toNatClampNeg).toNatClampNeg)) = (σ.1 71 0 ((σ.1 73 0 a.toNatClampNeg).toNatClampNeg))) => ?_) (fun (c1 : ¬ (σ.1 71 0 ((σ.1 52 0 b.toNatClampNeg).toNatClampNeg)) = (σ.1 71 0 ((σ.1 73 0 a.toNatClampNeg).toNatClampNeg))) => ?_)
  · (have hE : mo_isB σ a b = ((mo_isb σ a b (σ.1 74 0 a.toNatClampNeg).toNatClampNeg).1 ∨ (mo_isb σ a b (σ.1 74 0 a.toNatClampNeg).toNatClampNeg).2) := propext ⟨fun q => q.2, fun q => ⟨c1, q⟩⟩; rw [hE] at hQ; have h0 := lp_X12_isBad g σ Q a b _ (mo_inI hpre.1) hpre.2.1 hpre.2.2.2.2.1 hpre.2.2.2.2.2 hQ ((σ.1 74 0 a.toNatClampNeg).toNatClampNeg + 1) 0 (by omega) (by omega) trivial; rw [show mo_bl (mo_isb σ a b 0).1 = 0 from mo_bl_f id, show mo_bl (mo_isb σ a b 0).2 = 1 from mo_bl_t trivial] at h0; exact hK _ _ _ _ h0)
  · refine And.intro (by first | decide | exact mo_bl01 _) ?_
    exact mo_q hQ (mo_r0 (fun q => c1 q.1)) rfl
end
