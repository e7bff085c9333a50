section
/-- a private method of a class that the tables say can be made, by its rows of tables_1 -/
def lw_okq (q : MethodName × Nat) : Prop := (q.1.cls ≠ "java/lang/invoke/MethodHandle" ∧ q.1.cls ≠ "java/lang/invoke/VarHandle") ∧ Cond.instantiable q.1.cls q.2 ∈ tables_1 ∧ Cond.privateMethod q.1 ∈ tables_1 ∧ Cond.instanceMethod q.1 ∈ tables_1
theorem lw_p0 : lw_okq (⟨"SillHouse", "cellsRefused", "(IIII)I"⟩, 6) := ⟨⟨by decide +kernel, by decide +kernel⟩, List.mem_of_getElem? (i := 16) (by decide +kernel), List.mem_of_getElem? (i := 167) (by decide +kernel), List.mem_of_getElem? (i := 168) (by decide +kernel)⟩
theorem lw_p1 : lw_okq (⟨"SillHouse", "faulted", "(I)I"⟩, 6) := ⟨⟨by decide +kernel, by decide +kernel⟩, List.mem_of_getElem? (i := 16) (by decide +kernel), List.mem_of_getElem? (i := 181) (by decide +kernel), List.mem_of_getElem? (i := 182) (by decide +kernel)⟩
theorem lw_p2 : lw_okq (⟨"SillHouse$Text", "goesOn", "(I)Z"⟩, 3) := ⟨⟨by decide +kernel, by decide +kernel⟩, List.mem_of_getElem? (i := 189) (by decide +kernel), List.mem_of_getElem? (i := 209) (by decide +kernel), List.mem_of_getElem? (i := 210) (by decide +kernel)⟩
theorem lw_p3 : lw_okq (⟨"SillHouse$Text", "code", "(I)I"⟩, 3) := ⟨⟨by decide +kernel, by decide +kernel⟩, List.mem_of_getElem? (i := 189) (by decide +kernel), List.mem_of_getElem? (i := 213) (by decide +kernel), List.mem_of_getElem? (i := 214) (by decide +kernel)⟩
theorem lw_p4 : lw_okq (⟨"SillHouse$Text", "isRoom", "(I)Z"⟩, 3) := ⟨⟨by decide +kernel, by decide +kernel⟩, List.mem_of_getElem? (i := 189) (by decide +kernel), List.mem_of_getElem? (i := 217) (by decide +kernel), List.mem_of_getElem? (i := 218) (by decide +kernel)⟩
theorem lw_p5 : lw_okq (⟨"SillHouse$Text", "digit", "(I)I"⟩, 3) := ⟨⟨by decide +kernel, by decide +kernel⟩, List.mem_of_getElem? (i := 189) (by decide +kernel), List.mem_of_getElem? (i := 221) (by decide +kernel), List.mem_of_getElem? (i := 222) (by decide +kernel)⟩
theorem lw_p6 : lw_okq (⟨"SillHouse$Text", "isDigit", "(I)Z"⟩, 3) := ⟨⟨by decide +kernel, by decide +kernel⟩, List.mem_of_getElem? (i := 189) (by decide +kernel), List.mem_of_getElem? (i := 229) (by decide +kernel), List.mem_of_getElem? (i := 230) (by decide +kernel)⟩
theorem lw_p7 : lw_okq (⟨"SillHouse$Text", "isNought", "(I)Z"⟩, 3) := ⟨⟨by decide +kernel, by decide +kernel⟩, List.mem_of_getElem? (i := 189) (by decide +kernel), List.mem_of_getElem? (i := 233) (by decide +kernel), List.mem_of_getElem? (i := 234) (by decide +kernel)⟩
theorem lw_p8 : lw_okq (⟨"SillHouse$Search", "meet", "(III)V"⟩, 9) := ⟨⟨by decide +kernel, by decide +kernel⟩, List.mem_of_getElem? (i := 81) (by decide +kernel), List.mem_of_getElem? (i := 483) (by decide +kernel), List.mem_of_getElem? (i := 484) (by decide +kernel)⟩
theorem lw_p9 : lw_okq (⟨"SillHouse$Search", "leaveBySteps", "(LSillHouse$Plan;I)V"⟩, 9) := ⟨⟨by decide +kernel, by decide +kernel⟩, List.mem_of_getElem? (i := 81) (by decide +kernel), List.mem_of_getElem? (i := 487) (by decide +kernel), List.mem_of_getElem? (i := 488) (by decide +kernel)⟩
theorem lw_p10 : lw_okq (⟨"SillHouse$Search", "forgetSeen", "()V"⟩, 9) := ⟨⟨by decide +kernel, by decide +kernel⟩, List.mem_of_getElem? (i := 81) (by decide +kernel), List.mem_of_getElem? (i := 495) (by decide +kernel), List.mem_of_getElem? (i := 496) (by decide +kernel)⟩
theorem lw_p11 : lw_okq (⟨"SillHouse", "comesWith", "(IIII)Z"⟩, 6) := ⟨⟨by decide +kernel, by decide +kernel⟩, List.mem_of_getElem? (i := 16) (by decide +kernel), List.mem_of_getElem? (i := 533) (by decide +kernel), List.mem_of_getElem? (i := 534) (by decide +kernel)⟩
theorem lw_p12 : lw_okq (⟨"SillHouse", "comesChanged", "(III)Z"⟩, 6) := ⟨⟨by decide +kernel, by decide +kernel⟩, List.mem_of_getElem? (i := 16) (by decide +kernel), List.mem_of_getElem? (i := 544) (by decide +kernel), List.mem_of_getElem? (i := 545) (by decide +kernel)⟩
theorem lw_p13 : lw_okq (⟨"SillHouse", "doorsRefused", "(IIII)I"⟩, 6) := ⟨⟨by decide +kernel, by decide +kernel⟩, List.mem_of_getElem? (i := 16) (by decide +kernel), List.mem_of_getElem? (i := 552) (by decide +kernel), List.mem_of_getElem? (i := 553) (by decide +kernel)⟩
theorem lw_p14 : lw_okq (⟨"SillHouse", "passesAll", "([IIIII)Z"⟩, 6) := ⟨⟨by decide +kernel, by decide +kernel⟩, List.mem_of_getElem? (i := 16) (by decide +kernel), List.mem_of_getElem? (i := 556) (by decide +kernel), List.mem_of_getElem? (i := 557) (by decide +kernel)⟩
theorem lw_p15 : lw_okq (⟨"SillHouseModel", "barred", "(IIIJ)I"⟩, 35) := ⟨⟨by decide +kernel, by decide +kernel⟩, List.mem_of_getElem? (i := 664) (by decide +kernel), List.mem_of_getElem? (i := 781) (by decide +kernel), List.mem_of_getElem? (i := 782) (by decide +kernel)⟩
def lw_privs_1 : List (MethodName × Nat) := [(⟨"SillHouse", "cellsRefused", "(IIII)I"⟩, 6), (⟨"SillHouse", "faulted", "(I)I"⟩, 6), (⟨"SillHouse$Text", "goesOn", "(I)Z"⟩, 3), (⟨"SillHouse$Text", "code", "(I)I"⟩, 3), (⟨"SillHouse$Text", "isRoom", "(I)Z"⟩, 3), (⟨"SillHouse$Text", "digit", "(I)I"⟩, 3), (⟨"SillHouse$Text", "isDigit", "(I)Z"⟩, 3), (⟨"SillHouse$Text", "isNought", "(I)Z"⟩, 3), (⟨"SillHouse$Search", "meet", "(III)V"⟩, 9), (⟨"SillHouse$Search", "leaveBySteps", "(LSillHouse$Plan;I)V"⟩, 9), (⟨"SillHouse$Search", "forgetSeen", "()V"⟩, 9), (⟨"SillHouse", "comesWith", "(IIII)Z"⟩, 6), (⟨"SillHouse", "comesChanged", "(III)Z"⟩, 6), (⟨"SillHouse", "doorsRefused", "(IIII)I"⟩, 6), (⟨"SillHouse", "passesAll", "([IIIII)Z"⟩, 6), (⟨"SillHouseModel", "barred", "(IIIJ)I"⟩, 35)]
theorem lw_r1 : ∀ q ∈ lw_privs_1, lw_okq q := List.forall_mem_cons.mpr ⟨lw_p0, List.forall_mem_cons.mpr ⟨lw_p1, List.forall_mem_cons.mpr ⟨lw_p2, List.forall_mem_cons.mpr ⟨lw_p3, List.forall_mem_cons.mpr ⟨lw_p4, List.forall_mem_cons.mpr ⟨lw_p5, List.forall_mem_cons.mpr ⟨lw_p6, List.forall_mem_cons.mpr ⟨lw_p7, List.forall_mem_cons.mpr ⟨lw_p8, List.forall_mem_cons.mpr ⟨lw_p9, List.forall_mem_cons.mpr ⟨lw_p10, List.forall_mem_cons.mpr ⟨lw_p11, List.forall_mem_cons.mpr ⟨lw_p12, List.forall_mem_cons.mpr ⟨lw_p13, List.forall_mem_cons.mpr ⟨lw_p14, List.forall_mem_cons.mpr ⟨lw_p15, fun _ h => absurd h List.not_mem_nil⟩⟩⟩⟩⟩⟩⟩⟩⟩⟩⟩⟩⟩⟩⟩⟩
theorem lw_p16 : lw_okq (⟨"SillHouseModel", "refused", "(I)I"⟩, 35) := ⟨⟨by decide +kernel, by decide +kernel⟩, List.mem_of_getElem? (i := 664) (by decide +kernel), List.mem_of_getElem? (i := 792) (by decide +kernel), List.mem_of_getElem? (i := 793) (by decide +kernel)⟩
theorem lw_p17 : lw_okq (⟨"SillHouseModel", "failed", "(I)I"⟩, 35) := ⟨⟨by decide +kernel, by decide +kernel⟩, List.mem_of_getElem? (i := 664) (by decide +kernel), List.mem_of_getElem? (i := 797) (by decide +kernel), List.mem_of_getElem? (i := 798) (by decide +kernel)⟩
theorem lw_p18 : lw_okq (⟨"SillHouseModel", "readsHouse", "(II)Z"⟩, 35) := ⟨⟨by decide +kernel, by decide +kernel⟩, List.mem_of_getElem? (i := 664) (by decide +kernel), List.mem_of_getElem? (i := 804) (by decide +kernel), List.mem_of_getElem? (i := 805) (by decide +kernel)⟩
theorem lw_p19 : lw_okq (⟨"SillHouseModel", "codeAt", "(II)I"⟩, 35) := ⟨⟨by decide +kernel, by decide +kernel⟩, List.mem_of_getElem? (i := 664) (by decide +kernel), List.mem_of_getElem? (i := 808) (by decide +kernel), List.mem_of_getElem? (i := 809) (by decide +kernel)⟩
theorem lw_p20 : lw_okq (⟨"SillHouseModel", "figure", "(IIII)I"⟩, 35) := ⟨⟨by decide +kernel, by decide +kernel⟩, List.mem_of_getElem? (i := 664) (by decide +kernel), List.mem_of_getElem? (i := 812) (by decide +kernel), List.mem_of_getElem? (i := 813) (by decide +kernel)⟩
theorem lw_p21 : lw_okq (⟨"SillHouseModel", "readsDoor", "(II)Z"⟩, 35) := ⟨⟨by decide +kernel, by decide +kernel⟩, List.mem_of_getElem? (i := 664) (by decide +kernel), List.mem_of_getElem? (i := 816) (by decide +kernel), List.mem_of_getElem? (i := 817) (by decide +kernel)⟩
theorem lw_p22 : lw_okq (⟨"SillHouseModel", "readsWeight", "(II)I"⟩, 35) := ⟨⟨by decide +kernel, by decide +kernel⟩, List.mem_of_getElem? (i := 664) (by decide +kernel), List.mem_of_getElem? (i := 820) (by decide +kernel), List.mem_of_getElem? (i := 821) (by decide +kernel)⟩
theorem lw_p23 : lw_okq (⟨"SillHouseModel", "noDoor", "(I)Z"⟩, 35) := ⟨⟨by decide +kernel, by decide +kernel⟩, List.mem_of_getElem? (i := 664) (by decide +kernel), List.mem_of_getElem? (i := 828) (by decide +kernel), List.mem_of_getElem? (i := 829) (by decide +kernel)⟩
theorem lw_p24 : lw_okq (⟨"SillHouseModel", "asks", "(II)I"⟩, 35) := ⟨⟨by decide +kernel, by decide +kernel⟩, List.mem_of_getElem? (i := 664) (by decide +kernel), List.mem_of_getElem? (i := 832) (by decide +kernel), List.mem_of_getElem? (i := 833) (by decide +kernel)⟩
theorem lw_p25 : lw_okq (⟨"SillHouseModel", "slackOf", "(I)I"⟩, 35) := ⟨⟨by decide +kernel, by decide +kernel⟩, List.mem_of_getElem? (i := 664) (by decide +kernel), List.mem_of_getElem? (i := 836) (by decide +kernel), List.mem_of_getElem? (i := 837) (by decide +kernel)⟩
theorem lw_p26 : lw_okq (⟨"SillHouseModel", "noRoom", "(I)Z"⟩, 35) := ⟨⟨by decide +kernel, by decide +kernel⟩, List.mem_of_getElem? (i := 664) (by decide +kernel), List.mem_of_getElem? (i := 844) (by decide +kernel), List.mem_of_getElem? (i := 845) (by decide +kernel)⟩
theorem lw_p27 : lw_okq (⟨"SillHouseModel", "noPerson", "(I)Z"⟩, 35) := ⟨⟨by decide +kernel, by decide +kernel⟩, List.mem_of_getElem? (i := 664) (by decide +kernel), List.mem_of_getElem? (i := 859) (by decide +kernel), List.mem_of_getElem? (i := 860) (by decide +kernel)⟩
theorem lw_p28 : lw_okq (⟨"SillHouseModel", "carriedBy", "(I)I"⟩, 35) := ⟨⟨by decide +kernel, by decide +kernel⟩, List.mem_of_getElem? (i := 664) (by decide +kernel), List.mem_of_getElem? (i := 863) (by decide +kernel), List.mem_of_getElem? (i := 864) (by decide +kernel)⟩
theorem lw_p29 : lw_okq (⟨"SillHouseModel", "withStones", "(I)I"⟩, 35) := ⟨⟨by decide +kernel, by decide +kernel⟩, List.mem_of_getElem? (i := 664) (by decide +kernel), List.mem_of_getElem? (i := 867) (by decide +kernel), List.mem_of_getElem? (i := 868) (by decide +kernel)⟩
theorem lw_p30 : lw_okq (⟨"SillHouseModel", "noStone", "(I)Z"⟩, 35) := ⟨⟨by decide +kernel, by decide +kernel⟩, List.mem_of_getElem? (i := 664) (by decide +kernel), List.mem_of_getElem? (i := 875) (by decide +kernel), List.mem_of_getElem? (i := 876) (by decide +kernel)⟩
theorem lw_p31 : lw_okq (⟨"SillHouseModel", "partyBarred", "(II)I"⟩, 35) := ⟨⟨by decide +kernel, by decide +kernel⟩, List.mem_of_getElem? (i := 664) (by decide +kernel), List.mem_of_getElem? (i := 894) (by decide +kernel), List.mem_of_getElem? (i := 895) (by decide +kernel)⟩
def lw_privs_2 : List (MethodName × Nat) := [(⟨"SillHouseModel", "refused", "(I)I"⟩, 35), (⟨"SillHouseModel", "failed", "(I)I"⟩, 35), (⟨"SillHouseModel", "readsHouse", "(II)Z"⟩, 35), (⟨"SillHouseModel", "codeAt", "(II)I"⟩, 35), (⟨"SillHouseModel", "figure", "(IIII)I"⟩, 35), (⟨"SillHouseModel", "readsDoor", "(II)Z"⟩, 35), (⟨"SillHouseModel", "readsWeight", "(II)I"⟩, 35), (⟨"SillHouseModel", "noDoor", "(I)Z"⟩, 35), (⟨"SillHouseModel", "asks", "(II)I"⟩, 35), (⟨"SillHouseModel", "slackOf", "(I)I"⟩, 35), (⟨"SillHouseModel", "noRoom", "(I)Z"⟩, 35), (⟨"SillHouseModel", "noPerson", "(I)Z"⟩, 35), (⟨"SillHouseModel", "carriedBy", "(I)I"⟩, 35), (⟨"SillHouseModel", "withStones", "(I)I"⟩, 35), (⟨"SillHouseModel", "noStone", "(I)Z"⟩, 35), (⟨"SillHouseModel", "partyBarred", "(II)I"⟩, 35)]
theorem lw_r2 : ∀ q ∈ lw_privs_2, lw_okq q := List.forall_mem_cons.mpr ⟨lw_p16, List.forall_mem_cons.mpr ⟨lw_p17, List.forall_mem_cons.mpr ⟨lw_p18, List.forall_mem_cons.mpr ⟨lw_p19, List.forall_mem_cons.mpr ⟨lw_p20, List.forall_mem_cons.mpr ⟨lw_p21, List.forall_mem_cons.mpr ⟨lw_p22, List.forall_mem_cons.mpr ⟨lw_p23, List.forall_mem_cons.mpr ⟨lw_p24, List.forall_mem_cons.mpr ⟨lw_p25, List.forall_mem_cons.mpr ⟨lw_p26, List.forall_mem_cons.mpr ⟨lw_p27, List.forall_mem_cons.mpr ⟨lw_p28, List.forall_mem_cons.mpr ⟨lw_p29, List.forall_mem_cons.mpr ⟨lw_p30, List.forall_mem_cons.mpr ⟨lw_p31, fun _ h => absurd h List.not_mem_nil⟩⟩⟩⟩⟩⟩⟩⟩⟩⟩⟩⟩⟩⟩⟩⟩
theorem lw_p32 : lw_okq (⟨"SillHouseModel", "roomOf", "(I)I"⟩, 35) := ⟨⟨by decide +kernel, by decide +kernel⟩, List.mem_of_getElem? (i := 664) (by decide +kernel), List.mem_of_getElem? (i := 898) (by decide +kernel), List.mem_of_getElem? (i := 899) (by decide +kernel)⟩
theorem lw_p33 : lw_okq (⟨"SillHouseModel", "sideIn", "(II)I"⟩, 35) := ⟨⟨by decide +kernel, by decide +kernel⟩, List.mem_of_getElem? (i := 664) (by decide +kernel), List.mem_of_getElem? (i := 902) (by decide +kernel), List.mem_of_getElem? (i := 903) (by decide +kernel)⟩
theorem lw_p34 : lw_okq (⟨"SillHouseModel", "weightOfAll", "(I)I"⟩, 35) := ⟨⟨by decide +kernel, by decide +kernel⟩, List.mem_of_getElem? (i := 664) (by decide +kernel), List.mem_of_getElem? (i := 906) (by decide +kernel), List.mem_of_getElem? (i := 907) (by decide +kernel)⟩
theorem lw_p35 : lw_okq (⟨"SillHouseModel", "throughTo", "(III)I"⟩, 35) := ⟨⟨by decide +kernel, by decide +kernel⟩, List.mem_of_getElem? (i := 664) (by decide +kernel), List.mem_of_getElem? (i := 910) (by decide +kernel), List.mem_of_getElem? (i := 911) (by decide +kernel)⟩
theorem lw_p36 : lw_okq (⟨"SillHouseModel", "isOpen", "(III)Z"⟩, 35) := ⟨⟨by decide +kernel, by decide +kernel⟩, List.mem_of_getElem? (i := 664) (by decide +kernel), List.mem_of_getElem? (i := 914) (by decide +kernel), List.mem_of_getElem? (i := 915) (by decide +kernel)⟩
theorem lw_p37 : lw_okq (⟨"SillHouseModel", "goTill", "(I)I"⟩, 35) := ⟨⟨by decide +kernel, by decide +kernel⟩, List.mem_of_getElem? (i := 664) (by decide +kernel), List.mem_of_getElem? (i := 930) (by decide +kernel), List.mem_of_getElem? (i := 931) (by decide +kernel)⟩
theorem lw_p38 : lw_okq (⟨"SillHouseModel", "add", "(II)V"⟩, 35) := ⟨⟨by decide +kernel, by decide +kernel⟩, List.mem_of_getElem? (i := 664) (by decide +kernel), List.mem_of_getElem? (i := 934) (by decide +kernel), List.mem_of_getElem? (i := 935) (by decide +kernel)⟩
theorem lw_p39 : lw_okq (⟨"SillHouseModel", "stateNow", "()I"⟩, 35) := ⟨⟨by decide +kernel, by decide +kernel⟩, List.mem_of_getElem? (i := 664) (by decide +kernel), List.mem_of_getElem? (i := 938) (by decide +kernel), List.mem_of_getElem? (i := 939) (by decide +kernel)⟩
theorem lw_p40 : lw_okq (⟨"SillHouseModel", "spread", "(I)V"⟩, 35) := ⟨⟨by decide +kernel, by decide +kernel⟩, List.mem_of_getElem? (i := 664) (by decide +kernel), List.mem_of_getElem? (i := 942) (by decide +kernel), List.mem_of_getElem? (i := 943) (by decide +kernel)⟩
theorem lw_p41 : lw_okq (⟨"SillHouseModel", "takeState", "(I)V"⟩, 35) := ⟨⟨by decide +kernel, by decide +kernel⟩, List.mem_of_getElem? (i := 664) (by decide +kernel), List.mem_of_getElem? (i := 946) (by decide +kernel), List.mem_of_getElem? (i := 947) (by decide +kernel)⟩
theorem lw_p42 : lw_okq (⟨"SillHouseModel", "carriedNow", "()I"⟩, 35) := ⟨⟨by decide +kernel, by decide +kernel⟩, List.mem_of_getElem? (i := 664) (by decide +kernel), List.mem_of_getElem? (i := 950) (by decide +kernel), List.mem_of_getElem? (i := 951) (by decide +kernel)⟩
theorem lw_p43 : lw_okq (⟨"SillHouseModel", "weightNow", "()I"⟩, 35) := ⟨⟨by decide +kernel, by decide +kernel⟩, List.mem_of_getElem? (i := 664) (by decide +kernel), List.mem_of_getElem? (i := 954) (by decide +kernel), List.mem_of_getElem? (i := 955) (by decide +kernel)⟩
theorem lw_p44 : lw_okq (⟨"SillHouseModel", "reachOf", "(II)I"⟩, 35) := ⟨⟨by decide +kernel, by decide +kernel⟩, List.mem_of_getElem? (i := 664) (by decide +kernel), List.mem_of_getElem? (i := 963) (by decide +kernel), List.mem_of_getElem? (i := 964) (by decide +kernel)⟩
theorem lw_p45 : lw_okq (⟨"SillHouseModel", "comesTo", "(III)Z"⟩, 35) := ⟨⟨by decide +kernel, by decide +kernel⟩, List.mem_of_getElem? (i := 664) (by decide +kernel), List.mem_of_getElem? (i := 971) (by decide +kernel), List.mem_of_getElem? (i := 972) (by decide +kernel)⟩
theorem lw_p46 : lw_okq (⟨"SillHouseModel", "goesWith", "(IIIII)Z"⟩, 35) := ⟨⟨by decide +kernel, by decide +kernel⟩, List.mem_of_getElem? (i := 664) (by decide +kernel), List.mem_of_getElem? (i := 980) (by decide +kernel), List.mem_of_getElem? (i := 981) (by decide +kernel)⟩
theorem lw_p47 : lw_okq (⟨"SillHouseModel", "areDoors", "(II)Z"⟩, 35) := ⟨⟨by decide +kernel, by decide +kernel⟩, List.mem_of_getElem? (i := 664) (by decide +kernel), List.mem_of_getElem? (i := 992) (by decide +kernel), List.mem_of_getElem? (i := 993) (by decide +kernel)⟩
def lw_privs_3 : List (MethodName × Nat) := [(⟨"SillHouseModel", "roomOf", "(I)I"⟩, 35), (⟨"SillHouseModel", "sideIn", "(II)I"⟩, 35), (⟨"SillHouseModel", "weightOfAll", "(I)I"⟩, 35), (⟨"SillHouseModel", "throughTo", "(III)I"⟩, 35), (⟨"SillHouseModel", "isOpen", "(III)Z"⟩, 35), (⟨"SillHouseModel", "goTill", "(I)I"⟩, 35), (⟨"SillHouseModel", "add", "(II)V"⟩, 35), (⟨"SillHouseModel", "stateNow", "()I"⟩, 35), (⟨"SillHouseModel", "spread", "(I)V"⟩, 35), (⟨"SillHouseModel", "takeState", "(I)V"⟩, 35), (⟨"SillHouseModel", "carriedNow", "()I"⟩, 35), (⟨"SillHouseModel", "weightNow", "()I"⟩, 35), (⟨"SillHouseModel", "reachOf", "(II)I"⟩, 35), (⟨"SillHouseModel", "comesTo", "(III)Z"⟩, 35), (⟨"SillHouseModel", "goesWith", "(IIIII)Z"⟩, 35), (⟨"SillHouseModel", "areDoors", "(II)Z"⟩, 35)]
theorem lw_r3 : ∀ q ∈ lw_privs_3, lw_okq q := List.forall_mem_cons.mpr ⟨lw_p32, List.forall_mem_cons.mpr ⟨lw_p33, List.forall_mem_cons.mpr ⟨lw_p34, List.forall_mem_cons.mpr ⟨lw_p35, List.forall_mem_cons.mpr ⟨lw_p36, List.forall_mem_cons.mpr ⟨lw_p37, List.forall_mem_cons.mpr ⟨lw_p38, List.forall_mem_cons.mpr ⟨lw_p39, List.forall_mem_cons.mpr ⟨lw_p40, List.forall_mem_cons.mpr ⟨lw_p41, List.forall_mem_cons.mpr ⟨lw_p42, List.forall_mem_cons.mpr ⟨lw_p43, List.forall_mem_cons.mpr ⟨lw_p44, List.forall_mem_cons.mpr ⟨lw_p45, List.forall_mem_cons.mpr ⟨lw_p46, List.forall_mem_cons.mpr ⟨lw_p47, fun _ h => absurd h List.not_mem_nil⟩⟩⟩⟩⟩⟩⟩⟩⟩⟩⟩⟩⟩⟩⟩⟩
theorem lw_p48 : lw_okq (⟨"SillHouseModel", "passesAll", "(IIII)Z"⟩, 35) := ⟨⟨by decide +kernel, by decide +kernel⟩, List.mem_of_getElem? (i := 664) (by decide +kernel), List.mem_of_getElem? (i := 996) (by decide +kernel), List.mem_of_getElem? (i := 997) (by decide +kernel)⟩
theorem lw_p49 : lw_okq (⟨"SillHouseModel", "noCell", "(II)I"⟩, 35) := ⟨⟨by decide +kernel, by decide +kernel⟩, List.mem_of_getElem? (i := 664) (by decide +kernel), List.mem_of_getElem? (i := 1021) (by decide +kernel), List.mem_of_getElem? (i := 1022) (by decide +kernel)⟩
theorem lw_p50 : lw_okq (⟨"SillHouseModel", "failedLong", "(I)J"⟩, 35) := ⟨⟨by decide +kernel, by decide +kernel⟩, List.mem_of_getElem? (i := 664) (by decide +kernel), List.mem_of_getElem? (i := 1033) (by decide +kernel), List.mem_of_getElem? (i := 1034) (by decide +kernel)⟩
theorem lw_p51 : lw_okq (⟨"SillHouseModel", "traced", "(I)V"⟩, 35) := ⟨⟨by decide +kernel, by decide +kernel⟩, List.mem_of_getElem? (i := 664) (by decide +kernel), List.mem_of_getElem? (i := 1045) (by decide +kernel), List.mem_of_getElem? (i := 1046) (by decide +kernel)⟩
def lw_privs_4 : List (MethodName × Nat) := [(⟨"SillHouseModel", "passesAll", "(IIII)Z"⟩, 35), (⟨"SillHouseModel", "noCell", "(II)I"⟩, 35), (⟨"SillHouseModel", "failedLong", "(I)J"⟩, 35), (⟨"SillHouseModel", "traced", "(I)V"⟩, 35)]
theorem lw_r4 : ∀ q ∈ lw_privs_4, lw_okq q := List.forall_mem_cons.mpr ⟨lw_p48, List.forall_mem_cons.mpr ⟨lw_p49, List.forall_mem_cons.mpr ⟨lw_p50, List.forall_mem_cons.mpr ⟨lw_p51, fun _ h => absurd h List.not_mem_nil⟩⟩⟩⟩
def lw_privs : List (MethodName × Nat) := lw_privs_1 ++ (lw_privs_2 ++ (lw_privs_3 ++ (lw_privs_4)))
def lw_tbl : List Cond := k2_sels lw_privs ++ tables_1
theorem lw_privs_ok : ∀ q ∈ lw_privs, lw_okq q := by
  show ∀ q ∈ lw_privs_1 ++ (lw_privs_2 ++ (lw_privs_3 ++ (lw_privs_4))), lw_okq q
  exact List.forall_mem_append.mpr ⟨lw_r1, List.forall_mem_append.mpr ⟨lw_r2, List.forall_mem_append.mpr ⟨lw_r3, lw_r4⟩⟩⟩
end
section
theorem goodIn_r {big : List Cond} (ws : List Cond) (ps : List Nat) (hp : ws = ps.filterMap (fun i => big[i]?)) (h : ws.all goodWord = true) : GoodIn big ws := by
  intro w hw
  have h1 := List.all_eq_true.mp h w hw
  rw [hp] at hw
  obtain ⟨i, -, hi⟩ := List.mem_filterMap.mp hw
  have hm : w ∈ big := by first | exact List.mem_of_getElem? hi | exact List.getElem?_mem hi
  exact ⟨hm, good_of_word h1⟩
theorem goodIn_app {big a b : List Cond} (ha : GoodIn big a) (hb : GoodIn big b) : GoodIn big (a ++ b) := fun w h => (List.mem_append.mp h).elim (ha w) (hb w)
theorem goodIn_ca {big a b : List Cond} {c : Cond} (ha : GoodIn big (c :: a)) (hb : GoodIn big b) : GoodIn big (c :: (a ++ b)) := fun w h => (List.mem_cons.mp h).elim (fun e => ha w (List.mem_cons.mpr (Or.inl e))) (fun h => (List.mem_append.mp h).elim (fun h => ha w (List.mem_cons.mpr (Or.inr h))) (hb w))
theorem goodIn_sub {big ws : List Cond} (hm : ∀ w ∈ ws, w ∈ big) (h : ws.all goodWord = true) : GoodIn big ws := fun w hw => ⟨hm w hw, good_of_word (List.all_eq_true.mp h w hw)⟩
def RX0 : String := "SillHouse$Folk"
def TX0 : u_T := fun k => match k with
  | 0 => ("SillHouse$Folk", "persons", "I", false)
  | 1 => ("SillHouse$Folk", "stones", "I", false)
  | 2 => ("SillHouse$Folk", "weights", "[I", true)
  | 3 => ("SillHouse$Folk", "rooms", "[I", true)
  | 4 => ("SillHouse$Folk", "stoneWeights", "[I", true)
  | _ => ("SillHouse$Folk", "stonePlaces", "[I", true)
def tyX0 : Nat → FieldType := fun k => match k with
  | 0 => .int
  | 1 => .int
  | 2 => .array .int
  | 3 => .array .int
  | 4 => .array .int
  | _ => .array .int
theorem nmX0 : ∀ a, a < 6 → ∀ b, b < 6 → a ≠ b → (TX0 a).2.1 ≠ (TX0 b).2.1 := by decide +kernel
theorem tyX0_ok : ∀ k, k < 6 → parseFieldDescriptor (TX0 k).2.2.1 = some (tyX0 k) := by decide +kernel
abbrev cX0_init : ByteArray := prog_2_method_1_code
def yX0_init : MethodName := ⟨RX0, "<init>", "()V"⟩
abbrev cX0_placeWith : ByteArray := prog_2_method_2_code
def yX0_placeWith : MethodName := ⟨RX0, "placeWith", "(I)I"⟩
abbrev cX0_leave : ByteArray := prog_2_method_3_code
def yX0_leave : MethodName := ⟨RX0, "leave", "()V"⟩
abbrev cX0_hasPerson : ByteArray := prog_2_method_4_code
def yX0_hasPerson : MethodName := ⟨RX0, "hasPerson", "(I)Z"⟩
abbrev cX0_hasStone : ByteArray := prog_2_method_5_code
def yX0_hasStone : MethodName := ⟨RX0, "hasStone", "(I)Z"⟩
abbrev cX0_addPerson : ByteArray := prog_2_method_6_code
def yX0_addPerson : MethodName := ⟨RX0, "addPerson", "(II)I"⟩
abbrev cX0_addStone : ByteArray := prog_2_method_7_code
def yX0_addStone : MethodName := ⟨RX0, "addStone", "(II)I"⟩
abbrev cX0_carriedBy : ByteArray := prog_2_method_8_code
def yX0_carriedBy : MethodName := ⟨RX0, "carriedBy", "(I)I"⟩
abbrev cX0_howManyCarriedBy : ByteArray := prog_2_method_9_code
def yX0_howManyCarriedBy : MethodName := ⟨RX0, "howManyCarriedBy", "(I)I"⟩
abbrev cX0_weightWithStones : ByteArray := prog_2_method_10_code
def yX0_weightWithStones : MethodName := ⟨RX0, "weightWithStones", "(I)I"⟩
abbrev cX0_isParty : ByteArray := prog_2_method_11_code
def yX0_isParty : MethodName := ⟨RX0, "isParty", "(I)Z"⟩
abbrev cX0_roomOfParty : ByteArray := prog_2_method_12_code
def yX0_roomOfParty : MethodName := ⟨RX0, "roomOfParty", "(I)I"⟩
abbrev cX0_weightOfParty : ByteArray := prog_2_method_13_code
def yX0_weightOfParty : MethodName := ⟨RX0, "weightOfParty", "(I)I"⟩
abbrev cX0_moveParty : ByteArray := prog_2_method_14_code
def yX0_moveParty : MethodName := ⟨RX0, "moveParty", "(II)V"⟩
def RX1 : String := "SillHouse$Plan"
def TX1 : u_T := fun k => match k with
  | 0 => ("SillHouse$Plan", "rooms", "I", false)
  | 1 => ("SillHouse$Plan", "doorCount", "I", false)
  | _ => ("SillHouse$Plan", "doors", "[LSillHouse$Sill;", true)
def tyX1 : Nat → FieldType := fun k => match k with
  | 0 => .int
  | 1 => .int
  | _ => .array (.object "SillHouse$Sill")
theorem nmX1 : ∀ a, a < 3 → ∀ b, b < 3 → a ≠ b → (TX1 a).2.1 ≠ (TX1 b).2.1 := by decide +kernel
theorem tyX1_ok : ∀ k, k < 3 → parseFieldDescriptor (TX1 k).2.2.1 = some (tyX1 k) := by decide +kernel
abbrev cX1_init : ByteArray := prog_3_method_1_code
def yX1_init : MethodName := ⟨RX1, "<init>", "()V"⟩
abbrev cX1_build : ByteArray := prog_3_method_2_code
def yX1_build : MethodName := ⟨RX1, "build", "(LSillHouse$Text;)V"⟩
abbrev cX1_hasRoom : ByteArray := prog_3_method_3_code
def yX1_hasRoom : MethodName := ⟨RX1, "hasRoom", "(I)Z"⟩
abbrev cX1_hasDoor : ByteArray := prog_3_method_4_code
def yX1_hasDoor : MethodName := ⟨RX1, "hasDoor", "(I)Z"⟩
abbrev cX1_reachOf : ByteArray := prog_3_method_5_code
def yX1_reachOf : MethodName := ⟨RX1, "reachOf", "(II)I"⟩
abbrev cX1_reaches : ByteArray := prog_3_method_6_code
def yX1_reaches : MethodName := ⟨RX1, "reaches", "(III)Z"⟩
abbrev cX1_through : ByteArray := prog_3_method_7_code
def yX1_through : MethodName := ⟨RX1, "through", "(LSillHouse$Sill;III)I"⟩
def RX2 : String := "SillHouse$Search"
def TX2 : u_T := fun k => match k with
  | 0 => ("SillHouse$Search", "met", "[I", true)
  | 1 => ("SillHouse$Search", "came", "[I", true)
  | 2 => ("SillHouse$Search", "seen", "[J", true)
  | 3 => ("SillHouse$Search", "stoneWeights", "[I", true)
  | 4 => ("SillHouse$Search", "weight", "I", false)
  | 5 => ("SillHouse$Search", "start", "I", false)
  | 6 => ("SillHouse$Search", "count", "I", false)
  | 7 => ("SillHouse$Search", "goal", "I", false)
  | _ => ("SillHouse$Search", "found", "I", false)
def tyX2 : Nat → FieldType := fun k => match k with
  | 0 => .array .int
  | 1 => .array .int
  | 2 => .array .long
  | 3 => .array .int
  | 4 => .int
  | 5 => .int
  | 6 => .int
  | 7 => .int
  | _ => .int
theorem nmX2 : ∀ a, a < 9 → ∀ b, b < 9 → a ≠ b → (TX2 a).2.1 ≠ (TX2 b).2.1 := by decide +kernel
theorem tyX2_ok : ∀ k, k < 9 → parseFieldDescriptor (TX2 k).2.2.1 = some (tyX2 k) := by decide +kernel
abbrev cX2_init : ByteArray := prog_4_method_1_code
def yX2_init : MethodName := ⟨RX2, "<init>", "()V"⟩
abbrev cX2_begin : ByteArray := prog_4_method_2_code
def yX2_begin : MethodName := ⟨RX2, "begin", "(II)V"⟩
abbrev cX2_setStone : ByteArray := prog_4_method_3_code
def yX2_setStone : MethodName := ⟨RX2, "setStone", "(III)V"⟩
abbrev cX2_finds : ByteArray := prog_4_method_4_code
def yX2_finds : MethodName := ⟨RX2, "finds", "(LSillHouse$Plan;I)Z"⟩
abbrev cX2_howManySteps : ByteArray := prog_4_method_5_code
def yX2_howManySteps : MethodName := ⟨RX2, "howManySteps", "()I"⟩
abbrev cX2_stepAt : ByteArray := prog_4_method_6_code
def yX2_stepAt : MethodName := ⟨RX2, "stepAt", "(I)I"⟩
abbrev cX2_leaveBySteps : ByteArray := prog_4_method_7_code
def yX2_leaveBySteps : MethodName := ⟨RX2, "leaveBySteps", "(LSillHouse$Plan;I)V"⟩
abbrev cX2_meet : ByteArray := prog_4_method_8_code
def yX2_meet : MethodName := ⟨RX2, "meet", "(III)V"⟩
abbrev cX2_forgetSeen : ByteArray := prog_4_method_9_code
def yX2_forgetSeen : MethodName := ⟨RX2, "forgetSeen", "()V"⟩
abbrev cX2_place : ByteArray := prog_4_method_10_code
def yX2_place : MethodName := ⟨RX2, "place", "(II)I"⟩
abbrev cX2_withPlace : ByteArray := prog_4_method_11_code
def yX2_withPlace : MethodName := ⟨RX2, "withPlace", "(III)I"⟩
def RX3 : String := "SillHouse$Sheet"
def TX3 : u_T := fun k => match k with
  | 0 => ("SillHouse$Sheet", "cells", "[I", true)
  | 1 => ("SillHouse$Sheet", "lane", "I", false)
  | _ => ("SillHouse$Sheet", "count", "I", false)
def tyX3 : Nat → FieldType := fun k => match k with
  | 0 => .array .int
  | 1 => .int
  | _ => .int
theorem nmX3 : ∀ a, a < 3 → ∀ b, b < 3 → a ≠ b → (TX3 a).2.1 ≠ (TX3 b).2.1 := by decide +kernel
theorem tyX3_ok : ∀ k, k < 3 → parseFieldDescriptor (TX3 k).2.2.1 = some (tyX3 k) := by decide +kernel
abbrev cX3_init : ByteArray := prog_5_method_1_code
def yX3_init : MethodName := ⟨RX3, "<init>", "()V"⟩
abbrev cX3_hasNothing : ByteArray := prog_5_method_2_code
def yX3_hasNothing : MethodName := ⟨RX3, "hasNothing", "()Z"⟩
abbrev cX3_empty : ByteArray := prog_5_method_3_code
def yX3_empty : MethodName := ⟨RX3, "empty", "()V"⟩
abbrev cX3_renew : ByteArray := prog_5_method_4_code
def yX3_renew : MethodName := ⟨RX3, "renew", "(II)V"⟩
abbrev cX3_has : ByteArray := prog_5_method_5_code
def yX3_has : MethodName := ⟨RX3, "has", "(II)Z"⟩
abbrev cX3_cut : ByteArray := prog_5_method_6_code
def yX3_cut : MethodName := ⟨RX3, "cut", "(I)I"⟩
def RX4 : String := "SillHouse$Sill"
def TX4 : u_T := fun k => match k with
  | 0 => ("SillHouse$Sill", "first", "I", true)
  | 1 => ("SillHouse$Sill", "second", "I", true)
  | 2 => ("SillHouse$Sill", "weight", "I", true)
  | 3 => ("SillHouse$Sill", "least", "I", true)
  | 4 => ("SillHouse$Sill", "greatest", "I", true)
  | 5 => ("SillHouse$Sill", "leastBack", "I", true)
  | _ => ("SillHouse$Sill", "greatestBack", "I", true)
def tyX4 : Nat → FieldType := fun k => match k with
  | 0 => .int
  | 1 => .int
  | 2 => .int
  | 3 => .int
  | 4 => .int
  | 5 => .int
  | _ => .int
theorem nmX4 : ∀ a, a < 7 → ∀ b, b < 7 → a ≠ b → (TX4 a).2.1 ≠ (TX4 b).2.1 := by decide +kernel
theorem tyX4_ok : ∀ k, k < 7 → parseFieldDescriptor (TX4 k).2.2.1 = some (tyX4 k) := by decide +kernel
abbrev cX4_init : ByteArray := prog_6_method_1_code
def yX4_init : MethodName := ⟨RX4, "<init>", "(III)V"⟩
abbrev cX4_init_ : ByteArray := prog_6_method_2_code
def yX4_init_ : MethodName := ⟨RX4, "<init>", "(IIIII)V"⟩
abbrev cX4_kind : ByteArray := prog_6_method_3_code
def yX4_kind : MethodName := ⟨RX4, "kind", "()I"⟩
abbrev cX4_isOf : ByteArray := prog_6_method_4_code
def yX4_isOf : MethodName := ⟨RX4, "isOf", "(I)Z"⟩
abbrev cX4_beyond : ByteArray := prog_6_method_5_code
def yX4_beyond : MethodName := ⟨RX4, "beyond", "(II)I"⟩
abbrev cX4_told : ByteArray := prog_6_method_6_code
def yX4_told : MethodName := ⟨RX4, "told", "(I)I"⟩
abbrev cX4_sillsTelling : ByteArray := prog_6_method_7_code
def yX4_sillsTelling : MethodName := ⟨RX4, "sillsTelling", "(LSillHouse$Trace;)I"⟩
abbrev cX4_telling : ByteArray := prog_6_method_8_code
def yX4_telling : MethodName := ⟨RX4, "telling", "(LSillHouse$Trace;)I"⟩
abbrev cX4_rung : ByteArray := prog_6_method_9_code
def yX4_rung : MethodName := ⟨RX4, "rung", "(LSillHouse$Trace;I)I"⟩
def RX5 : String := "SillHouse$Text"
def TX5 : u_T := fun k => match k with
  | 0 => ("SillHouse$Text", "cells", "[I", true)
  | 1 => ("SillHouse$Text", "start", "I", true)
  | _ => ("SillHouse$Text", "length", "I", true)
def tyX5 : Nat → FieldType := fun k => match k with
  | 0 => .array .int
  | 1 => .int
  | _ => .int
theorem nmX5 : ∀ a, a < 3 → ∀ b, b < 3 → a ≠ b → (TX5 a).2.1 ≠ (TX5 b).2.1 := by decide +kernel
theorem tyX5_ok : ∀ k, k < 3 → parseFieldDescriptor (TX5 k).2.2.1 = some (tyX5 k) := by decide +kernel
abbrev cX5_init : ByteArray := prog_7_method_1_code
def yX5_init : MethodName := ⟨RX5, "<init>", "([III)V"⟩
abbrev cX5_firstFault : ByteArray := prog_7_method_2_code
def yX5_firstFault : MethodName := ⟨RX5, "firstFault", "()I"⟩
abbrev cX5_rooms : ByteArray := prog_7_method_3_code
def yX5_rooms : MethodName := ⟨RX5, "rooms", "()I"⟩
abbrev cX5_doorCount : ByteArray := prog_7_method_4_code
def yX5_doorCount : MethodName := ⟨RX5, "doorCount", "()I"⟩
abbrev cX5_door : ByteArray := prog_7_method_5_code
def yX5_door : MethodName := ⟨RX5, "door", "(I)LSillHouse$Sill;"⟩
abbrev cX5_code : ByteArray := prog_7_method_6_code
def yX5_code : MethodName := ⟨RX5, "code", "(I)I"⟩
abbrev cX5_digit : ByteArray := prog_7_method_7_code
def yX5_digit : MethodName := ⟨RX5, "digit", "(I)I"⟩
abbrev cX5_isDigit : ByteArray := prog_7_method_8_code
def yX5_isDigit : MethodName := ⟨RX5, "isDigit", "(I)Z"⟩
abbrev cX5_isRoom : ByteArray := prog_7_method_9_code
def yX5_isRoom : MethodName := ⟨RX5, "isRoom", "(I)Z"⟩
abbrev cX5_goesOn : ByteArray := prog_7_method_10_code
def yX5_goesOn : MethodName := ⟨RX5, "goesOn", "(I)Z"⟩
abbrev cX5_isNought : ByteArray := prog_7_method_11_code
def yX5_isNought : MethodName := ⟨RX5, "isNought", "(I)Z"⟩
def RX6 : String := "SillHouse$Trace"
def TX6 : u_T := fun k => match k with
  | _ => ("SillHouse$Trace", "value", "I", false)
def tyX6 : Nat → FieldType := fun k => match k with
  | _ => .int
theorem nmX6 : ∀ a, a < 1 → ∀ b, b < 1 → a ≠ b → (TX6 a).2.1 ≠ (TX6 b).2.1 := by decide +kernel
theorem tyX6_ok : ∀ k, k < 1 → parseFieldDescriptor (TX6 k).2.2.1 = some (tyX6 k) := by decide +kernel
abbrev cX6_init : ByteArray := prog_8_method_1_code
def yX6_init : MethodName := ⟨RX6, "<init>", "()V"⟩
abbrev cX6_note : ByteArray := prog_8_method_2_code
def yX6_note : MethodName := ⟨RX6, "note", "(I)V"⟩
def RX7 : String := "SillHouse$Twofold"
def TX7 : u_T := fun k => match k with
  | 0 => ("SillHouse$Sill", "first", "I", true)
  | 1 => ("SillHouse$Sill", "second", "I", true)
  | 2 => ("SillHouse$Sill", "weight", "I", true)
  | 3 => ("SillHouse$Sill", "least", "I", true)
  | 4 => ("SillHouse$Sill", "greatest", "I", true)
  | 5 => ("SillHouse$Sill", "leastBack", "I", true)
  | _ => ("SillHouse$Sill", "greatestBack", "I", true)
def tyX7 : Nat → FieldType := fun k => match k with
  | 0 => .int
  | 1 => .int
  | 2 => .int
  | 3 => .int
  | 4 => .int
  | 5 => .int
  | _ => .int
theorem nmX7 : ∀ a, a < 7 → ∀ b, b < 7 → a ≠ b → (TX7 a).2.1 ≠ (TX7 b).2.1 := by decide +kernel
theorem tyX7_ok : ∀ k, k < 7 → parseFieldDescriptor (TX7 k).2.2.1 = some (tyX7 k) := by decide +kernel
abbrev cX7_init : ByteArray := prog_9_method_1_code
def yX7_init : MethodName := ⟨RX7, "<init>", "(III)V"⟩
abbrev cX7_init_ : ByteArray := prog_9_method_2_code
def yX7_init_ : MethodName := ⟨RX7, "<init>", "(IIII)V"⟩
abbrev cX7_kind : ByteArray := prog_9_method_3_code
def yX7_kind : MethodName := ⟨RX7, "kind", "()I"⟩
abbrev cX7_telling : ByteArray := prog_9_method_4_code
def yX7_telling : MethodName := ⟨RX7, "telling", "(LSillHouse$Trace;)I"⟩
def RX8 : String := "SillHouse$Worn"
def TX8 : u_T := fun k => match k with
  | 0 => ("SillHouse$Sill", "first", "I", true)
  | 1 => ("SillHouse$Sill", "second", "I", true)
  | 2 => ("SillHouse$Sill", "weight", "I", true)
  | 3 => ("SillHouse$Sill", "least", "I", true)
  | 4 => ("SillHouse$Sill", "greatest", "I", true)
  | 5 => ("SillHouse$Sill", "leastBack", "I", true)
  | _ => ("SillHouse$Sill", "greatestBack", "I", true)
def tyX8 : Nat → FieldType := fun k => match k with
  | 0 => .int
  | 1 => .int
  | 2 => .int
  | 3 => .int
  | 4 => .int
  | 5 => .int
  | _ => .int
theorem nmX8 : ∀ a, a < 7 → ∀ b, b < 7 → a ≠ b → (TX8 a).2.1 ≠ (TX8 b).2.1 := by decide +kernel
theorem tyX8_ok : ∀ k, k < 7 → parseFieldDescriptor (TX8 k).2.2.1 = some (tyX8 k) := by decide +kernel
abbrev cX8_init : ByteArray := prog_10_method_1_code
def yX8_init : MethodName := ⟨RX8, "<init>", "(III)V"⟩
abbrev cX8_kind : ByteArray := prog_10_method_2_code
def yX8_kind : MethodName := ⟨RX8, "kind", "()I"⟩
abbrev cX8_telling : ByteArray := prog_10_method_3_code
def yX8_telling : MethodName := ⟨RX8, "telling", "(LSillHouse$Trace;)I"⟩
abbrev cX8_rung : ByteArray := prog_10_method_4_code
def yX8_rung : MethodName := ⟨RX8, "rung", "(LSillHouse$Trace;I)I"⟩
def RX9 : String := "SillHouse"
def TX9 : u_T := fun k => match k with
  | 0 => ("SillHouse", "sheets", "[LSillHouse$Sheet;", true)
  | 1 => ("SillHouse", "plan", "LSillHouse$Plan;", true)
  | 2 => ("SillHouse", "folk", "LSillHouse$Folk;", true)
  | 3 => ("SillHouse", "search", "LSillHouse$Search;", true)
  | 4 => ("SillHouse", "left", "LSillHouse$Trace;", true)
  | _ => ("SillHouse", "lastFault", "I", false)
def tyX9 : Nat → FieldType := fun k => match k with
  | 0 => .array (.object "SillHouse$Sheet")
  | 1 => .object "SillHouse$Plan"
  | 2 => .object "SillHouse$Folk"
  | 3 => .object "SillHouse$Search"
  | 4 => .object "SillHouse$Trace"
  | _ => .int
theorem nmX9 : ∀ a, a < 6 → ∀ b, b < 6 → a ≠ b → (TX9 a).2.1 ≠ (TX9 b).2.1 := by decide +kernel
theorem tyX9_ok : ∀ k, k < 6 → parseFieldDescriptor (TX9 k).2.2.1 = some (tyX9 k) := by decide +kernel
abbrev cX9_init : ByteArray := prog_1_method_1_code
def yX9_init : MethodName := ⟨RX9, "<init>", "()V"⟩
abbrev cX9_house : ByteArray := prog_1_method_2_code
def yX9_house : MethodName := ⟨RX9, "house", "(IIII)I"⟩
abbrev cX9_ofDoor : ByteArray := prog_1_method_3_code
def yX9_ofDoor : MethodName := ⟨RX9, "ofDoor", "(II)I"⟩
abbrev cX9_person : ByteArray := prog_1_method_4_code
def yX9_person : MethodName := ⟨RX9, "person", "(II)I"⟩
abbrev cX9_stone : ByteArray := prog_1_method_5_code
def yX9_stone : MethodName := ⟨RX9, "stone", "(II)I"⟩
abbrev cX9_ofPerson : ByteArray := prog_1_method_6_code
def yX9_ofPerson : MethodName := ⟨RX9, "ofPerson", "(II)I"⟩
abbrev cX9_ofStone : ByteArray := prog_1_method_7_code
def yX9_ofStone : MethodName := ⟨RX9, "ofStone", "(II)I"⟩
abbrev cX9_take : ByteArray := prog_1_method_8_code
def yX9_take : MethodName := ⟨RX9, "take", "(II)I"⟩
abbrev cX9_lay : ByteArray := prog_1_method_9_code
def yX9_lay : MethodName := ⟨RX9, "lay", "(II)I"⟩
abbrev cX9_opens : ByteArray := prog_1_method_10_code
def yX9_opens : MethodName := ⟨RX9, "opens", "(II)I"⟩
abbrev cX9_pass : ByteArray := prog_1_method_11_code
def yX9_pass : MethodName := ⟨RX9, "pass", "(II)I"⟩
abbrev cX9_weigh : ByteArray := prog_1_method_12_code
def yX9_weigh : MethodName := ⟨RX9, "weigh", "(II)I"⟩
abbrev cX9_fewest : ByteArray := prog_1_method_13_code
def yX9_fewest : MethodName := ⟨RX9, "fewest", "(III)I"⟩
abbrev cX9_reach : ByteArray := prog_1_method_14_code
def yX9_reach : MethodName := ⟨RX9, "reach", "(II)I"⟩
abbrev cX9_strangers : ByteArray := prog_1_method_15_code
def yX9_strangers : MethodName := ⟨RX9, "strangers", "(III)I"⟩
abbrev cX9_laid : ByteArray := prog_1_method_16_code
def yX9_laid : MethodName := ⟨RX9, "laid", "(III)I"⟩
abbrev cX9_guest : ByteArray := prog_1_method_17_code
def yX9_guest : MethodName := ⟨RX9, "guest", "(II)I"⟩
abbrev cX9_heard : ByteArray := prog_1_method_18_code
def yX9_heard : MethodName := ⟨RX9, "heard", "(IIII)I"⟩
abbrev cX9_byStrangers : ByteArray := prog_1_method_19_code
def yX9_byStrangers : MethodName := ⟨RX9, "byStrangers", "(IIIII)I"⟩
abbrev cX9_grows : ByteArray := prog_1_method_20_code
def yX9_grows : MethodName := ⟨RX9, "grows", "(III)I"⟩
abbrev cX9_sheet : ByteArray := prog_1_method_21_code
def yX9_sheet : MethodName := ⟨RX9, "sheet", "(III)I"⟩
abbrev cX9_lose : ByteArray := prog_1_method_22_code
def yX9_lose : MethodName := ⟨RX9, "lose", "(I)I"⟩
abbrev cX9_put : ByteArray := prog_1_method_23_code
def yX9_put : MethodName := ⟨RX9, "put", "(III)I"⟩
abbrev cX9_cell : ByteArray := prog_1_method_24_code
def yX9_cell : MethodName := ⟨RX9, "cell", "(III)J"⟩
abbrev cX9_copy : ByteArray := prog_1_method_25_code
def yX9_copy : MethodName := ⟨RX9, "copy", "(IIIII)I"⟩
abbrev cX9_tell : ByteArray := prog_1_method_26_code
def yX9_tell : MethodName := ⟨RX9, "tell", "(I)I"⟩
abbrev cX9_ring : ByteArray := prog_1_method_27_code
def yX9_ring : MethodName := ⟨RX9, "ring", "(I)I"⟩
abbrev cX9_as : ByteArray := prog_1_method_28_code
def yX9_as : MethodName := ⟨RX9, "as", "(II)I"⟩
abbrev cX9_trace : ByteArray := prog_1_method_29_code
def yX9_trace : MethodName := ⟨RX9, "trace", "()I"⟩
abbrev cX9_fault : ByteArray := prog_1_method_30_code
def yX9_fault : MethodName := ⟨RX9, "fault", "()I"⟩
abbrev cX9_many : ByteArray := prog_1_method_31_code
def yX9_many : MethodName := ⟨RX9, "many", "(I)I"⟩
abbrev cX9_isSheet : ByteArray := prog_1_method_32_code
def yX9_isSheet : MethodName := ⟨RX9, "isSheet", "(I)Z"⟩
abbrev cX9_isLane : ByteArray := prog_1_method_33_code
def yX9_isLane : MethodName := ⟨RX9, "isLane", "(I)Z"⟩
abbrev cX9_isPersonsWeight : ByteArray := prog_1_method_34_code
def yX9_isPersonsWeight : MethodName := ⟨RX9, "isPersonsWeight", "(I)Z"⟩
abbrev cX9_faulted : ByteArray := prog_1_method_35_code
def yX9_faulted : MethodName := ⟨RX9, "faulted", "(I)I"⟩
abbrev cX9_cellsRefused : ByteArray := prog_1_method_36_code
def yX9_cellsRefused : MethodName := ⟨RX9, "cellsRefused", "(IIII)I"⟩
abbrev cX9_doorsRefused : ByteArray := prog_1_method_37_code
def yX9_doorsRefused : MethodName := ⟨RX9, "doorsRefused", "(IIII)I"⟩
abbrev cX9_passesAll : ByteArray := prog_1_method_38_code
def yX9_passesAll : MethodName := ⟨RX9, "passesAll", "([IIIII)Z"⟩
abbrev cX9_comesChanged : ByteArray := prog_1_method_39_code
def yX9_comesChanged : MethodName := ⟨RX9, "comesChanged", "(III)Z"⟩
abbrev cX9_comesWith : ByteArray := prog_1_method_40_code
def yX9_comesWith : MethodName := ⟨RX9, "comesWith", "(IIII)Z"⟩
abbrev cX9_ofLaidRow : ByteArray := prog_1_method_41_code
def yX9_ofLaidRow : MethodName := ⟨RX9, "ofLaidRow", "(III)I"⟩
def RX10 : String := "SillHouseModel"
def TX10 : u_T := fun k => match k with
  | 0 => ("SillHouseModel", "fault", "I", false)
  | 1 => ("SillHouseModel", "rooms", "I", false)
  | 2 => ("SillHouseModel", "doors", "I", false)
  | 3 => ("SillHouseModel", "kindOf", "[I", true)
  | 4 => ("SillHouseModel", "sideOf", "[I", true)
  | 5 => ("SillHouseModel", "weightOf", "[I", true)
  | 6 => ("SillHouseModel", "readAt", "I", false)
  | 7 => ("SillHouseModel", "readRooms", "I", false)
  | 8 => ("SillHouseModel", "readDoors", "I", false)
  | 9 => ("SillHouseModel", "readKind", "[I", true)
  | 10 => ("SillHouseModel", "readSide", "[I", true)
  | 11 => ("SillHouseModel", "readWeight", "[I", true)
  | 12 => ("SillHouseModel", "persons", "I", false)
  | 13 => ("SillHouseModel", "heavy", "[I", true)
  | 14 => ("SillHouseModel", "isIn", "[I", true)
  | 15 => ("SillHouseModel", "stones", "I", false)
  | 16 => ("SillHouseModel", "stoneHeavy", "[I", true)
  | 17 => ("SillHouseModel", "stoneIn", "[I", true)
  | 18 => ("SillHouseModel", "goerHeavy", "I", false)
  | 19 => ("SillHouseModel", "goerRoom", "I", false)
  | 20 => ("SillHouseModel", "goerStones", "I", false)
  | 21 => ("SillHouseModel", "lies", "[I", true)
  | 22 => ("SillHouseModel", "liesHeavy", "[I", true)
  | 23 => ("SillHouseModel", "may", "[Z", true)
  | 24 => ("SillHouseModel", "stateAt", "[I", true)
  | 25 => ("SillHouseModel", "fromAt", "[I", true)
  | 26 => ("SillHouseModel", "stepAt", "[I", true)
  | 27 => ("SillHouseModel", "known", "[Z", true)
  | 28 => ("SillHouseModel", "states", "I", false)
  | 29 => ("SillHouseModel", "rowOf", "[I", true)
  | 30 => ("SillHouseModel", "sheetSize", "[I", true)
  | 31 => ("SillHouseModel", "sheetLane", "[I", true)
  | 32 => ("SillHouseModel", "sheet", "[I", true)
  | 33 => ("SillHouseModel", "hands", "[I", true)
  | _ => ("SillHouseModel", "traceNow", "I", false)
def tyX10 : Nat → FieldType := fun k => match k with
  | 0 => .int
  | 1 => .int
  | 2 => .int
  | 3 => .array .int
  | 4 => .array .int
  | 5 => .array .int
  | 6 => .int
  | 7 => .int
  | 8 => .int
  | 9 => .array .int
  | 10 => .array .int
  | 11 => .array .int
  | 12 => .int
  | 13 => .array .int
  | 14 => .array .int
  | 15 => .int
  | 16 => .array .int
  | 17 => .array .int
  | 18 => .int
  | 19 => .int
  | 20 => .int
  | 21 => .array .int
  | 22 => .array .int
  | 23 => .array .boolean
  | 24 => .array .int
  | 25 => .array .int
  | 26 => .array .int
  | 27 => .array .boolean
  | 28 => .int
  | 29 => .array .int
  | 30 => .array .int
  | 31 => .array .int
  | 32 => .array .int
  | 33 => .array .int
  | _ => .int
theorem nmX10 : ∀ a, a < 35 → ∀ b, b < 35 → a ≠ b → (TX10 a).2.1 ≠ (TX10 b).2.1 := by decide +kernel
theorem tyX10_ok : ∀ k, k < 35 → parseFieldDescriptor (TX10 k).2.2.1 = some (tyX10 k) := by decide +kernel
abbrev cX10_init : ByteArray := prog_12_method_1_code
def yX10_init : MethodName := ⟨RX10, "<init>", "()V"⟩
abbrev cX10_in : ByteArray := prog_12_method_2_code
def yX10_in : MethodName := ⟨RX10, "in", "(JJJ)Z"⟩
abbrev cX10_lost : ByteArray := prog_12_method_3_code
def yX10_lost : MethodName := ⟨RX10, "lost", "()J"⟩
abbrev cX10_refused : ByteArray := prog_12_method_4_code
def yX10_refused : MethodName := ⟨RX10, "refused", "(I)I"⟩
abbrev cX10_failed : ByteArray := prog_12_method_5_code
def yX10_failed : MethodName := ⟨RX10, "failed", "(I)I"⟩
abbrev cX10_failedLong : ByteArray := prog_12_method_6_code
def yX10_failedLong : MethodName := ⟨RX10, "failedLong", "(I)J"⟩
abbrev cX10_barred : ByteArray := prog_12_method_7_code
def yX10_barred : MethodName := ⟨RX10, "barred", "(IIIJ)I"⟩
abbrev cX10_noRoom : ByteArray := prog_12_method_8_code
def yX10_noRoom : MethodName := ⟨RX10, "noRoom", "(I)Z"⟩
abbrev cX10_noDoor : ByteArray := prog_12_method_9_code
def yX10_noDoor : MethodName := ⟨RX10, "noDoor", "(I)Z"⟩
abbrev cX10_codeAt : ByteArray := prog_12_method_10_code
def yX10_codeAt : MethodName := ⟨RX10, "codeAt", "(II)I"⟩
abbrev cX10_figure : ByteArray := prog_12_method_11_code
def yX10_figure : MethodName := ⟨RX10, "figure", "(IIII)I"⟩
abbrev cX10_readsWeight : ByteArray := prog_12_method_12_code
def yX10_readsWeight : MethodName := ⟨RX10, "readsWeight", "(II)I"⟩
abbrev cX10_readsDoor : ByteArray := prog_12_method_13_code
def yX10_readsDoor : MethodName := ⟨RX10, "readsDoor", "(II)Z"⟩
abbrev cX10_readsHouse : ByteArray := prog_12_method_14_code
def yX10_readsHouse : MethodName := ⟨RX10, "readsHouse", "(II)Z"⟩
abbrev cX10_house : ByteArray := prog_12_method_15_code
def yX10_house : MethodName := ⟨RX10, "house", "(IIII)I"⟩
abbrev cX10_slackOf : ByteArray := prog_12_method_16_code
def yX10_slackOf : MethodName := ⟨RX10, "slackOf", "(I)I"⟩
abbrev cX10_asks : ByteArray := prog_12_method_17_code
def yX10_asks : MethodName := ⟨RX10, "asks", "(II)I"⟩
abbrev cX10_isOpen : ByteArray := prog_12_method_18_code
def yX10_isOpen : MethodName := ⟨RX10, "isOpen", "(III)Z"⟩
abbrev cX10_sideIn : ByteArray := prog_12_method_19_code
def yX10_sideIn : MethodName := ⟨RX10, "sideIn", "(II)I"⟩
abbrev cX10_throughTo : ByteArray := prog_12_method_20_code
def yX10_throughTo : MethodName := ⟨RX10, "throughTo", "(III)I"⟩
abbrev cX10_ofDoor : ByteArray := prog_12_method_21_code
def yX10_ofDoor : MethodName := ⟨RX10, "ofDoor", "(II)I"⟩
abbrev cX10_noPerson : ByteArray := prog_12_method_22_code
def yX10_noPerson : MethodName := ⟨RX10, "noPerson", "(I)Z"⟩
abbrev cX10_noStone : ByteArray := prog_12_method_23_code
def yX10_noStone : MethodName := ⟨RX10, "noStone", "(I)Z"⟩
abbrev cX10_person : ByteArray := prog_12_method_24_code
def yX10_person : MethodName := ⟨RX10, "person", "(II)I"⟩
abbrev cX10_stone : ByteArray := prog_12_method_25_code
def yX10_stone : MethodName := ⟨RX10, "stone", "(II)I"⟩
abbrev cX10_carriedBy : ByteArray := prog_12_method_26_code
def yX10_carriedBy : MethodName := ⟨RX10, "carriedBy", "(I)I"⟩
abbrev cX10_bits : ByteArray := prog_12_method_27_code
def yX10_bits : MethodName := ⟨RX10, "bits", "(I)I"⟩
abbrev cX10_withStones : ByteArray := prog_12_method_28_code
def yX10_withStones : MethodName := ⟨RX10, "withStones", "(I)I"⟩
abbrev cX10_ofPerson : ByteArray := prog_12_method_29_code
def yX10_ofPerson : MethodName := ⟨RX10, "ofPerson", "(II)I"⟩
abbrev cX10_ofStone : ByteArray := prog_12_method_30_code
def yX10_ofStone : MethodName := ⟨RX10, "ofStone", "(II)I"⟩
abbrev cX10_take : ByteArray := prog_12_method_31_code
def yX10_take : MethodName := ⟨RX10, "take", "(II)I"⟩
abbrev cX10_lay : ByteArray := prog_12_method_32_code
def yX10_lay : MethodName := ⟨RX10, "lay", "(II)I"⟩
abbrev cX10_roomOf : ByteArray := prog_12_method_33_code
def yX10_roomOf : MethodName := ⟨RX10, "roomOf", "(I)I"⟩
abbrev cX10_weightOfAll : ByteArray := prog_12_method_34_code
def yX10_weightOfAll : MethodName := ⟨RX10, "weightOfAll", "(I)I"⟩
abbrev cX10_partyBarred : ByteArray := prog_12_method_35_code
def yX10_partyBarred : MethodName := ⟨RX10, "partyBarred", "(II)I"⟩
abbrev cX10_opens : ByteArray := prog_12_method_36_code
def yX10_opens : MethodName := ⟨RX10, "opens", "(II)I"⟩
abbrev cX10_pass : ByteArray := prog_12_method_37_code
def yX10_pass : MethodName := ⟨RX10, "pass", "(II)I"⟩
abbrev cX10_weigh : ByteArray := prog_12_method_38_code
def yX10_weigh : MethodName := ⟨RX10, "weigh", "(II)I"⟩
abbrev cX10_stateNow : ByteArray := prog_12_method_39_code
def yX10_stateNow : MethodName := ⟨RX10, "stateNow", "()I"⟩
abbrev cX10_takeState : ByteArray := prog_12_method_40_code
def yX10_takeState : MethodName := ⟨RX10, "takeState", "(I)V"⟩
abbrev cX10_add : ByteArray := prog_12_method_41_code
def yX10_add : MethodName := ⟨RX10, "add", "(II)V"⟩
abbrev cX10_carriedNow : ByteArray := prog_12_method_42_code
def yX10_carriedNow : MethodName := ⟨RX10, "carriedNow", "()I"⟩
abbrev cX10_weightNow : ByteArray := prog_12_method_43_code
def yX10_weightNow : MethodName := ⟨RX10, "weightNow", "()I"⟩
abbrev cX10_spread : ByteArray := prog_12_method_44_code
def yX10_spread : MethodName := ⟨RX10, "spread", "(I)V"⟩
abbrev cX10_goTill : ByteArray := prog_12_method_45_code
def yX10_goTill : MethodName := ⟨RX10, "goTill", "(I)I"⟩
abbrev cX10_fewest : ByteArray := prog_12_method_46_code
def yX10_fewest : MethodName := ⟨RX10, "fewest", "(III)I"⟩
abbrev cX10_reachOf : ByteArray := prog_12_method_47_code
def yX10_reachOf : MethodName := ⟨RX10, "reachOf", "(II)I"⟩
abbrev cX10_reach : ByteArray := prog_12_method_48_code
def yX10_reach : MethodName := ⟨RX10, "reach", "(II)I"⟩
abbrev cX10_comesTo : ByteArray := prog_12_method_49_code
def yX10_comesTo : MethodName := ⟨RX10, "comesTo", "(III)Z"⟩
abbrev cX10_strangers : ByteArray := prog_12_method_50_code
def yX10_strangers : MethodName := ⟨RX10, "strangers", "(III)I"⟩
abbrev cX10_goesWith : ByteArray := prog_12_method_51_code
def yX10_goesWith : MethodName := ⟨RX10, "goesWith", "(IIIII)Z"⟩
abbrev cX10_laid : ByteArray := prog_12_method_52_code
def yX10_laid : MethodName := ⟨RX10, "laid", "(III)I"⟩
abbrev cX10_guest : ByteArray := prog_12_method_53_code
def yX10_guest : MethodName := ⟨RX10, "guest", "(II)I"⟩
abbrev cX10_passesAll : ByteArray := prog_12_method_54_code
def yX10_passesAll : MethodName := ⟨RX10, "passesAll", "(IIII)Z"⟩
abbrev cX10_areDoors : ByteArray := prog_12_method_55_code
def yX10_areDoors : MethodName := ⟨RX10, "areDoors", "(II)Z"⟩
abbrev cX10_heard : ByteArray := prog_12_method_56_code
def yX10_heard : MethodName := ⟨RX10, "heard", "(IIII)I"⟩
abbrev cX10_byStrangers : ByteArray := prog_12_method_57_code
def yX10_byStrangers : MethodName := ⟨RX10, "byStrangers", "(IIIII)I"⟩
abbrev cX10_grows : ByteArray := prog_12_method_58_code
def yX10_grows : MethodName := ⟨RX10, "grows", "(III)I"⟩
abbrev cX10_noSheet : ByteArray := prog_12_method_59_code
def yX10_noSheet : MethodName := ⟨RX10, "noSheet", "(I)Z"⟩
abbrev cX10_sheet : ByteArray := prog_12_method_60_code
def yX10_sheet : MethodName := ⟨RX10, "sheet", "(III)I"⟩
abbrev cX10_lose : ByteArray := prog_12_method_61_code
def yX10_lose : MethodName := ⟨RX10, "lose", "(I)I"⟩
abbrev cX10_noCell : ByteArray := prog_12_method_62_code
def yX10_noCell : MethodName := ⟨RX10, "noCell", "(II)I"⟩
abbrev cX10_put : ByteArray := prog_12_method_63_code
def yX10_put : MethodName := ⟨RX10, "put", "(III)I"⟩
abbrev cX10_cell : ByteArray := prog_12_method_64_code
def yX10_cell : MethodName := ⟨RX10, "cell", "(III)J"⟩
abbrev cX10_isBeyond : ByteArray := prog_12_method_65_code
def yX10_isBeyond : MethodName := ⟨RX10, "isBeyond", "(IJI)Z"⟩
abbrev cX10_copy : ByteArray := prog_12_method_66_code
def yX10_copy : MethodName := ⟨RX10, "copy", "(IIIII)I"⟩
abbrev cX10_traced : ByteArray := prog_12_method_67_code
def yX10_traced : MethodName := ⟨RX10, "traced", "(I)V"⟩
abbrev cX10_tell : ByteArray := prog_12_method_68_code
def yX10_tell : MethodName := ⟨RX10, "tell", "(I)I"⟩
abbrev cX10_ring : ByteArray := prog_12_method_69_code
def yX10_ring : MethodName := ⟨RX10, "ring", "(I)I"⟩
abbrev cX10_as : ByteArray := prog_12_method_70_code
def yX10_as : MethodName := ⟨RX10, "as", "(II)I"⟩
abbrev cX10_trace : ByteArray := prog_12_method_71_code
def yX10_trace : MethodName := ⟨RX10, "trace", "()I"⟩
abbrev cX10_fault : ByteArray := prog_12_method_72_code
def yX10_fault : MethodName := ⟨RX10, "fault", "()I"⟩
abbrev cX10_many : ByteArray := prog_12_method_73_code
def yX10_many : MethodName := ⟨RX10, "many", "(I)I"⟩
def RJ6 : String := "java/lang/Integer"
def TJ6 : u_T := fun k => match k with
  | _ => ("", "", "", false)
def tyJ6 : Nat → FieldType := fun k => match k with
  | _ => .int
theorem nmJ6 : ∀ a, a < 0 → ∀ b, b < 0 → a ≠ b → (TJ6 a).2.1 ≠ (TJ6 b).2.1 := by decide +kernel
theorem tyJ6_ok : ∀ k, k < 0 → parseFieldDescriptor (TJ6 k).2.2.1 = some (tyJ6 k) := by decide +kernel
abbrev cJ6_bitCount_0f7a4 : ByteArray := prog_13_method_49_code
def yJ6_bitCount_0f7a4 : MethodName := ⟨RJ6, "bitCount", "(I)I"⟩
def RJ9 : String := "java/lang/Math"
def TJ9 : u_T := fun k => match k with
  | _ => ("", "", "", false)
def tyJ9 : Nat → FieldType := fun k => match k with
  | _ => .int
theorem nmJ9 : ∀ a, a < 0 → ∀ b, b < 0 → a ≠ b → (TJ9 a).2.1 ≠ (TJ9 b).2.1 := by decide +kernel
theorem tyJ9_ok : ∀ k, k < 0 → parseFieldDescriptor (TJ9 k).2.2.1 = some (tyJ9 k) := by decide +kernel
abbrev cJ9_max_7cf53 : ByteArray := prog_14_method_65_code
def yJ9_max_7cf53 : MethodName := ⟨RJ9, "max", "(II)I"⟩
abbrev cJ9_min_7cf53 : ByteArray := prog_14_method_69_code
def yJ9_min_7cf53 : MethodName := ⟨RJ9, "min", "(II)I"⟩
def RJ10 : String := "java/lang/System"
def TJ10 : u_T := fun k => match k with
  | _ => ("", "", "", false)
def tyJ10 : Nat → FieldType := fun k => match k with
  | _ => .int
theorem nmJ10 : ∀ a, a < 0 → ∀ b, b < 0 → a ≠ b → (TJ10 a).2.1 ≠ (TJ10 b).2.1 := by decide +kernel
theorem tyJ10_ok : ∀ k, k < 0 → parseFieldDescriptor (TJ10 k).2.2.1 = some (tyJ10 k) := by decide +kernel
def RL : String := "SillHouseLaw"
abbrev cL_law : ByteArray := code
def yL_law : MethodName := ⟨RL, "law", "([I)Z"⟩
end
section
theorem dX0_init_0 : decode cX0_init 0 = .ok (.aload_n 0, 1) := by decide +kernel
theorem dX0_init_1 : decode cX0_init 1 = .ok (.invokespecial 3, 3) := by decide +kernel
theorem dX0_init_4 : decode cX0_init 4 = .ok (.aload_n 0, 1) := by decide +kernel
theorem dX0_init_5 : decode cX0_init 5 = .ok (.iconst 4, 1) := by decide +kernel
theorem dX0_init_6 : decode cX0_init 6 = .ok (.newarray .int, 2) := by decide +kernel
theorem dX0_init_8 : decode cX0_init 8 = .ok (.putfield 9, 3) := by decide +kernel
theorem dX0_init_11 : decode cX0_init 11 = .ok (.aload_n 0, 1) := by decide +kernel
theorem dX0_init_12 : decode cX0_init 12 = .ok (.iconst 4, 1) := by decide +kernel
theorem dX0_init_13 : decode cX0_init 13 = .ok (.newarray .int, 2) := by decide +kernel
theorem dX0_init_15 : decode cX0_init 15 = .ok (.putfield 15, 3) := by decide +kernel
theorem dX0_init_18 : decode cX0_init 18 = .ok (.aload_n 0, 1) := by decide +kernel
theorem dX0_init_19 : decode cX0_init 19 = .ok (.iconst 4, 1) := by decide +kernel
theorem dX0_init_20 : decode cX0_init 20 = .ok (.newarray .int, 2) := by decide +kernel
theorem dX0_init_22 : decode cX0_init 22 = .ok (.putfield 18, 3) := by decide +kernel
theorem dX0_init_25 : decode cX0_init 25 = .ok (.aload_n 0, 1) := by decide +kernel
theorem dX0_init_26 : decode cX0_init 26 = .ok (.iconst 4, 1) := by decide +kernel
theorem dX0_init_27 : decode cX0_init 27 = .ok (.newarray .int, 2) := by decide +kernel
theorem dX0_init_29 : decode cX0_init 29 = .ok (.putfield 21, 3) := by decide +kernel
theorem dX0_init_32 : decode cX0_init 32 = .ok (.return_, 1) := by decide +kernel
theorem dX0_placeWith_0 : decode cX0_placeWith 0 = .ok (.bipush (-20), 2) := by decide +kernel
theorem dX0_placeWith_2 : decode cX0_placeWith 2 = .ok (.iload_n 0, 1) := by decide +kernel
theorem dX0_placeWith_3 : decode cX0_placeWith 3 = .ok (.isub, 1) := by decide +kernel
theorem dX0_placeWith_4 : decode cX0_placeWith 4 = .ok (.ireturn, 1) := by decide +kernel
theorem dX0_leave_0 : decode cX0_leave 0 = .ok (.aload_n 0, 1) := by decide +kernel
theorem dX0_leave_1 : decode cX0_leave 1 = .ok (.iconst 0, 1) := by decide +kernel
theorem dX0_leave_2 : decode cX0_leave 2 = .ok (.putfield 24, 3) := by decide +kernel
theorem dX0_leave_5 : decode cX0_leave 5 = .ok (.aload_n 0, 1) := by decide +kernel
theorem dX0_leave_6 : decode cX0_leave 6 = .ok (.iconst 0, 1) := by decide +kernel
theorem dX0_leave_7 : decode cX0_leave 7 = .ok (.putfield 28, 3) := by decide +kernel
theorem dX0_leave_10 : decode cX0_leave 10 = .ok (.return_, 1) := by decide +kernel
theorem dX0_hasPerson_0 : decode cX0_hasPerson 0 = .ok (.iload_n 1, 1) := by decide +kernel
theorem dX0_hasPerson_1 : decode cX0_hasPerson 1 = .ok (.ifCond .lt 15, 3) := by decide +kernel
theorem dX0_hasPerson_4 : decode cX0_hasPerson 4 = .ok (.iload_n 1, 1) := by decide +kernel
theorem dX0_hasPerson_5 : decode cX0_hasPerson 5 = .ok (.aload_n 0, 1) := by decide +kernel
theorem dX0_hasPerson_6 : decode cX0_hasPerson 6 = .ok (.getfield 24, 3) := by decide +kernel
theorem dX0_hasPerson_9 : decode cX0_hasPerson 9 = .ok (.if_icmp .ge 7, 3) := by decide +kernel
theorem dX0_hasPerson_12 : decode cX0_hasPerson 12 = .ok (.iconst 1, 1) := by decide +kernel
theorem dX0_hasPerson_13 : decode cX0_hasPerson 13 = .ok (.goto 4, 3) := by decide +kernel
theorem dX0_hasPerson_16 : decode cX0_hasPerson 16 = .ok (.iconst 0, 1) := by decide +kernel
theorem dX0_hasPerson_17 : decode cX0_hasPerson 17 = .ok (.ireturn, 1) := by decide +kernel
theorem dX0_hasStone_0 : decode cX0_hasStone 0 = .ok (.iload_n 1, 1) := by decide +kernel
theorem dX0_hasStone_1 : decode cX0_hasStone 1 = .ok (.ifCond .lt 15, 3) := by decide +kernel
theorem dX0_hasStone_4 : decode cX0_hasStone 4 = .ok (.iload_n 1, 1) := by decide +kernel
theorem dX0_hasStone_5 : decode cX0_hasStone 5 = .ok (.aload_n 0, 1) := by decide +kernel
theorem dX0_hasStone_6 : decode cX0_hasStone 6 = .ok (.getfield 28, 3) := by decide +kernel
theorem dX0_hasStone_9 : decode cX0_hasStone 9 = .ok (.if_icmp .ge 7, 3) := by decide +kernel
theorem dX0_hasStone_12 : decode cX0_hasStone 12 = .ok (.iconst 1, 1) := by decide +kernel
theorem dX0_hasStone_13 : decode cX0_hasStone 13 = .ok (.goto 4, 3) := by decide +kernel
theorem dX0_hasStone_16 : decode cX0_hasStone 16 = .ok (.iconst 0, 1) := by decide +kernel
theorem dX0_hasStone_17 : decode cX0_hasStone 17 = .ok (.ireturn, 1) := by decide +kernel
theorem dX0_addPerson_0 : decode cX0_addPerson 0 = .ok (.aload_n 0, 1) := by decide +kernel
theorem dX0_addPerson_1 : decode cX0_addPerson 1 = .ok (.getfield 9, 3) := by decide +kernel
theorem dX0_addPerson_4 : decode cX0_addPerson 4 = .ok (.aload_n 0, 1) := by decide +kernel
theorem dX0_addPerson_5 : decode cX0_addPerson 5 = .ok (.getfield 24, 3) := by decide +kernel
theorem dX0_addPerson_8 : decode cX0_addPerson 8 = .ok (.iload_n 1, 1) := by decide +kernel
theorem dX0_addPerson_9 : decode cX0_addPerson 9 = .ok (.iastore, 1) := by decide +kernel
theorem dX0_addPerson_10 : decode cX0_addPerson 10 = .ok (.aload_n 0, 1) := by decide +kernel
theorem dX0_addPerson_11 : decode cX0_addPerson 11 = .ok (.getfield 15, 3) := by decide +kernel
theorem dX0_addPerson_14 : decode cX0_addPerson 14 = .ok (.aload_n 0, 1) := by decide +kernel
theorem dX0_addPerson_15 : decode cX0_addPerson 15 = .ok (.getfield 24, 3) := by decide +kernel
theorem dX0_addPerson_18 : decode cX0_addPerson 18 = .ok (.iload_n 2, 1) := by decide +kernel
theorem dX0_addPerson_19 : decode cX0_addPerson 19 = .ok (.iastore, 1) := by decide +kernel
theorem dX0_addPerson_20 : decode cX0_addPerson 20 = .ok (.aload_n 0, 1) := by decide +kernel
theorem dX0_addPerson_21 : decode cX0_addPerson 21 = .ok (.dup, 1) := by decide +kernel
theorem dX0_addPerson_22 : decode cX0_addPerson 22 = .ok (.getfield 24, 3) := by decide +kernel
theorem dX0_addPerson_25 : decode cX0_addPerson 25 = .ok (.dup_x1, 1) := by decide +kernel
theorem dX0_addPerson_26 : decode cX0_addPerson 26 = .ok (.iconst 1, 1) := by decide +kernel
theorem dX0_addPerson_27 : decode cX0_addPerson 27 = .ok (.iadd, 1) := by decide +kernel
theorem dX0_addPerson_28 : decode cX0_addPerson 28 = .ok (.putfield 24, 3) := by decide +kernel
theorem dX0_addPerson_31 : decode cX0_addPerson 31 = .ok (.ireturn, 1) := by decide +kernel
theorem dX0_addStone_0 : decode cX0_addStone 0 = .ok (.aload_n 0, 1) := by decide +kernel
theorem dX0_addStone_1 : decode cX0_addStone 1 = .ok (.getfield 18, 3) := by decide +kernel
theorem dX0_addStone_4 : decode cX0_addStone 4 = .ok (.aload_n 0, 1) := by decide +kernel
theorem dX0_addStone_5 : decode cX0_addStone 5 = .ok (.getfield 28, 3) := by decide +kernel
theorem dX0_addStone_8 : decode cX0_addStone 8 = .ok (.iload_n 1, 1) := by decide +kernel
theorem dX0_addStone_9 : decode cX0_addStone 9 = .ok (.iastore, 1) := by decide +kernel
theorem dX0_addStone_10 : decode cX0_addStone 10 = .ok (.aload_n 0, 1) := by decide +kernel
theorem dX0_addStone_11 : decode cX0_addStone 11 = .ok (.getfield 21, 3) := by decide +kernel
theorem dX0_addStone_14 : decode cX0_addStone 14 = .ok (.aload_n 0, 1) := by decide +kernel
theorem dX0_addStone_15 : decode cX0_addStone 15 = .ok (.getfield 28, 3) := by decide +kernel
theorem dX0_addStone_18 : decode cX0_addStone 18 = .ok (.iload_n 2, 1) := by decide +kernel
theorem dX0_addStone_19 : decode cX0_addStone 19 = .ok (.iastore, 1) := by decide +kernel
theorem dX0_addStone_20 : decode cX0_addStone 20 = .ok (.aload_n 0, 1) := by decide +kernel
theorem dX0_addStone_21 : decode cX0_addStone 21 = .ok (.dup, 1) := by decide +kernel
theorem dX0_addStone_22 : decode cX0_addStone 22 = .ok (.getfield 28, 3) := by decide +kernel
theorem dX0_addStone_25 : decode cX0_addStone 25 = .ok (.dup_x1, 1) := by decide +kernel
theorem dX0_addStone_26 : decode cX0_addStone 26 = .ok (.iconst 1, 1) := by decide +kernel
theorem dX0_addStone_27 : decode cX0_addStone 27 = .ok (.iadd, 1) := by decide +kernel
theorem dX0_addStone_28 : decode cX0_addStone 28 = .ok (.putfield 28, 3) := by decide +kernel
theorem dX0_addStone_31 : decode cX0_addStone 31 = .ok (.ireturn, 1) := by decide +kernel
theorem dX0_carriedBy_0 : decode cX0_carriedBy 0 = .ok (.iconst 0, 1) := by decide +kernel
theorem dX0_carriedBy_1 : decode cX0_carriedBy 1 = .ok (.istore_n 2, 1) := by decide +kernel
theorem dX0_carriedBy_2 : decode cX0_carriedBy 2 = .ok (.iconst 0, 1) := by decide +kernel
theorem dX0_carriedBy_3 : decode cX0_carriedBy 3 = .ok (.istore_n 3, 1) := by decide +kernel
theorem dX0_carriedBy_4 : decode cX0_carriedBy 4 = .ok (.iload_n 3, 1) := by decide +kernel
theorem dX0_carriedBy_5 : decode cX0_carriedBy 5 = .ok (.aload_n 0, 1) := by decide +kernel
theorem dX0_carriedBy_6 : decode cX0_carriedBy 6 = .ok (.getfield 28, 3) := by decide +kernel
theorem dX0_carriedBy_9 : decode cX0_carriedBy 9 = .ok (.if_icmp .ge 28, 3) := by decide +kernel
theorem dX0_carriedBy_12 : decode cX0_carriedBy 12 = .ok (.aload_n 0, 1) := by decide +kernel
theorem dX0_carriedBy_13 : decode cX0_carriedBy 13 = .ok (.getfield 21, 3) := by decide +kernel
theorem dX0_carriedBy_16 : decode cX0_carriedBy 16 = .ok (.iload_n 3, 1) := by decide +kernel
theorem dX0_carriedBy_17 : decode cX0_carriedBy 17 = .ok (.iaload, 1) := by decide +kernel
theorem dX0_carriedBy_18 : decode cX0_carriedBy 18 = .ok (.iload_n 1, 1) := by decide +kernel
theorem dX0_carriedBy_19 : decode cX0_carriedBy 19 = .ok (.invokestatic 31, 3) := by decide +kernel
theorem dX0_carriedBy_22 : decode cX0_carriedBy 22 = .ok (.if_icmp .ne 9, 3) := by decide +kernel
theorem dX0_carriedBy_25 : decode cX0_carriedBy 25 = .ok (.iload_n 2, 1) := by decide +kernel
theorem dX0_carriedBy_26 : decode cX0_carriedBy 26 = .ok (.iconst 1, 1) := by decide +kernel
theorem dX0_carriedBy_27 : decode cX0_carriedBy 27 = .ok (.iload_n 3, 1) := by decide +kernel
theorem dX0_carriedBy_28 : decode cX0_carriedBy 28 = .ok (.ishl, 1) := by decide +kernel
theorem dX0_carriedBy_29 : decode cX0_carriedBy 29 = .ok (.ior, 1) := by decide +kernel
theorem dX0_carriedBy_30 : decode cX0_carriedBy 30 = .ok (.istore_n 2, 1) := by decide +kernel
theorem dX0_carriedBy_31 : decode cX0_carriedBy 31 = .ok (.iinc 3 1, 3) := by decide +kernel
theorem dX0_carriedBy_34 : decode cX0_carriedBy 34 = .ok (.goto (-30), 3) := by decide +kernel
theorem dX0_carriedBy_37 : decode cX0_carriedBy 37 = .ok (.iload_n 2, 1) := by decide +kernel
theorem dX0_carriedBy_38 : decode cX0_carriedBy 38 = .ok (.ireturn, 1) := by decide +kernel
theorem dX0_howManyCarriedBy_0 : decode cX0_howManyCarriedBy 0 = .ok (.aload_n 0, 1) := by decide +kernel
theorem dX0_howManyCarriedBy_1 : decode cX0_howManyCarriedBy 1 = .ok (.iload_n 1, 1) := by decide +kernel
theorem dX0_howManyCarriedBy_2 : decode cX0_howManyCarriedBy 2 = .ok (.invokevirtual 35, 3) := by decide +kernel
theorem dX0_howManyCarriedBy_5 : decode cX0_howManyCarriedBy 5 = .ok (.invokestatic 38, 3) := by decide +kernel
theorem dX0_howManyCarriedBy_8 : decode cX0_howManyCarriedBy 8 = .ok (.ireturn, 1) := by decide +kernel
theorem dX0_weightWithStones_0 : decode cX0_weightWithStones 0 = .ok (.aload_n 0, 1) := by decide +kernel
theorem dX0_weightWithStones_1 : decode cX0_weightWithStones 1 = .ok (.getfield 9, 3) := by decide +kernel
theorem dX0_weightWithStones_4 : decode cX0_weightWithStones 4 = .ok (.iload_n 1, 1) := by decide +kernel
theorem dX0_weightWithStones_5 : decode cX0_weightWithStones 5 = .ok (.iaload, 1) := by decide +kernel
theorem dX0_weightWithStones_6 : decode cX0_weightWithStones 6 = .ok (.istore_n 2, 1) := by decide +kernel
theorem dX0_weightWithStones_7 : decode cX0_weightWithStones 7 = .ok (.iconst 0, 1) := by decide +kernel
theorem dX0_weightWithStones_8 : decode cX0_weightWithStones 8 = .ok (.istore_n 3, 1) := by decide +kernel
theorem dX0_weightWithStones_9 : decode cX0_weightWithStones 9 = .ok (.iload_n 3, 1) := by decide +kernel
theorem dX0_weightWithStones_10 : decode cX0_weightWithStones 10 = .ok (.aload_n 0, 1) := by decide +kernel
theorem dX0_weightWithStones_11 : decode cX0_weightWithStones 11 = .ok (.getfield 28, 3) := by decide +kernel
theorem dX0_weightWithStones_14 : decode cX0_weightWithStones 14 = .ok (.if_icmp .ge 31, 3) := by decide +kernel
theorem dX0_weightWithStones_17 : decode cX0_weightWithStones 17 = .ok (.aload_n 0, 1) := by decide +kernel
theorem dX0_weightWithStones_18 : decode cX0_weightWithStones 18 = .ok (.getfield 21, 3) := by decide +kernel
theorem dX0_weightWithStones_21 : decode cX0_weightWithStones 21 = .ok (.iload_n 3, 1) := by decide +kernel
theorem dX0_weightWithStones_22 : decode cX0_weightWithStones 22 = .ok (.iaload, 1) := by decide +kernel
theorem dX0_weightWithStones_23 : decode cX0_weightWithStones 23 = .ok (.iload_n 1, 1) := by decide +kernel
theorem dX0_weightWithStones_24 : decode cX0_weightWithStones 24 = .ok (.invokestatic 31, 3) := by decide +kernel
theorem dX0_weightWithStones_27 : decode cX0_weightWithStones 27 = .ok (.if_icmp .ne 12, 3) := by decide +kernel
theorem dX0_weightWithStones_30 : decode cX0_weightWithStones 30 = .ok (.iload_n 2, 1) := by decide +kernel
theorem dX0_weightWithStones_31 : decode cX0_weightWithStones 31 = .ok (.aload_n 0, 1) := by decide +kernel
theorem dX0_weightWithStones_32 : decode cX0_weightWithStones 32 = .ok (.getfield 18, 3) := by decide +kernel
theorem dX0_weightWithStones_35 : decode cX0_weightWithStones 35 = .ok (.iload_n 3, 1) := by decide +kernel
theorem dX0_weightWithStones_36 : decode cX0_weightWithStones 36 = .ok (.iaload, 1) := by decide +kernel
theorem dX0_weightWithStones_37 : decode cX0_weightWithStones 37 = .ok (.iadd, 1) := by decide +kernel
theorem dX0_weightWithStones_38 : decode cX0_weightWithStones 38 = .ok (.istore_n 2, 1) := by decide +kernel
theorem dX0_weightWithStones_39 : decode cX0_weightWithStones 39 = .ok (.iinc 3 1, 3) := by decide +kernel
theorem dX0_weightWithStones_42 : decode cX0_weightWithStones 42 = .ok (.goto (-33), 3) := by decide +kernel
theorem dX0_weightWithStones_45 : decode cX0_weightWithStones 45 = .ok (.iload_n 2, 1) := by decide +kernel
theorem dX0_weightWithStones_46 : decode cX0_weightWithStones 46 = .ok (.ireturn, 1) := by decide +kernel
theorem dX0_isParty_0 : decode cX0_isParty 0 = .ok (.iload_n 1, 1) := by decide +kernel
theorem dX0_isParty_1 : decode cX0_isParty 1 = .ok (.ifCond .eq 16, 3) := by decide +kernel
theorem dX0_isParty_4 : decode cX0_isParty 4 = .ok (.iload_n 1, 1) := by decide +kernel
theorem dX0_isParty_5 : decode cX0_isParty 5 = .ok (.aload_n 0, 1) := by decide +kernel
theorem dX0_isParty_6 : decode cX0_isParty 6 = .ok (.getfield 24, 3) := by decide +kernel
theorem dX0_isParty_9 : decode cX0_isParty 9 = .ok (.iushr, 1) := by decide +kernel
theorem dX0_isParty_10 : decode cX0_isParty 10 = .ok (.ifCond .ne 7, 3) := by decide +kernel
theorem dX0_isParty_13 : decode cX0_isParty 13 = .ok (.iconst 1, 1) := by decide +kernel
theorem dX0_isParty_14 : decode cX0_isParty 14 = .ok (.goto 4, 3) := by decide +kernel
theorem dX0_isParty_17 : decode cX0_isParty 17 = .ok (.iconst 0, 1) := by decide +kernel
theorem dX0_isParty_18 : decode cX0_isParty 18 = .ok (.ireturn, 1) := by decide +kernel
theorem dX0_roomOfParty_0 : decode cX0_roomOfParty 0 = .ok (.iconst (-1), 1) := by decide +kernel
theorem dX0_roomOfParty_1 : decode cX0_roomOfParty 1 = .ok (.istore_n 2, 1) := by decide +kernel
theorem dX0_roomOfParty_2 : decode cX0_roomOfParty 2 = .ok (.iconst 0, 1) := by decide +kernel
theorem dX0_roomOfParty_3 : decode cX0_roomOfParty 3 = .ok (.istore_n 3, 1) := by decide +kernel
theorem dX0_roomOfParty_4 : decode cX0_roomOfParty 4 = .ok (.iload_n 3, 1) := by decide +kernel
theorem dX0_roomOfParty_5 : decode cX0_roomOfParty 5 = .ok (.aload_n 0, 1) := by decide +kernel
theorem dX0_roomOfParty_6 : decode cX0_roomOfParty 6 = .ok (.getfield 24, 3) := by decide +kernel
theorem dX0_roomOfParty_9 : decode cX0_roomOfParty 9 = .ok (.if_icmp .ge 41, 3) := by decide +kernel
theorem dX0_roomOfParty_12 : decode cX0_roomOfParty 12 = .ok (.iload_n 1, 1) := by decide +kernel
theorem dX0_roomOfParty_13 : decode cX0_roomOfParty 13 = .ok (.iconst 1, 1) := by decide +kernel
theorem dX0_roomOfParty_14 : decode cX0_roomOfParty 14 = .ok (.iload_n 3, 1) := by decide +kernel
theorem dX0_roomOfParty_15 : decode cX0_roomOfParty 15 = .ok (.ishl, 1) := by decide +kernel
theorem dX0_roomOfParty_16 : decode cX0_roomOfParty 16 = .ok (.iand, 1) := by decide +kernel
theorem dX0_roomOfParty_17 : decode cX0_roomOfParty 17 = .ok (.ifCond .eq 27, 3) := by decide +kernel
theorem dX0_roomOfParty_20 : decode cX0_roomOfParty 20 = .ok (.iload_n 2, 1) := by decide +kernel
theorem dX0_roomOfParty_21 : decode cX0_roomOfParty 21 = .ok (.iconst (-1), 1) := by decide +kernel
theorem dX0_roomOfParty_22 : decode cX0_roomOfParty 22 = .ok (.if_icmp .eq 15, 3) := by decide +kernel
theorem dX0_roomOfParty_25 : decode cX0_roomOfParty 25 = .ok (.iload_n 2, 1) := by decide +kernel
theorem dX0_roomOfParty_26 : decode cX0_roomOfParty 26 = .ok (.aload_n 0, 1) := by decide +kernel
theorem dX0_roomOfParty_27 : decode cX0_roomOfParty 27 = .ok (.getfield 15, 3) := by decide +kernel
theorem dX0_roomOfParty_30 : decode cX0_roomOfParty 30 = .ok (.iload_n 3, 1) := by decide +kernel
theorem dX0_roomOfParty_31 : decode cX0_roomOfParty 31 = .ok (.iaload, 1) := by decide +kernel
theorem dX0_roomOfParty_32 : decode cX0_roomOfParty 32 = .ok (.if_icmp .eq 5, 3) := by decide +kernel
theorem dX0_roomOfParty_35 : decode cX0_roomOfParty 35 = .ok (.iconst (-1), 1) := by decide +kernel
theorem dX0_roomOfParty_36 : decode cX0_roomOfParty 36 = .ok (.ireturn, 1) := by decide +kernel
theorem dX0_roomOfParty_37 : decode cX0_roomOfParty 37 = .ok (.aload_n 0, 1) := by decide +kernel
theorem dX0_roomOfParty_38 : decode cX0_roomOfParty 38 = .ok (.getfield 15, 3) := by decide +kernel
theorem dX0_roomOfParty_41 : decode cX0_roomOfParty 41 = .ok (.iload_n 3, 1) := by decide +kernel
theorem dX0_roomOfParty_42 : decode cX0_roomOfParty 42 = .ok (.iaload, 1) := by decide +kernel
theorem dX0_roomOfParty_43 : decode cX0_roomOfParty 43 = .ok (.istore_n 2, 1) := by decide +kernel
theorem dX0_roomOfParty_44 : decode cX0_roomOfParty 44 = .ok (.iinc 3 1, 3) := by decide +kernel
theorem dX0_roomOfParty_47 : decode cX0_roomOfParty 47 = .ok (.goto (-43), 3) := by decide +kernel
theorem dX0_roomOfParty_50 : decode cX0_roomOfParty 50 = .ok (.iload_n 2, 1) := by decide +kernel
theorem dX0_roomOfParty_51 : decode cX0_roomOfParty 51 = .ok (.ireturn, 1) := by decide +kernel
theorem dX0_weightOfParty_0 : decode cX0_weightOfParty 0 = .ok (.iconst 0, 1) := by decide +kernel
theorem dX0_weightOfParty_1 : decode cX0_weightOfParty 1 = .ok (.istore_n 2, 1) := by decide +kernel
theorem dX0_weightOfParty_2 : decode cX0_weightOfParty 2 = .ok (.iconst 0, 1) := by decide +kernel
theorem dX0_weightOfParty_3 : decode cX0_weightOfParty 3 = .ok (.istore_n 3, 1) := by decide +kernel
theorem dX0_weightOfParty_4 : decode cX0_weightOfParty 4 = .ok (.iload_n 3, 1) := by decide +kernel
theorem dX0_weightOfParty_5 : decode cX0_weightOfParty 5 = .ok (.aload_n 0, 1) := by decide +kernel
theorem dX0_weightOfParty_6 : decode cX0_weightOfParty 6 = .ok (.getfield 24, 3) := by decide +kernel
theorem dX0_weightOfParty_9 : decode cX0_weightOfParty 9 = .ok (.if_icmp .ge 25, 3) := by decide +kernel
theorem dX0_weightOfParty_12 : decode cX0_weightOfParty 12 = .ok (.iload_n 1, 1) := by decide +kernel
theorem dX0_weightOfParty_13 : decode cX0_weightOfParty 13 = .ok (.iconst 1, 1) := by decide +kernel
theorem dX0_weightOfParty_14 : decode cX0_weightOfParty 14 = .ok (.iload_n 3, 1) := by decide +kernel
theorem dX0_weightOfParty_15 : decode cX0_weightOfParty 15 = .ok (.ishl, 1) := by decide +kernel
theorem dX0_weightOfParty_16 : decode cX0_weightOfParty 16 = .ok (.iand, 1) := by decide +kernel
theorem dX0_weightOfParty_17 : decode cX0_weightOfParty 17 = .ok (.ifCond .eq 11, 3) := by decide +kernel
theorem dX0_weightOfParty_20 : decode cX0_weightOfParty 20 = .ok (.iload_n 2, 1) := by decide +kernel
theorem dX0_weightOfParty_21 : decode cX0_weightOfParty 21 = .ok (.aload_n 0, 1) := by decide +kernel
theorem dX0_weightOfParty_22 : decode cX0_weightOfParty 22 = .ok (.iload_n 3, 1) := by decide +kernel
theorem dX0_weightOfParty_23 : decode cX0_weightOfParty 23 = .ok (.invokevirtual 43, 3) := by decide +kernel
theorem dX0_weightOfParty_26 : decode cX0_weightOfParty 26 = .ok (.iadd, 1) := by decide +kernel
theorem dX0_weightOfParty_27 : decode cX0_weightOfParty 27 = .ok (.istore_n 2, 1) := by decide +kernel
theorem dX0_weightOfParty_28 : decode cX0_weightOfParty 28 = .ok (.iinc 3 1, 3) := by decide +kernel
theorem dX0_weightOfParty_31 : decode cX0_weightOfParty 31 = .ok (.goto (-27), 3) := by decide +kernel
theorem dX0_weightOfParty_34 : decode cX0_weightOfParty 34 = .ok (.iload_n 2, 1) := by decide +kernel
theorem dX0_weightOfParty_35 : decode cX0_weightOfParty 35 = .ok (.ireturn, 1) := by decide +kernel
theorem dX0_moveParty_0 : decode cX0_moveParty 0 = .ok (.iconst 0, 1) := by decide +kernel
theorem dX0_moveParty_1 : decode cX0_moveParty 1 = .ok (.istore_n 3, 1) := by decide +kernel
theorem dX0_moveParty_2 : decode cX0_moveParty 2 = .ok (.iload_n 3, 1) := by decide +kernel
theorem dX0_moveParty_3 : decode cX0_moveParty 3 = .ok (.aload_n 0, 1) := by decide +kernel
theorem dX0_moveParty_4 : decode cX0_moveParty 4 = .ok (.getfield 24, 3) := by decide +kernel
theorem dX0_moveParty_7 : decode cX0_moveParty 7 = .ok (.if_icmp .ge 24, 3) := by decide +kernel
theorem dX0_moveParty_10 : decode cX0_moveParty 10 = .ok (.iload_n 1, 1) := by decide +kernel
theorem dX0_moveParty_11 : decode cX0_moveParty 11 = .ok (.iconst 1, 1) := by decide +kernel
theorem dX0_moveParty_12 : decode cX0_moveParty 12 = .ok (.iload_n 3, 1) := by decide +kernel
theorem dX0_moveParty_13 : decode cX0_moveParty 13 = .ok (.ishl, 1) := by decide +kernel
theorem dX0_moveParty_14 : decode cX0_moveParty 14 = .ok (.iand, 1) := by decide +kernel
theorem dX0_moveParty_15 : decode cX0_moveParty 15 = .ok (.ifCond .eq 10, 3) := by decide +kernel
theorem dX0_moveParty_18 : decode cX0_moveParty 18 = .ok (.aload_n 0, 1) := by decide +kernel
theorem dX0_moveParty_19 : decode cX0_moveParty 19 = .ok (.getfield 15, 3) := by decide +kernel
theorem dX0_moveParty_22 : decode cX0_moveParty 22 = .ok (.iload_n 3, 1) := by decide +kernel
theorem dX0_moveParty_23 : decode cX0_moveParty 23 = .ok (.iload_n 2, 1) := by decide +kernel
theorem dX0_moveParty_24 : decode cX0_moveParty 24 = .ok (.iastore, 1) := by decide +kernel
theorem dX0_moveParty_25 : decode cX0_moveParty 25 = .ok (.iinc 3 1, 3) := by decide +kernel
theorem dX0_moveParty_28 : decode cX0_moveParty 28 = .ok (.goto (-26), 3) := by decide +kernel
theorem dX0_moveParty_31 : decode cX0_moveParty 31 = .ok (.return_, 1) := by decide +kernel
theorem dX1_init_0 : decode cX1_init 0 = .ok (.aload_n 0, 1) := by decide +kernel
theorem dX1_init_1 : decode cX1_init 1 = .ok (.invokespecial 3, 3) := by decide +kernel
theorem dX1_init_4 : decode cX1_init 4 = .ok (.aload_n 0, 1) := by decide +kernel
theorem dX1_init_5 : decode cX1_init 5 = .ok (.bipush 8, 2) := by decide +kernel
theorem dX1_init_7 : decode cX1_init 7 = .ok (.anewarray 9, 3) := by decide +kernel
theorem dX1_init_10 : decode cX1_init 10 = .ok (.putfield 11, 3) := by decide +kernel
theorem dX1_init_13 : decode cX1_init 13 = .ok (.return_, 1) := by decide +kernel
theorem dX1_build_0 : decode cX1_build 0 = .ok (.aload_n 0, 1) := by decide +kernel
theorem dX1_build_1 : decode cX1_build 1 = .ok (.aload_n 1, 1) := by decide +kernel
theorem dX1_build_2 : decode cX1_build 2 = .ok (.invokevirtual 17, 3) := by decide +kernel
theorem dX1_build_5 : decode cX1_build 5 = .ok (.putfield 23, 3) := by decide +kernel
theorem dX1_build_8 : decode cX1_build 8 = .ok (.aload_n 0, 1) := by decide +kernel
theorem dX1_build_9 : decode cX1_build 9 = .ok (.aload_n 1, 1) := by decide +kernel
theorem dX1_build_10 : decode cX1_build 10 = .ok (.invokevirtual 26, 3) := by decide +kernel
theorem dX1_build_13 : decode cX1_build 13 = .ok (.bipush 8, 2) := by decide +kernel
theorem dX1_build_15 : decode cX1_build 15 = .ok (.invokestatic 29, 3) := by decide +kernel
theorem dX1_build_18 : decode cX1_build 18 = .ok (.putfield 35, 3) := by decide +kernel
theorem dX1_build_21 : decode cX1_build 21 = .ok (.iconst 0, 1) := by decide +kernel
theorem dX1_build_22 : decode cX1_build 22 = .ok (.istore_n 2, 1) := by decide +kernel
theorem dX1_build_23 : decode cX1_build 23 = .ok (.iload_n 2, 1) := by decide +kernel
theorem dX1_build_24 : decode cX1_build 24 = .ok (.aload_n 0, 1) := by decide +kernel
theorem dX1_build_25 : decode cX1_build 25 = .ok (.getfield 35, 3) := by decide +kernel
theorem dX1_build_28 : decode cX1_build 28 = .ok (.if_icmp .ge 20, 3) := by decide +kernel
theorem dX1_build_31 : decode cX1_build 31 = .ok (.aload_n 0, 1) := by decide +kernel
theorem dX1_build_32 : decode cX1_build 32 = .ok (.getfield 11, 3) := by decide +kernel
theorem dX1_build_35 : decode cX1_build 35 = .ok (.iload_n 2, 1) := by decide +kernel
theorem dX1_build_36 : decode cX1_build 36 = .ok (.aload_n 1, 1) := by decide +kernel
theorem dX1_build_37 : decode cX1_build 37 = .ok (.iload_n 2, 1) := by decide +kernel
theorem dX1_build_38 : decode cX1_build 38 = .ok (.invokevirtual 37, 3) := by decide +kernel
theorem dX1_build_41 : decode cX1_build 41 = .ok (.aastore, 1) := by decide +kernel
theorem dX1_build_42 : decode cX1_build 42 = .ok (.iinc 2 1, 3) := by decide +kernel
theorem dX1_build_45 : decode cX1_build 45 = .ok (.goto (-22), 3) := by decide +kernel
theorem dX1_build_48 : decode cX1_build 48 = .ok (.return_, 1) := by decide +kernel
theorem dX1_hasRoom_0 : decode cX1_hasRoom 0 = .ok (.iload_n 1, 1) := by decide +kernel
theorem dX1_hasRoom_1 : decode cX1_hasRoom 1 = .ok (.ifCond .lt 15, 3) := by decide +kernel
theorem dX1_hasRoom_4 : decode cX1_hasRoom 4 = .ok (.iload_n 1, 1) := by decide +kernel
theorem dX1_hasRoom_5 : decode cX1_hasRoom 5 = .ok (.aload_n 0, 1) := by decide +kernel
theorem dX1_hasRoom_6 : decode cX1_hasRoom 6 = .ok (.getfield 23, 3) := by decide +kernel
theorem dX1_hasRoom_9 : decode cX1_hasRoom 9 = .ok (.if_icmp .ge 7, 3) := by decide +kernel
theorem dX1_hasRoom_12 : decode cX1_hasRoom 12 = .ok (.iconst 1, 1) := by decide +kernel
theorem dX1_hasRoom_13 : decode cX1_hasRoom 13 = .ok (.goto 4, 3) := by decide +kernel
theorem dX1_hasRoom_16 : decode cX1_hasRoom 16 = .ok (.iconst 0, 1) := by decide +kernel
theorem dX1_hasRoom_17 : decode cX1_hasRoom 17 = .ok (.ireturn, 1) := by decide +kernel
theorem dX1_hasDoor_0 : decode cX1_hasDoor 0 = .ok (.iload_n 1, 1) := by decide +kernel
theorem dX1_hasDoor_1 : decode cX1_hasDoor 1 = .ok (.ifCond .lt 15, 3) := by decide +kernel
theorem dX1_hasDoor_4 : decode cX1_hasDoor 4 = .ok (.iload_n 1, 1) := by decide +kernel
theorem dX1_hasDoor_5 : decode cX1_hasDoor 5 = .ok (.aload_n 0, 1) := by decide +kernel
theorem dX1_hasDoor_6 : decode cX1_hasDoor 6 = .ok (.getfield 35, 3) := by decide +kernel
theorem dX1_hasDoor_9 : decode cX1_hasDoor 9 = .ok (.if_icmp .ge 7, 3) := by decide +kernel
theorem dX1_hasDoor_12 : decode cX1_hasDoor 12 = .ok (.iconst 1, 1) := by decide +kernel
theorem dX1_hasDoor_13 : decode cX1_hasDoor 13 = .ok (.goto 4, 3) := by decide +kernel
theorem dX1_hasDoor_16 : decode cX1_hasDoor 16 = .ok (.iconst 0, 1) := by decide +kernel
theorem dX1_hasDoor_17 : decode cX1_hasDoor 17 = .ok (.ireturn, 1) := by decide +kernel
theorem dX1_reachOf_0 : decode cX1_reachOf 0 = .ok (.iconst 1, 1) := by decide +kernel
theorem dX1_reachOf_1 : decode cX1_reachOf 1 = .ok (.iload_n 2, 1) := by decide +kernel
theorem dX1_reachOf_2 : decode cX1_reachOf 2 = .ok (.ishl, 1) := by decide +kernel
theorem dX1_reachOf_3 : decode cX1_reachOf 3 = .ok (.istore_n 3, 1) := by decide +kernel
theorem dX1_reachOf_4 : decode cX1_reachOf 4 = .ok (.iconst 0, 1) := by decide +kernel
theorem dX1_reachOf_5 : decode cX1_reachOf 5 = .ok (.istore 4, 2) := by decide +kernel
theorem dX1_reachOf_7 : decode cX1_reachOf 7 = .ok (.iload 4, 2) := by decide +kernel
theorem dX1_reachOf_9 : decode cX1_reachOf 9 = .ok (.aload_n 0, 1) := by decide +kernel
theorem dX1_reachOf_10 : decode cX1_reachOf 10 = .ok (.getfield 23, 3) := by decide +kernel
theorem dX1_reachOf_13 : decode cX1_reachOf 13 = .ok (.if_icmp .ge 88, 3) := by decide +kernel
theorem dX1_reachOf_16 : decode cX1_reachOf 16 = .ok (.iload_n 3, 1) := by decide +kernel
theorem dX1_reachOf_17 : decode cX1_reachOf 17 = .ok (.istore 5, 2) := by decide +kernel
theorem dX1_reachOf_19 : decode cX1_reachOf 19 = .ok (.iconst 0, 1) := by decide +kernel
theorem dX1_reachOf_20 : decode cX1_reachOf 20 = .ok (.istore 6, 2) := by decide +kernel
theorem dX1_reachOf_22 : decode cX1_reachOf 22 = .ok (.iload 6, 2) := by decide +kernel
theorem dX1_reachOf_24 : decode cX1_reachOf 24 = .ok (.aload_n 0, 1) := by decide +kernel
theorem dX1_reachOf_25 : decode cX1_reachOf 25 = .ok (.getfield 35, 3) := by decide +kernel
theorem dX1_reachOf_28 : decode cX1_reachOf 28 = .ok (.if_icmp .ge 59, 3) := by decide +kernel
theorem dX1_reachOf_31 : decode cX1_reachOf 31 = .ok (.iload_n 3, 1) := by decide +kernel
theorem dX1_reachOf_32 : decode cX1_reachOf 32 = .ok (.aload_n 0, 1) := by decide +kernel
theorem dX1_reachOf_33 : decode cX1_reachOf 33 = .ok (.getfield 11, 3) := by decide +kernel
theorem dX1_reachOf_36 : decode cX1_reachOf 36 = .ok (.iload 6, 2) := by decide +kernel
theorem dX1_reachOf_38 : decode cX1_reachOf 38 = .ok (.aaload, 1) := by decide +kernel
theorem dX1_reachOf_39 : decode cX1_reachOf 39 = .ok (.aload_n 0, 1) := by decide +kernel
theorem dX1_reachOf_40 : decode cX1_reachOf 40 = .ok (.getfield 11, 3) := by decide +kernel
theorem dX1_reachOf_43 : decode cX1_reachOf 43 = .ok (.iload 6, 2) := by decide +kernel
theorem dX1_reachOf_45 : decode cX1_reachOf 45 = .ok (.aaload, 1) := by decide +kernel
theorem dX1_reachOf_46 : decode cX1_reachOf 46 = .ok (.getfield 41, 3) := by decide +kernel
theorem dX1_reachOf_49 : decode cX1_reachOf 49 = .ok (.iload_n 1, 1) := by decide +kernel
theorem dX1_reachOf_50 : decode cX1_reachOf 50 = .ok (.iload_n 3, 1) := by decide +kernel
theorem dX1_reachOf_51 : decode cX1_reachOf 51 = .ok (.invokestatic 44, 3) := by decide +kernel
theorem dX1_reachOf_54 : decode cX1_reachOf 54 = .ok (.ior, 1) := by decide +kernel
theorem dX1_reachOf_55 : decode cX1_reachOf 55 = .ok (.istore_n 3, 1) := by decide +kernel
theorem dX1_reachOf_56 : decode cX1_reachOf 56 = .ok (.iload_n 3, 1) := by decide +kernel
theorem dX1_reachOf_57 : decode cX1_reachOf 57 = .ok (.aload_n 0, 1) := by decide +kernel
theorem dX1_reachOf_58 : decode cX1_reachOf 58 = .ok (.getfield 11, 3) := by decide +kernel
theorem dX1_reachOf_61 : decode cX1_reachOf 61 = .ok (.iload 6, 2) := by decide +kernel
theorem dX1_reachOf_63 : decode cX1_reachOf 63 = .ok (.aaload, 1) := by decide +kernel
theorem dX1_reachOf_64 : decode cX1_reachOf 64 = .ok (.aload_n 0, 1) := by decide +kernel
theorem dX1_reachOf_65 : decode cX1_reachOf 65 = .ok (.getfield 11, 3) := by decide +kernel
theorem dX1_reachOf_68 : decode cX1_reachOf 68 = .ok (.iload 6, 2) := by decide +kernel
theorem dX1_reachOf_70 : decode cX1_reachOf 70 = .ok (.aaload, 1) := by decide +kernel
theorem dX1_reachOf_71 : decode cX1_reachOf 71 = .ok (.getfield 48, 3) := by decide +kernel
theorem dX1_reachOf_74 : decode cX1_reachOf 74 = .ok (.iload_n 1, 1) := by decide +kernel
theorem dX1_reachOf_75 : decode cX1_reachOf 75 = .ok (.iload_n 3, 1) := by decide +kernel
theorem dX1_reachOf_76 : decode cX1_reachOf 76 = .ok (.invokestatic 44, 3) := by decide +kernel
theorem dX1_reachOf_79 : decode cX1_reachOf 79 = .ok (.ior, 1) := by decide +kernel
theorem dX1_reachOf_80 : decode cX1_reachOf 80 = .ok (.istore_n 3, 1) := by decide +kernel
theorem dX1_reachOf_81 : decode cX1_reachOf 81 = .ok (.iinc 6 1, 3) := by decide +kernel
theorem dX1_reachOf_84 : decode cX1_reachOf 84 = .ok (.goto (-62), 3) := by decide +kernel
theorem dX1_reachOf_87 : decode cX1_reachOf 87 = .ok (.iload_n 3, 1) := by decide +kernel
theorem dX1_reachOf_88 : decode cX1_reachOf 88 = .ok (.iload 5, 2) := by decide +kernel
theorem dX1_reachOf_90 : decode cX1_reachOf 90 = .ok (.if_icmp .ne 5, 3) := by decide +kernel
theorem dX1_reachOf_93 : decode cX1_reachOf 93 = .ok (.iload_n 3, 1) := by decide +kernel
theorem dX1_reachOf_94 : decode cX1_reachOf 94 = .ok (.ireturn, 1) := by decide +kernel
theorem dX1_reachOf_95 : decode cX1_reachOf 95 = .ok (.iinc 4 1, 3) := by decide +kernel
theorem dX1_reachOf_98 : decode cX1_reachOf 98 = .ok (.goto (-91), 3) := by decide +kernel
theorem dX1_reachOf_101 : decode cX1_reachOf 101 = .ok (.iload_n 3, 1) := by decide +kernel
theorem dX1_reachOf_102 : decode cX1_reachOf 102 = .ok (.ireturn, 1) := by decide +kernel
theorem dX1_reaches_0 : decode cX1_reaches 0 = .ok (.aload_n 0, 1) := by decide +kernel
theorem dX1_reaches_1 : decode cX1_reaches 1 = .ok (.iload_n 1, 1) := by decide +kernel
theorem dX1_reaches_2 : decode cX1_reaches 2 = .ok (.iload_n 2, 1) := by decide +kernel
theorem dX1_reaches_3 : decode cX1_reaches 3 = .ok (.invokevirtual 51, 3) := by decide +kernel
theorem dX1_reaches_6 : decode cX1_reaches 6 = .ok (.iconst 1, 1) := by decide +kernel
theorem dX1_reaches_7 : decode cX1_reaches 7 = .ok (.iload_n 3, 1) := by decide +kernel
theorem dX1_reaches_8 : decode cX1_reaches 8 = .ok (.ishl, 1) := by decide +kernel
theorem dX1_reaches_9 : decode cX1_reaches 9 = .ok (.iand, 1) := by decide +kernel
theorem dX1_reaches_10 : decode cX1_reaches 10 = .ok (.ifCond .eq 7, 3) := by decide +kernel
theorem dX1_reaches_13 : decode cX1_reaches 13 = .ok (.iconst 1, 1) := by decide +kernel
theorem dX1_reaches_14 : decode cX1_reaches 14 = .ok (.goto 4, 3) := by decide +kernel
theorem dX1_reaches_17 : decode cX1_reaches 17 = .ok (.iconst 0, 1) := by decide +kernel
theorem dX1_reaches_18 : decode cX1_reaches 18 = .ok (.ireturn, 1) := by decide +kernel
theorem dX1_through_0 : decode cX1_through 0 = .ok (.aload_n 0, 1) := by decide +kernel
theorem dX1_through_1 : decode cX1_through 1 = .ok (.iload_n 1, 1) := by decide +kernel
theorem dX1_through_2 : decode cX1_through 2 = .ok (.iload_n 2, 1) := by decide +kernel
theorem dX1_through_3 : decode cX1_through 3 = .ok (.invokevirtual 54, 3) := by decide +kernel
theorem dX1_through_6 : decode cX1_through 6 = .ok (.istore 4, 2) := by decide +kernel
theorem dX1_through_8 : decode cX1_through 8 = .ok (.iload_n 3, 1) := by decide +kernel
theorem dX1_through_9 : decode cX1_through 9 = .ok (.iconst 1, 1) := by decide +kernel
theorem dX1_through_10 : decode cX1_through 10 = .ok (.iload_n 1, 1) := by decide +kernel
theorem dX1_through_11 : decode cX1_through 11 = .ok (.ishl, 1) := by decide +kernel
theorem dX1_through_12 : decode cX1_through 12 = .ok (.iand, 1) := by decide +kernel
theorem dX1_through_13 : decode cX1_through 13 = .ok (.ifCond .eq 9, 3) := by decide +kernel
theorem dX1_through_16 : decode cX1_through 16 = .ok (.iload 4, 2) := by decide +kernel
theorem dX1_through_18 : decode cX1_through 18 = .ok (.iconst (-1), 1) := by decide +kernel
theorem dX1_through_19 : decode cX1_through 19 = .ok (.if_icmp .ne 7, 3) := by decide +kernel
theorem dX1_through_22 : decode cX1_through 22 = .ok (.iconst 0, 1) := by decide +kernel
theorem dX1_through_23 : decode cX1_through 23 = .ok (.goto 7, 3) := by decide +kernel
theorem dX1_through_26 : decode cX1_through 26 = .ok (.iconst 1, 1) := by decide +kernel
theorem dX1_through_27 : decode cX1_through 27 = .ok (.iload 4, 2) := by decide +kernel
theorem dX1_through_29 : decode cX1_through 29 = .ok (.ishl, 1) := by decide +kernel
theorem dX1_through_30 : decode cX1_through 30 = .ok (.ireturn, 1) := by decide +kernel
theorem dX2_init_0 : decode cX2_init 0 = .ok (.aload_n 0, 1) := by decide +kernel
theorem dX2_init_1 : decode cX2_init 1 = .ok (.invokespecial 5, 3) := by decide +kernel
theorem dX2_init_4 : decode cX2_init 4 = .ok (.aload_n 0, 1) := by decide +kernel
theorem dX2_init_5 : decode cX2_init 5 = .ok (.sipush 14406, 3) := by decide +kernel
theorem dX2_init_8 : decode cX2_init 8 = .ok (.newarray .int, 2) := by decide +kernel
theorem dX2_init_10 : decode cX2_init 10 = .ok (.putfield 11, 3) := by decide +kernel
theorem dX2_init_13 : decode cX2_init 13 = .ok (.aload_n 0, 1) := by decide +kernel
theorem dX2_init_14 : decode cX2_init 14 = .ok (.sipush 14406, 3) := by decide +kernel
theorem dX2_init_17 : decode cX2_init 17 = .ok (.newarray .int, 2) := by decide +kernel
theorem dX2_init_19 : decode cX2_init 19 = .ok (.putfield 15, 3) := by decide +kernel
theorem dX2_init_22 : decode cX2_init 22 = .ok (.aload_n 0, 1) := by decide +kernel
theorem dX2_init_23 : decode cX2_init 23 = .ok (.sipush 384, 3) := by decide +kernel
theorem dX2_init_26 : decode cX2_init 26 = .ok (.newarray .long, 2) := by decide +kernel
theorem dX2_init_28 : decode cX2_init 28 = .ok (.putfield 18, 3) := by decide +kernel
theorem dX2_init_31 : decode cX2_init 31 = .ok (.aload_n 0, 1) := by decide +kernel
theorem dX2_init_32 : decode cX2_init 32 = .ok (.iconst 4, 1) := by decide +kernel
theorem dX2_init_33 : decode cX2_init 33 = .ok (.newarray .int, 2) := by decide +kernel
theorem dX2_init_35 : decode cX2_init 35 = .ok (.putfield 22, 3) := by decide +kernel
theorem dX2_init_38 : decode cX2_init 38 = .ok (.return_, 1) := by decide +kernel
theorem dX2_begin_0 : decode cX2_begin 0 = .ok (.aload_n 0, 1) := by decide +kernel
theorem dX2_begin_1 : decode cX2_begin 1 = .ok (.iload_n 1, 1) := by decide +kernel
theorem dX2_begin_2 : decode cX2_begin 2 = .ok (.putfield 25, 3) := by decide +kernel
theorem dX2_begin_5 : decode cX2_begin 5 = .ok (.aload_n 0, 1) := by decide +kernel
theorem dX2_begin_6 : decode cX2_begin 6 = .ok (.iload_n 2, 1) := by decide +kernel
theorem dX2_begin_7 : decode cX2_begin 7 = .ok (.bipush 12, 2) := by decide +kernel
theorem dX2_begin_9 : decode cX2_begin 9 = .ok (.ishl, 1) := by decide +kernel
theorem dX2_begin_10 : decode cX2_begin 10 = .ok (.putfield 29, 3) := by decide +kernel
theorem dX2_begin_13 : decode cX2_begin 13 = .ok (.iconst 0, 1) := by decide +kernel
theorem dX2_begin_14 : decode cX2_begin 14 = .ok (.istore_n 3, 1) := by decide +kernel
theorem dX2_begin_15 : decode cX2_begin 15 = .ok (.iload_n 3, 1) := by decide +kernel
theorem dX2_begin_16 : decode cX2_begin 16 = .ok (.iconst 4, 1) := by decide +kernel
theorem dX2_begin_17 : decode cX2_begin 17 = .ok (.if_icmp .ge 31, 3) := by decide +kernel
theorem dX2_begin_20 : decode cX2_begin 20 = .ok (.aload_n 0, 1) := by decide +kernel
theorem dX2_begin_21 : decode cX2_begin 21 = .ok (.dup, 1) := by decide +kernel
theorem dX2_begin_22 : decode cX2_begin 22 = .ok (.getfield 29, 3) := by decide +kernel
theorem dX2_begin_25 : decode cX2_begin 25 = .ok (.bipush 7, 2) := by decide +kernel
theorem dX2_begin_27 : decode cX2_begin 27 = .ok (.iconst 3, 1) := by decide +kernel
theorem dX2_begin_28 : decode cX2_begin 28 = .ok (.iload_n 3, 1) := by decide +kernel
theorem dX2_begin_29 : decode cX2_begin 29 = .ok (.imul, 1) := by decide +kernel
theorem dX2_begin_30 : decode cX2_begin 30 = .ok (.ishl, 1) := by decide +kernel
theorem dX2_begin_31 : decode cX2_begin 31 = .ok (.ior, 1) := by decide +kernel
theorem dX2_begin_32 : decode cX2_begin 32 = .ok (.putfield 29, 3) := by decide +kernel
theorem dX2_begin_35 : decode cX2_begin 35 = .ok (.aload_n 0, 1) := by decide +kernel
theorem dX2_begin_36 : decode cX2_begin 36 = .ok (.getfield 22, 3) := by decide +kernel
theorem dX2_begin_39 : decode cX2_begin 39 = .ok (.iload_n 3, 1) := by decide +kernel
theorem dX2_begin_40 : decode cX2_begin 40 = .ok (.iconst 0, 1) := by decide +kernel
theorem dX2_begin_41 : decode cX2_begin 41 = .ok (.iastore, 1) := by decide +kernel
theorem dX2_begin_42 : decode cX2_begin 42 = .ok (.iinc 3 1, 3) := by decide +kernel
theorem dX2_begin_45 : decode cX2_begin 45 = .ok (.goto (-30), 3) := by decide +kernel
theorem dX2_begin_48 : decode cX2_begin 48 = .ok (.return_, 1) := by decide +kernel
theorem dX2_setStone_0 : decode cX2_setStone 0 = .ok (.aload_n 0, 1) := by decide +kernel
theorem dX2_setStone_1 : decode cX2_setStone 1 = .ok (.getfield 22, 3) := by decide +kernel
theorem dX2_setStone_4 : decode cX2_setStone 4 = .ok (.iload_n 1, 1) := by decide +kernel
theorem dX2_setStone_5 : decode cX2_setStone 5 = .ok (.iload_n 2, 1) := by decide +kernel
theorem dX2_setStone_6 : decode cX2_setStone 6 = .ok (.iastore, 1) := by decide +kernel
theorem dX2_setStone_7 : decode cX2_setStone 7 = .ok (.aload_n 0, 1) := by decide +kernel
theorem dX2_setStone_8 : decode cX2_setStone 8 = .ok (.aload_n 0, 1) := by decide +kernel
theorem dX2_setStone_9 : decode cX2_setStone 9 = .ok (.getfield 29, 3) := by decide +kernel
theorem dX2_setStone_12 : decode cX2_setStone 12 = .ok (.iload_n 1, 1) := by decide +kernel
theorem dX2_setStone_13 : decode cX2_setStone 13 = .ok (.iload_n 3, 1) := by decide +kernel
theorem dX2_setStone_14 : decode cX2_setStone 14 = .ok (.invokestatic 32, 3) := by decide +kernel
theorem dX2_setStone_17 : decode cX2_setStone 17 = .ok (.putfield 29, 3) := by decide +kernel
theorem dX2_setStone_20 : decode cX2_setStone 20 = .ok (.return_, 1) := by decide +kernel
theorem dX2_finds_0 : decode cX2_finds 0 = .ok (.aload_n 0, 1) := by decide +kernel
theorem dX2_finds_1 : decode cX2_finds 1 = .ok (.iload_n 2, 1) := by decide +kernel
theorem dX2_finds_2 : decode cX2_finds 2 = .ok (.putfield 36, 3) := by decide +kernel
theorem dX2_finds_5 : decode cX2_finds 5 = .ok (.aload_n 0, 1) := by decide +kernel
theorem dX2_finds_6 : decode cX2_finds 6 = .ok (.iconst (-1), 1) := by decide +kernel
theorem dX2_finds_7 : decode cX2_finds 7 = .ok (.putfield 39, 3) := by decide +kernel
theorem dX2_finds_10 : decode cX2_finds 10 = .ok (.aload_n 0, 1) := by decide +kernel
theorem dX2_finds_11 : decode cX2_finds 11 = .ok (.iconst 0, 1) := by decide +kernel
theorem dX2_finds_12 : decode cX2_finds 12 = .ok (.putfield 42, 3) := by decide +kernel
theorem dX2_finds_15 : decode cX2_finds 15 = .ok (.aload_n 0, 1) := by decide +kernel
theorem dX2_finds_16 : decode cX2_finds 16 = .ok (.aload_n 0, 1) := by decide +kernel
theorem dX2_finds_17 : decode cX2_finds 17 = .ok (.getfield 29, 3) := by decide +kernel
theorem dX2_finds_20 : decode cX2_finds 20 = .ok (.iconst 0, 1) := by decide +kernel
theorem dX2_finds_21 : decode cX2_finds 21 = .ok (.iconst 0, 1) := by decide +kernel
theorem dX2_finds_22 : decode cX2_finds 22 = .ok (.invokevirtual 45, 3) := by decide +kernel
theorem dX2_finds_25 : decode cX2_finds 25 = .ok (.iconst 0, 1) := by decide +kernel
theorem dX2_finds_26 : decode cX2_finds 26 = .ok (.istore_n 3, 1) := by decide +kernel
theorem dX2_finds_27 : decode cX2_finds 27 = .ok (.iload_n 3, 1) := by decide +kernel
theorem dX2_finds_28 : decode cX2_finds 28 = .ok (.sipush 14406, 3) := by decide +kernel
theorem dX2_finds_31 : decode cX2_finds 31 = .ok (.if_icmp .ge 31, 3) := by decide +kernel
theorem dX2_finds_34 : decode cX2_finds 34 = .ok (.iload_n 3, 1) := by decide +kernel
theorem dX2_finds_35 : decode cX2_finds 35 = .ok (.aload_n 0, 1) := by decide +kernel
theorem dX2_finds_36 : decode cX2_finds 36 = .ok (.getfield 42, 3) := by decide +kernel
theorem dX2_finds_39 : decode cX2_finds 39 = .ok (.if_icmp .ge 23, 3) := by decide +kernel
theorem dX2_finds_42 : decode cX2_finds 42 = .ok (.aload_n 0, 1) := by decide +kernel
theorem dX2_finds_43 : decode cX2_finds 43 = .ok (.getfield 39, 3) := by decide +kernel
theorem dX2_finds_46 : decode cX2_finds 46 = .ok (.iconst (-1), 1) := by decide +kernel
theorem dX2_finds_47 : decode cX2_finds 47 = .ok (.if_icmp .ne 15, 3) := by decide +kernel
theorem dX2_finds_50 : decode cX2_finds 50 = .ok (.aload_n 0, 1) := by decide +kernel
theorem dX2_finds_51 : decode cX2_finds 51 = .ok (.aload_n 1, 1) := by decide +kernel
theorem dX2_finds_52 : decode cX2_finds 52 = .ok (.iload_n 3, 1) := by decide +kernel
theorem dX2_finds_53 : decode cX2_finds 53 = .ok (.invokevirtual 49, 3) := by decide +kernel
theorem dX2_finds_56 : decode cX2_finds 56 = .ok (.iinc 3 1, 3) := by decide +kernel
theorem dX2_finds_59 : decode cX2_finds 59 = .ok (.goto (-32), 3) := by decide +kernel
theorem dX2_finds_62 : decode cX2_finds 62 = .ok (.aload_n 0, 1) := by decide +kernel
theorem dX2_finds_63 : decode cX2_finds 63 = .ok (.invokevirtual 53, 3) := by decide +kernel
theorem dX2_finds_66 : decode cX2_finds 66 = .ok (.aload_n 0, 1) := by decide +kernel
theorem dX2_finds_67 : decode cX2_finds 67 = .ok (.getfield 39, 3) := by decide +kernel
theorem dX2_finds_70 : decode cX2_finds 70 = .ok (.iconst (-1), 1) := by decide +kernel
theorem dX2_finds_71 : decode cX2_finds 71 = .ok (.if_icmp .eq 7, 3) := by decide +kernel
theorem dX2_finds_74 : decode cX2_finds 74 = .ok (.iconst 1, 1) := by decide +kernel
theorem dX2_finds_75 : decode cX2_finds 75 = .ok (.goto 4, 3) := by decide +kernel
theorem dX2_finds_78 : decode cX2_finds 78 = .ok (.iconst 0, 1) := by decide +kernel
theorem dX2_finds_79 : decode cX2_finds 79 = .ok (.ireturn, 1) := by decide +kernel
theorem dX2_howManySteps_0 : decode cX2_howManySteps 0 = .ok (.iconst 0, 1) := by decide +kernel
theorem dX2_howManySteps_1 : decode cX2_howManySteps 1 = .ok (.istore_n 1, 1) := by decide +kernel
theorem dX2_howManySteps_2 : decode cX2_howManySteps 2 = .ok (.aload_n 0, 1) := by decide +kernel
theorem dX2_howManySteps_3 : decode cX2_howManySteps 3 = .ok (.getfield 39, 3) := by decide +kernel
theorem dX2_howManySteps_6 : decode cX2_howManySteps 6 = .ok (.istore_n 2, 1) := by decide +kernel
theorem dX2_howManySteps_7 : decode cX2_howManySteps 7 = .ok (.iload_n 2, 1) := by decide +kernel
theorem dX2_howManySteps_8 : decode cX2_howManySteps 8 = .ok (.ifCond .le 25, 3) := by decide +kernel
theorem dX2_howManySteps_11 : decode cX2_howManySteps 11 = .ok (.iload_n 1, 1) := by decide +kernel
theorem dX2_howManySteps_12 : decode cX2_howManySteps 12 = .ok (.sipush 14406, 3) := by decide +kernel
theorem dX2_howManySteps_15 : decode cX2_howManySteps 15 = .ok (.if_icmp .ge 18, 3) := by decide +kernel
theorem dX2_howManySteps_18 : decode cX2_howManySteps 18 = .ok (.iinc 1 1, 3) := by decide +kernel
theorem dX2_howManySteps_21 : decode cX2_howManySteps 21 = .ok (.aload_n 0, 1) := by decide +kernel
theorem dX2_howManySteps_22 : decode cX2_howManySteps 22 = .ok (.getfield 15, 3) := by decide +kernel
theorem dX2_howManySteps_25 : decode cX2_howManySteps 25 = .ok (.iload_n 2, 1) := by decide +kernel
theorem dX2_howManySteps_26 : decode cX2_howManySteps 26 = .ok (.iaload, 1) := by decide +kernel
theorem dX2_howManySteps_27 : decode cX2_howManySteps 27 = .ok (.iconst 5, 1) := by decide +kernel
theorem dX2_howManySteps_28 : decode cX2_howManySteps 28 = .ok (.ishr, 1) := by decide +kernel
theorem dX2_howManySteps_29 : decode cX2_howManySteps 29 = .ok (.istore_n 2, 1) := by decide +kernel
theorem dX2_howManySteps_30 : decode cX2_howManySteps 30 = .ok (.goto (-23), 3) := by decide +kernel
theorem dX2_howManySteps_33 : decode cX2_howManySteps 33 = .ok (.iload_n 1, 1) := by decide +kernel
theorem dX2_howManySteps_34 : decode cX2_howManySteps 34 = .ok (.ireturn, 1) := by decide +kernel
theorem dX2_stepAt_0 : decode cX2_stepAt 0 = .ok (.aload_n 0, 1) := by decide +kernel
theorem dX2_stepAt_1 : decode cX2_stepAt 1 = .ok (.invokevirtual 56, 3) := by decide +kernel
theorem dX2_stepAt_4 : decode cX2_stepAt 4 = .ok (.istore_n 2, 1) := by decide +kernel
theorem dX2_stepAt_5 : decode cX2_stepAt 5 = .ok (.iload_n 1, 1) := by decide +kernel
theorem dX2_stepAt_6 : decode cX2_stepAt 6 = .ok (.ifCond .lt 8, 3) := by decide +kernel
theorem dX2_stepAt_9 : decode cX2_stepAt 9 = .ok (.iload_n 1, 1) := by decide +kernel
theorem dX2_stepAt_10 : decode cX2_stepAt 10 = .ok (.iload_n 2, 1) := by decide +kernel
theorem dX2_stepAt_11 : decode cX2_stepAt 11 = .ok (.if_icmp .lt 6, 3) := by decide +kernel
theorem dX2_stepAt_14 : decode cX2_stepAt 14 = .ok (.bipush (-9), 2) := by decide +kernel
theorem dX2_stepAt_16 : decode cX2_stepAt 16 = .ok (.ireturn, 1) := by decide +kernel
theorem dX2_stepAt_17 : decode cX2_stepAt 17 = .ok (.aload_n 0, 1) := by decide +kernel
theorem dX2_stepAt_18 : decode cX2_stepAt 18 = .ok (.getfield 39, 3) := by decide +kernel
theorem dX2_stepAt_21 : decode cX2_stepAt 21 = .ok (.istore_n 3, 1) := by decide +kernel
theorem dX2_stepAt_22 : decode cX2_stepAt 22 = .ok (.iload_n 2, 1) := by decide +kernel
theorem dX2_stepAt_23 : decode cX2_stepAt 23 = .ok (.iconst 1, 1) := by decide +kernel
theorem dX2_stepAt_24 : decode cX2_stepAt 24 = .ok (.isub, 1) := by decide +kernel
theorem dX2_stepAt_25 : decode cX2_stepAt 25 = .ok (.istore 4, 2) := by decide +kernel
theorem dX2_stepAt_27 : decode cX2_stepAt 27 = .ok (.iload 4, 2) := by decide +kernel
theorem dX2_stepAt_29 : decode cX2_stepAt 29 = .ok (.iload_n 1, 1) := by decide +kernel
theorem dX2_stepAt_30 : decode cX2_stepAt 30 = .ok (.if_icmp .le 18, 3) := by decide +kernel
theorem dX2_stepAt_33 : decode cX2_stepAt 33 = .ok (.aload_n 0, 1) := by decide +kernel
theorem dX2_stepAt_34 : decode cX2_stepAt 34 = .ok (.getfield 15, 3) := by decide +kernel
theorem dX2_stepAt_37 : decode cX2_stepAt 37 = .ok (.iload_n 3, 1) := by decide +kernel
theorem dX2_stepAt_38 : decode cX2_stepAt 38 = .ok (.iaload, 1) := by decide +kernel
theorem dX2_stepAt_39 : decode cX2_stepAt 39 = .ok (.iconst 5, 1) := by decide +kernel
theorem dX2_stepAt_40 : decode cX2_stepAt 40 = .ok (.ishr, 1) := by decide +kernel
theorem dX2_stepAt_41 : decode cX2_stepAt 41 = .ok (.istore_n 3, 1) := by decide +kernel
theorem dX2_stepAt_42 : decode cX2_stepAt 42 = .ok (.iinc 4 (-1), 3) := by decide +kernel
theorem dX2_stepAt_45 : decode cX2_stepAt 45 = .ok (.goto (-18), 3) := by decide +kernel
theorem dX2_stepAt_48 : decode cX2_stepAt 48 = .ok (.aload_n 0, 1) := by decide +kernel
theorem dX2_stepAt_49 : decode cX2_stepAt 49 = .ok (.getfield 15, 3) := by decide +kernel
theorem dX2_stepAt_52 : decode cX2_stepAt 52 = .ok (.iload_n 3, 1) := by decide +kernel
theorem dX2_stepAt_53 : decode cX2_stepAt 53 = .ok (.iaload, 1) := by decide +kernel
theorem dX2_stepAt_54 : decode cX2_stepAt 54 = .ok (.bipush 31, 2) := by decide +kernel
theorem dX2_stepAt_56 : decode cX2_stepAt 56 = .ok (.iand, 1) := by decide +kernel
theorem dX2_stepAt_57 : decode cX2_stepAt 57 = .ok (.ireturn, 1) := by decide +kernel
theorem dX2_leaveBySteps_0 : decode cX2_leaveBySteps 0 = .ok (.aload_n 0, 1) := by decide +kernel
theorem dX2_leaveBySteps_1 : decode cX2_leaveBySteps 1 = .ok (.getfield 11, 3) := by decide +kernel
theorem dX2_leaveBySteps_4 : decode cX2_leaveBySteps 4 = .ok (.iload_n 2, 1) := by decide +kernel
theorem dX2_leaveBySteps_5 : decode cX2_leaveBySteps 5 = .ok (.iaload, 1) := by decide +kernel
theorem dX2_leaveBySteps_6 : decode cX2_leaveBySteps 6 = .ok (.istore_n 3, 1) := by decide +kernel
theorem dX2_leaveBySteps_7 : decode cX2_leaveBySteps 7 = .ok (.iload_n 3, 1) := by decide +kernel
theorem dX2_leaveBySteps_8 : decode cX2_leaveBySteps 8 = .ok (.bipush 12, 2) := by decide +kernel
theorem dX2_leaveBySteps_10 : decode cX2_leaveBySteps 10 = .ok (.ishr, 1) := by decide +kernel
theorem dX2_leaveBySteps_11 : decode cX2_leaveBySteps 11 = .ok (.istore 4, 2) := by decide +kernel
theorem dX2_leaveBySteps_13 : decode cX2_leaveBySteps 13 = .ok (.aload_n 0, 1) := by decide +kernel
theorem dX2_leaveBySteps_14 : decode cX2_leaveBySteps 14 = .ok (.getfield 25, 3) := by decide +kernel
theorem dX2_leaveBySteps_17 : decode cX2_leaveBySteps 17 = .ok (.istore 5, 2) := by decide +kernel
theorem dX2_leaveBySteps_19 : decode cX2_leaveBySteps 19 = .ok (.iconst 0, 1) := by decide +kernel
theorem dX2_leaveBySteps_20 : decode cX2_leaveBySteps 20 = .ok (.istore 6, 2) := by decide +kernel
theorem dX2_leaveBySteps_22 : decode cX2_leaveBySteps 22 = .ok (.iconst 0, 1) := by decide +kernel
theorem dX2_leaveBySteps_23 : decode cX2_leaveBySteps 23 = .ok (.istore 7, 2) := by decide +kernel
theorem dX2_leaveBySteps_25 : decode cX2_leaveBySteps 25 = .ok (.iload 7, 2) := by decide +kernel
theorem dX2_leaveBySteps_27 : decode cX2_leaveBySteps 27 = .ok (.iconst 4, 1) := by decide +kernel
theorem dX2_leaveBySteps_28 : decode cX2_leaveBySteps 28 = .ok (.if_icmp .ge 35, 3) := by decide +kernel
theorem dX2_leaveBySteps_31 : decode cX2_leaveBySteps 31 = .ok (.iload_n 3, 1) := by decide +kernel
theorem dX2_leaveBySteps_32 : decode cX2_leaveBySteps 32 = .ok (.iload 7, 2) := by decide +kernel
theorem dX2_leaveBySteps_34 : decode cX2_leaveBySteps 34 = .ok (.invokestatic 60, 3) := by decide +kernel
theorem dX2_leaveBySteps_37 : decode cX2_leaveBySteps 37 = .ok (.bipush 6, 2) := by decide +kernel
theorem dX2_leaveBySteps_39 : decode cX2_leaveBySteps 39 = .ok (.if_icmp .ne 18, 3) := by decide +kernel
theorem dX2_leaveBySteps_42 : decode cX2_leaveBySteps 42 = .ok (.iload 5, 2) := by decide +kernel
theorem dX2_leaveBySteps_44 : decode cX2_leaveBySteps 44 = .ok (.aload_n 0, 1) := by decide +kernel
theorem dX2_leaveBySteps_45 : decode cX2_leaveBySteps 45 = .ok (.getfield 22, 3) := by decide +kernel
theorem dX2_leaveBySteps_48 : decode cX2_leaveBySteps 48 = .ok (.iload 7, 2) := by decide +kernel
theorem dX2_leaveBySteps_50 : decode cX2_leaveBySteps 50 = .ok (.iaload, 1) := by decide +kernel
theorem dX2_leaveBySteps_51 : decode cX2_leaveBySteps 51 = .ok (.iadd, 1) := by decide +kernel
theorem dX2_leaveBySteps_52 : decode cX2_leaveBySteps 52 = .ok (.istore 5, 2) := by decide +kernel
theorem dX2_leaveBySteps_54 : decode cX2_leaveBySteps 54 = .ok (.iinc 6 1, 3) := by decide +kernel
theorem dX2_leaveBySteps_57 : decode cX2_leaveBySteps 57 = .ok (.iinc 7 1, 3) := by decide +kernel
theorem dX2_leaveBySteps_60 : decode cX2_leaveBySteps 60 = .ok (.goto (-35), 3) := by decide +kernel
theorem dX2_leaveBySteps_63 : decode cX2_leaveBySteps 63 = .ok (.iconst 0, 1) := by decide +kernel
theorem dX2_leaveBySteps_64 : decode cX2_leaveBySteps 64 = .ok (.istore 7, 2) := by decide +kernel
theorem dX2_leaveBySteps_66 : decode cX2_leaveBySteps 66 = .ok (.iload 7, 2) := by decide +kernel
theorem dX2_leaveBySteps_68 : decode cX2_leaveBySteps 68 = .ok (.iconst 4, 1) := by decide +kernel
theorem dX2_leaveBySteps_69 : decode cX2_leaveBySteps 69 = .ok (.if_icmp .ge 41, 3) := by decide +kernel
theorem dX2_leaveBySteps_72 : decode cX2_leaveBySteps 72 = .ok (.iload 6, 2) := by decide +kernel
theorem dX2_leaveBySteps_74 : decode cX2_leaveBySteps 74 = .ok (.iconst 2, 1) := by decide +kernel
theorem dX2_leaveBySteps_75 : decode cX2_leaveBySteps 75 = .ok (.if_icmp .ge 35, 3) := by decide +kernel
theorem dX2_leaveBySteps_78 : decode cX2_leaveBySteps 78 = .ok (.iload_n 3, 1) := by decide +kernel
theorem dX2_leaveBySteps_79 : decode cX2_leaveBySteps 79 = .ok (.iload 7, 2) := by decide +kernel
theorem dX2_leaveBySteps_81 : decode cX2_leaveBySteps 81 = .ok (.invokestatic 60, 3) := by decide +kernel
theorem dX2_leaveBySteps_84 : decode cX2_leaveBySteps 84 = .ok (.iload 4, 2) := by decide +kernel
theorem dX2_leaveBySteps_86 : decode cX2_leaveBySteps 86 = .ok (.if_icmp .ne 18, 3) := by decide +kernel
theorem dX2_leaveBySteps_89 : decode cX2_leaveBySteps 89 = .ok (.aload_n 0, 1) := by decide +kernel
theorem dX2_leaveBySteps_90 : decode cX2_leaveBySteps 90 = .ok (.iload_n 3, 1) := by decide +kernel
theorem dX2_leaveBySteps_91 : decode cX2_leaveBySteps 91 = .ok (.iload 7, 2) := by decide +kernel
theorem dX2_leaveBySteps_93 : decode cX2_leaveBySteps 93 = .ok (.bipush 6, 2) := by decide +kernel
theorem dX2_leaveBySteps_95 : decode cX2_leaveBySteps 95 = .ok (.invokestatic 32, 3) := by decide +kernel
theorem dX2_leaveBySteps_98 : decode cX2_leaveBySteps 98 = .ok (.iload_n 2, 1) := by decide +kernel
theorem dX2_leaveBySteps_99 : decode cX2_leaveBySteps 99 = .ok (.iload 7, 2) := by decide +kernel
theorem dX2_leaveBySteps_101 : decode cX2_leaveBySteps 101 = .ok (.invokevirtual 45, 3) := by decide +kernel
theorem dX2_leaveBySteps_104 : decode cX2_leaveBySteps 104 = .ok (.iinc 7 1, 3) := by decide +kernel
theorem dX2_leaveBySteps_107 : decode cX2_leaveBySteps 107 = .ok (.goto (-41), 3) := by decide +kernel
theorem dX2_leaveBySteps_110 : decode cX2_leaveBySteps 110 = .ok (.iconst 0, 1) := by decide +kernel
theorem dX2_leaveBySteps_111 : decode cX2_leaveBySteps 111 = .ok (.istore 7, 2) := by decide +kernel
theorem dX2_leaveBySteps_113 : decode cX2_leaveBySteps 113 = .ok (.iload 7, 2) := by decide +kernel
theorem dX2_leaveBySteps_115 : decode cX2_leaveBySteps 115 = .ok (.iconst 4, 1) := by decide +kernel
theorem dX2_leaveBySteps_116 : decode cX2_leaveBySteps 116 = .ok (.if_icmp .ge 43, 3) := by decide +kernel
theorem dX2_leaveBySteps_119 : decode cX2_leaveBySteps 119 = .ok (.iload 6, 2) := by decide +kernel
theorem dX2_leaveBySteps_121 : decode cX2_leaveBySteps 121 = .ok (.ifCond .le 38, 3) := by decide +kernel
theorem dX2_leaveBySteps_124 : decode cX2_leaveBySteps 124 = .ok (.iload_n 3, 1) := by decide +kernel
theorem dX2_leaveBySteps_125 : decode cX2_leaveBySteps 125 = .ok (.iload 7, 2) := by decide +kernel
theorem dX2_leaveBySteps_127 : decode cX2_leaveBySteps 127 = .ok (.invokestatic 60, 3) := by decide +kernel
theorem dX2_leaveBySteps_130 : decode cX2_leaveBySteps 130 = .ok (.bipush 6, 2) := by decide +kernel
theorem dX2_leaveBySteps_132 : decode cX2_leaveBySteps 132 = .ok (.if_icmp .ne 21, 3) := by decide +kernel
theorem dX2_leaveBySteps_135 : decode cX2_leaveBySteps 135 = .ok (.aload_n 0, 1) := by decide +kernel
theorem dX2_leaveBySteps_136 : decode cX2_leaveBySteps 136 = .ok (.iload_n 3, 1) := by decide +kernel
theorem dX2_leaveBySteps_137 : decode cX2_leaveBySteps 137 = .ok (.iload 7, 2) := by decide +kernel
theorem dX2_leaveBySteps_139 : decode cX2_leaveBySteps 139 = .ok (.iload 4, 2) := by decide +kernel
theorem dX2_leaveBySteps_141 : decode cX2_leaveBySteps 141 = .ok (.invokestatic 32, 3) := by decide +kernel
theorem dX2_leaveBySteps_144 : decode cX2_leaveBySteps 144 = .ok (.iload_n 2, 1) := by decide +kernel
theorem dX2_leaveBySteps_145 : decode cX2_leaveBySteps 145 = .ok (.bipush 10, 2) := by decide +kernel
theorem dX2_leaveBySteps_147 : decode cX2_leaveBySteps 147 = .ok (.iload 7, 2) := by decide +kernel
theorem dX2_leaveBySteps_149 : decode cX2_leaveBySteps 149 = .ok (.iadd, 1) := by decide +kernel
theorem dX2_leaveBySteps_150 : decode cX2_leaveBySteps 150 = .ok (.invokevirtual 45, 3) := by decide +kernel
theorem dX2_leaveBySteps_153 : decode cX2_leaveBySteps 153 = .ok (.iinc 7 1, 3) := by decide +kernel
theorem dX2_leaveBySteps_156 : decode cX2_leaveBySteps 156 = .ok (.goto (-43), 3) := by decide +kernel
theorem dX2_leaveBySteps_159 : decode cX2_leaveBySteps 159 = .ok (.iconst 0, 1) := by decide +kernel
theorem dX2_leaveBySteps_160 : decode cX2_leaveBySteps 160 = .ok (.istore 7, 2) := by decide +kernel
theorem dX2_leaveBySteps_162 : decode cX2_leaveBySteps 162 = .ok (.iload 7, 2) := by decide +kernel
theorem dX2_leaveBySteps_164 : decode cX2_leaveBySteps 164 = .ok (.aload_n 1, 1) := by decide +kernel
theorem dX2_leaveBySteps_165 : decode cX2_leaveBySteps 165 = .ok (.getfield 64, 3) := by decide +kernel
theorem dX2_leaveBySteps_168 : decode cX2_leaveBySteps 168 = .ok (.if_icmp .ge 51, 3) := by decide +kernel
theorem dX2_leaveBySteps_171 : decode cX2_leaveBySteps 171 = .ok (.aload_n 1, 1) := by decide +kernel
theorem dX2_leaveBySteps_172 : decode cX2_leaveBySteps 172 = .ok (.getfield 69, 3) := by decide +kernel
theorem dX2_leaveBySteps_175 : decode cX2_leaveBySteps 175 = .ok (.iload 7, 2) := by decide +kernel
theorem dX2_leaveBySteps_177 : decode cX2_leaveBySteps 177 = .ok (.aaload, 1) := by decide +kernel
theorem dX2_leaveBySteps_178 : decode cX2_leaveBySteps 178 = .ok (.iload 4, 2) := by decide +kernel
theorem dX2_leaveBySteps_180 : decode cX2_leaveBySteps 180 = .ok (.iload 5, 2) := by decide +kernel
theorem dX2_leaveBySteps_182 : decode cX2_leaveBySteps 182 = .ok (.invokevirtual 73, 3) := by decide +kernel
theorem dX2_leaveBySteps_185 : decode cX2_leaveBySteps 185 = .ok (.istore 8, 2) := by decide +kernel
theorem dX2_leaveBySteps_187 : decode cX2_leaveBySteps 187 = .ok (.iload 8, 2) := by decide +kernel
theorem dX2_leaveBySteps_189 : decode cX2_leaveBySteps 189 = .ok (.iconst (-1), 1) := by decide +kernel
theorem dX2_leaveBySteps_190 : decode cX2_leaveBySteps 190 = .ok (.if_icmp .eq 23, 3) := by decide +kernel
theorem dX2_leaveBySteps_193 : decode cX2_leaveBySteps 193 = .ok (.aload_n 0, 1) := by decide +kernel
theorem dX2_leaveBySteps_194 : decode cX2_leaveBySteps 194 = .ok (.iload_n 3, 1) := by decide +kernel
theorem dX2_leaveBySteps_195 : decode cX2_leaveBySteps 195 = .ok (.iload 8, 2) := by decide +kernel
theorem dX2_leaveBySteps_197 : decode cX2_leaveBySteps 197 = .ok (.iload 4, 2) := by decide +kernel
theorem dX2_leaveBySteps_199 : decode cX2_leaveBySteps 199 = .ok (.isub, 1) := by decide +kernel
theorem dX2_leaveBySteps_200 : decode cX2_leaveBySteps 200 = .ok (.bipush 12, 2) := by decide +kernel
theorem dX2_leaveBySteps_202 : decode cX2_leaveBySteps 202 = .ok (.ishl, 1) := by decide +kernel
theorem dX2_leaveBySteps_203 : decode cX2_leaveBySteps 203 = .ok (.iadd, 1) := by decide +kernel
theorem dX2_leaveBySteps_204 : decode cX2_leaveBySteps 204 = .ok (.iload_n 2, 1) := by decide +kernel
theorem dX2_leaveBySteps_205 : decode cX2_leaveBySteps 205 = .ok (.bipush 20, 2) := by decide +kernel
theorem dX2_leaveBySteps_207 : decode cX2_leaveBySteps 207 = .ok (.iload 7, 2) := by decide +kernel
theorem dX2_leaveBySteps_209 : decode cX2_leaveBySteps 209 = .ok (.iadd, 1) := by decide +kernel
theorem dX2_leaveBySteps_210 : decode cX2_leaveBySteps 210 = .ok (.invokevirtual 45, 3) := by decide +kernel
theorem dX2_leaveBySteps_213 : decode cX2_leaveBySteps 213 = .ok (.iinc 7 1, 3) := by decide +kernel
theorem dX2_leaveBySteps_216 : decode cX2_leaveBySteps 216 = .ok (.goto (-54), 3) := by decide +kernel
theorem dX2_leaveBySteps_219 : decode cX2_leaveBySteps 219 = .ok (.return_, 1) := by decide +kernel
theorem dX2_meet_0 : decode cX2_meet 0 = .ok (.lconst 1, 1) := by decide +kernel
theorem dX2_meet_1 : decode cX2_meet 1 = .ok (.iload_n 1, 1) := by decide +kernel
theorem dX2_meet_2 : decode cX2_meet 2 = .ok (.bipush 64, 2) := by decide +kernel
theorem dX2_meet_4 : decode cX2_meet 4 = .ok (.irem, 1) := by decide +kernel
theorem dX2_meet_5 : decode cX2_meet 5 = .ok (.lshl, 1) := by decide +kernel
theorem dX2_meet_6 : decode cX2_meet 6 = .ok (.lstore 4, 2) := by decide +kernel
theorem dX2_meet_8 : decode cX2_meet 8 = .ok (.aload_n 0, 1) := by decide +kernel
theorem dX2_meet_9 : decode cX2_meet 9 = .ok (.getfield 18, 3) := by decide +kernel
theorem dX2_meet_12 : decode cX2_meet 12 = .ok (.iload_n 1, 1) := by decide +kernel
theorem dX2_meet_13 : decode cX2_meet 13 = .ok (.bipush 64, 2) := by decide +kernel
theorem dX2_meet_15 : decode cX2_meet 15 = .ok (.idiv, 1) := by decide +kernel
theorem dX2_meet_16 : decode cX2_meet 16 = .ok (.laload, 1) := by decide +kernel
theorem dX2_meet_17 : decode cX2_meet 17 = .ok (.lload 4, 2) := by decide +kernel
theorem dX2_meet_19 : decode cX2_meet 19 = .ok (.land, 1) := by decide +kernel
theorem dX2_meet_20 : decode cX2_meet 20 = .ok (.lconst 0, 1) := by decide +kernel
theorem dX2_meet_21 : decode cX2_meet 21 = .ok (.lcmp, 1) := by decide +kernel
theorem dX2_meet_22 : decode cX2_meet 22 = .ok (.ifCond .ne 13, 3) := by decide +kernel
theorem dX2_meet_25 : decode cX2_meet 25 = .ok (.aload_n 0, 1) := by decide +kernel
theorem dX2_meet_26 : decode cX2_meet 26 = .ok (.getfield 42, 3) := by decide +kernel
theorem dX2_meet_29 : decode cX2_meet 29 = .ok (.sipush 14406, 3) := by decide +kernel
theorem dX2_meet_32 : decode cX2_meet 32 = .ok (.if_icmp .lt 4, 3) := by decide +kernel
theorem dX2_meet_35 : decode cX2_meet 35 = .ok (.return_, 1) := by decide +kernel
theorem dX2_meet_36 : decode cX2_meet 36 = .ok (.aload_n 0, 1) := by decide +kernel
theorem dX2_meet_37 : decode cX2_meet 37 = .ok (.getfield 18, 3) := by decide +kernel
theorem dX2_meet_40 : decode cX2_meet 40 = .ok (.iload_n 1, 1) := by decide +kernel
theorem dX2_meet_41 : decode cX2_meet 41 = .ok (.bipush 64, 2) := by decide +kernel
theorem dX2_meet_43 : decode cX2_meet 43 = .ok (.idiv, 1) := by decide +kernel
theorem dX2_meet_44 : decode cX2_meet 44 = .ok (.dup2, 1) := by decide +kernel
theorem dX2_meet_45 : decode cX2_meet 45 = .ok (.laload, 1) := by decide +kernel
theorem dX2_meet_46 : decode cX2_meet 46 = .ok (.lload 4, 2) := by decide +kernel
theorem dX2_meet_48 : decode cX2_meet 48 = .ok (.lor, 1) := by decide +kernel
theorem dX2_meet_49 : decode cX2_meet 49 = .ok (.lastore, 1) := by decide +kernel
theorem dX2_meet_50 : decode cX2_meet 50 = .ok (.aload_n 0, 1) := by decide +kernel
theorem dX2_meet_51 : decode cX2_meet 51 = .ok (.getfield 11, 3) := by decide +kernel
theorem dX2_meet_54 : decode cX2_meet 54 = .ok (.aload_n 0, 1) := by decide +kernel
theorem dX2_meet_55 : decode cX2_meet 55 = .ok (.getfield 42, 3) := by decide +kernel
theorem dX2_meet_58 : decode cX2_meet 58 = .ok (.iload_n 1, 1) := by decide +kernel
theorem dX2_meet_59 : decode cX2_meet 59 = .ok (.iastore, 1) := by decide +kernel
theorem dX2_meet_60 : decode cX2_meet 60 = .ok (.aload_n 0, 1) := by decide +kernel
theorem dX2_meet_61 : decode cX2_meet 61 = .ok (.getfield 15, 3) := by decide +kernel
theorem dX2_meet_64 : decode cX2_meet 64 = .ok (.aload_n 0, 1) := by decide +kernel
theorem dX2_meet_65 : decode cX2_meet 65 = .ok (.getfield 42, 3) := by decide +kernel
theorem dX2_meet_68 : decode cX2_meet 68 = .ok (.iload_n 2, 1) := by decide +kernel
theorem dX2_meet_69 : decode cX2_meet 69 = .ok (.iconst 5, 1) := by decide +kernel
theorem dX2_meet_70 : decode cX2_meet 70 = .ok (.ishl, 1) := by decide +kernel
theorem dX2_meet_71 : decode cX2_meet 71 = .ok (.iload_n 3, 1) := by decide +kernel
theorem dX2_meet_72 : decode cX2_meet 72 = .ok (.ior, 1) := by decide +kernel
theorem dX2_meet_73 : decode cX2_meet 73 = .ok (.iastore, 1) := by decide +kernel
theorem dX2_meet_74 : decode cX2_meet 74 = .ok (.aload_n 0, 1) := by decide +kernel
theorem dX2_meet_75 : decode cX2_meet 75 = .ok (.getfield 39, 3) := by decide +kernel
theorem dX2_meet_78 : decode cX2_meet 78 = .ok (.iconst (-1), 1) := by decide +kernel
theorem dX2_meet_79 : decode cX2_meet 79 = .ok (.if_icmp .ne 22, 3) := by decide +kernel
theorem dX2_meet_82 : decode cX2_meet 82 = .ok (.iload_n 1, 1) := by decide +kernel
theorem dX2_meet_83 : decode cX2_meet 83 = .ok (.bipush 12, 2) := by decide +kernel
theorem dX2_meet_85 : decode cX2_meet 85 = .ok (.ishr, 1) := by decide +kernel
theorem dX2_meet_86 : decode cX2_meet 86 = .ok (.aload_n 0, 1) := by decide +kernel
theorem dX2_meet_87 : decode cX2_meet 87 = .ok (.getfield 36, 3) := by decide +kernel
theorem dX2_meet_90 : decode cX2_meet 90 = .ok (.if_icmp .ne 11, 3) := by decide +kernel
theorem dX2_meet_93 : decode cX2_meet 93 = .ok (.aload_n 0, 1) := by decide +kernel
theorem dX2_meet_94 : decode cX2_meet 94 = .ok (.aload_n 0, 1) := by decide +kernel
theorem dX2_meet_95 : decode cX2_meet 95 = .ok (.getfield 42, 3) := by decide +kernel
theorem dX2_meet_98 : decode cX2_meet 98 = .ok (.putfield 39, 3) := by decide +kernel
theorem dX2_meet_101 : decode cX2_meet 101 = .ok (.aload_n 0, 1) := by decide +kernel
theorem dX2_meet_102 : decode cX2_meet 102 = .ok (.dup, 1) := by decide +kernel
theorem dX2_meet_103 : decode cX2_meet 103 = .ok (.getfield 42, 3) := by decide +kernel
theorem dX2_meet_106 : decode cX2_meet 106 = .ok (.iconst 1, 1) := by decide +kernel
theorem dX2_meet_107 : decode cX2_meet 107 = .ok (.iadd, 1) := by decide +kernel
theorem dX2_meet_108 : decode cX2_meet 108 = .ok (.putfield 42, 3) := by decide +kernel
theorem dX2_meet_111 : decode cX2_meet 111 = .ok (.return_, 1) := by decide +kernel
theorem dX2_forgetSeen_0 : decode cX2_forgetSeen 0 = .ok (.iconst 0, 1) := by decide +kernel
theorem dX2_forgetSeen_1 : decode cX2_forgetSeen 1 = .ok (.istore_n 1, 1) := by decide +kernel
theorem dX2_forgetSeen_2 : decode cX2_forgetSeen 2 = .ok (.iload_n 1, 1) := by decide +kernel
theorem dX2_forgetSeen_3 : decode cX2_forgetSeen 3 = .ok (.aload_n 0, 1) := by decide +kernel
theorem dX2_forgetSeen_4 : decode cX2_forgetSeen 4 = .ok (.getfield 42, 3) := by decide +kernel
theorem dX2_forgetSeen_7 : decode cX2_forgetSeen 7 = .ok (.if_icmp .ge 24, 3) := by decide +kernel
theorem dX2_forgetSeen_10 : decode cX2_forgetSeen 10 = .ok (.aload_n 0, 1) := by decide +kernel
theorem dX2_forgetSeen_11 : decode cX2_forgetSeen 11 = .ok (.getfield 18, 3) := by decide +kernel
theorem dX2_forgetSeen_14 : decode cX2_forgetSeen 14 = .ok (.aload_n 0, 1) := by decide +kernel
theorem dX2_forgetSeen_15 : decode cX2_forgetSeen 15 = .ok (.getfield 11, 3) := by decide +kernel
theorem dX2_forgetSeen_18 : decode cX2_forgetSeen 18 = .ok (.iload_n 1, 1) := by decide +kernel
theorem dX2_forgetSeen_19 : decode cX2_forgetSeen 19 = .ok (.iaload, 1) := by decide +kernel
theorem dX2_forgetSeen_20 : decode cX2_forgetSeen 20 = .ok (.bipush 64, 2) := by decide +kernel
theorem dX2_forgetSeen_22 : decode cX2_forgetSeen 22 = .ok (.idiv, 1) := by decide +kernel
theorem dX2_forgetSeen_23 : decode cX2_forgetSeen 23 = .ok (.lconst 0, 1) := by decide +kernel
theorem dX2_forgetSeen_24 : decode cX2_forgetSeen 24 = .ok (.lastore, 1) := by decide +kernel
theorem dX2_forgetSeen_25 : decode cX2_forgetSeen 25 = .ok (.iinc 1 1, 3) := by decide +kernel
theorem dX2_forgetSeen_28 : decode cX2_forgetSeen 28 = .ok (.goto (-26), 3) := by decide +kernel
theorem dX2_forgetSeen_31 : decode cX2_forgetSeen 31 = .ok (.return_, 1) := by decide +kernel
theorem dX2_place_0 : decode cX2_place 0 = .ok (.iload_n 0, 1) := by decide +kernel
theorem dX2_place_1 : decode cX2_place 1 = .ok (.iconst 3, 1) := by decide +kernel
theorem dX2_place_2 : decode cX2_place 2 = .ok (.iload_n 1, 1) := by decide +kernel
theorem dX2_place_3 : decode cX2_place 3 = .ok (.imul, 1) := by decide +kernel
theorem dX2_place_4 : decode cX2_place 4 = .ok (.ishr, 1) := by decide +kernel
theorem dX2_place_5 : decode cX2_place 5 = .ok (.bipush 7, 2) := by decide +kernel
theorem dX2_place_7 : decode cX2_place 7 = .ok (.iand, 1) := by decide +kernel
theorem dX2_place_8 : decode cX2_place 8 = .ok (.ireturn, 1) := by decide +kernel
theorem dX2_withPlace_0 : decode cX2_withPlace 0 = .ok (.iconst 3, 1) := by decide +kernel
theorem dX2_withPlace_1 : decode cX2_withPlace 1 = .ok (.iload_n 1, 1) := by decide +kernel
theorem dX2_withPlace_2 : decode cX2_withPlace 2 = .ok (.imul, 1) := by decide +kernel
theorem dX2_withPlace_3 : decode cX2_withPlace 3 = .ok (.istore_n 3, 1) := by decide +kernel
theorem dX2_withPlace_4 : decode cX2_withPlace 4 = .ok (.iload_n 0, 1) := by decide +kernel
theorem dX2_withPlace_5 : decode cX2_withPlace 5 = .ok (.bipush 7, 2) := by decide +kernel
theorem dX2_withPlace_7 : decode cX2_withPlace 7 = .ok (.iload_n 3, 1) := by decide +kernel
theorem dX2_withPlace_8 : decode cX2_withPlace 8 = .ok (.ishl, 1) := by decide +kernel
theorem dX2_withPlace_9 : decode cX2_withPlace 9 = .ok (.iconst (-1), 1) := by decide +kernel
theorem dX2_withPlace_10 : decode cX2_withPlace 10 = .ok (.ixor, 1) := by decide +kernel
theorem dX2_withPlace_11 : decode cX2_withPlace 11 = .ok (.iand, 1) := by decide +kernel
theorem dX2_withPlace_12 : decode cX2_withPlace 12 = .ok (.iload_n 2, 1) := by decide +kernel
theorem dX2_withPlace_13 : decode cX2_withPlace 13 = .ok (.iload_n 3, 1) := by decide +kernel
theorem dX2_withPlace_14 : decode cX2_withPlace 14 = .ok (.ishl, 1) := by decide +kernel
theorem dX2_withPlace_15 : decode cX2_withPlace 15 = .ok (.ior, 1) := by decide +kernel
theorem dX2_withPlace_16 : decode cX2_withPlace 16 = .ok (.ireturn, 1) := by decide +kernel
theorem dX3_init_0 : decode cX3_init 0 = .ok (.aload_n 0, 1) := by decide +kernel
theorem dX3_init_1 : decode cX3_init 1 = .ok (.invokespecial 3, 3) := by decide +kernel
theorem dX3_init_4 : decode cX3_init 4 = .ok (.aload_n 0, 1) := by decide +kernel
theorem dX3_init_5 : decode cX3_init 5 = .ok (.bipush 60, 2) := by decide +kernel
theorem dX3_init_7 : decode cX3_init 7 = .ok (.newarray .int, 2) := by decide +kernel
theorem dX3_init_9 : decode cX3_init 9 = .ok (.putfield 9, 3) := by decide +kernel
theorem dX3_init_12 : decode cX3_init 12 = .ok (.aload_n 0, 1) := by decide +kernel
theorem dX3_init_13 : decode cX3_init 13 = .ok (.iconst (-1), 1) := by decide +kernel
theorem dX3_init_14 : decode cX3_init 14 = .ok (.putfield 15, 3) := by decide +kernel
theorem dX3_init_17 : decode cX3_init 17 = .ok (.return_, 1) := by decide +kernel
theorem dX3_hasNothing_0 : decode cX3_hasNothing 0 = .ok (.aload_n 0, 1) := by decide +kernel
theorem dX3_hasNothing_1 : decode cX3_hasNothing 1 = .ok (.getfield 15, 3) := by decide +kernel
theorem dX3_hasNothing_4 : decode cX3_hasNothing 4 = .ok (.iconst (-1), 1) := by decide +kernel
theorem dX3_hasNothing_5 : decode cX3_hasNothing 5 = .ok (.if_icmp .ne 7, 3) := by decide +kernel
theorem dX3_hasNothing_8 : decode cX3_hasNothing 8 = .ok (.iconst 1, 1) := by decide +kernel
theorem dX3_hasNothing_9 : decode cX3_hasNothing 9 = .ok (.goto 4, 3) := by decide +kernel
theorem dX3_hasNothing_12 : decode cX3_hasNothing 12 = .ok (.iconst 0, 1) := by decide +kernel
theorem dX3_hasNothing_13 : decode cX3_hasNothing 13 = .ok (.ireturn, 1) := by decide +kernel
theorem dX3_empty_0 : decode cX3_empty 0 = .ok (.aload_n 0, 1) := by decide +kernel
theorem dX3_empty_1 : decode cX3_empty 1 = .ok (.iconst (-1), 1) := by decide +kernel
theorem dX3_empty_2 : decode cX3_empty 2 = .ok (.putfield 15, 3) := by decide +kernel
theorem dX3_empty_5 : decode cX3_empty 5 = .ok (.aload_n 0, 1) := by decide +kernel
theorem dX3_empty_6 : decode cX3_empty 6 = .ok (.iconst 0, 1) := by decide +kernel
theorem dX3_empty_7 : decode cX3_empty 7 = .ok (.putfield 19, 3) := by decide +kernel
theorem dX3_empty_10 : decode cX3_empty 10 = .ok (.return_, 1) := by decide +kernel
theorem dX3_renew_0 : decode cX3_renew 0 = .ok (.aload_n 0, 1) := by decide +kernel
theorem dX3_renew_1 : decode cX3_renew 1 = .ok (.iload_n 1, 1) := by decide +kernel
theorem dX3_renew_2 : decode cX3_renew 2 = .ok (.putfield 15, 3) := by decide +kernel
theorem dX3_renew_5 : decode cX3_renew 5 = .ok (.aload_n 0, 1) := by decide +kernel
theorem dX3_renew_6 : decode cX3_renew 6 = .ok (.iload_n 2, 1) := by decide +kernel
theorem dX3_renew_7 : decode cX3_renew 7 = .ok (.putfield 19, 3) := by decide +kernel
theorem dX3_renew_10 : decode cX3_renew 10 = .ok (.iconst 0, 1) := by decide +kernel
theorem dX3_renew_11 : decode cX3_renew 11 = .ok (.istore_n 3, 1) := by decide +kernel
theorem dX3_renew_12 : decode cX3_renew 12 = .ok (.iload_n 3, 1) := by decide +kernel
theorem dX3_renew_13 : decode cX3_renew 13 = .ok (.bipush 60, 2) := by decide +kernel
theorem dX3_renew_15 : decode cX3_renew 15 = .ok (.if_icmp .ge 16, 3) := by decide +kernel
theorem dX3_renew_18 : decode cX3_renew 18 = .ok (.aload_n 0, 1) := by decide +kernel
theorem dX3_renew_19 : decode cX3_renew 19 = .ok (.getfield 9, 3) := by decide +kernel
theorem dX3_renew_22 : decode cX3_renew 22 = .ok (.iload_n 3, 1) := by decide +kernel
theorem dX3_renew_23 : decode cX3_renew 23 = .ok (.iconst 0, 1) := by decide +kernel
theorem dX3_renew_24 : decode cX3_renew 24 = .ok (.iastore, 1) := by decide +kernel
theorem dX3_renew_25 : decode cX3_renew 25 = .ok (.iinc 3 1, 3) := by decide +kernel
theorem dX3_renew_28 : decode cX3_renew 28 = .ok (.goto (-16), 3) := by decide +kernel
theorem dX3_renew_31 : decode cX3_renew 31 = .ok (.return_, 1) := by decide +kernel
theorem dX3_has_0 : decode cX3_has 0 = .ok (.iload_n 1, 1) := by decide +kernel
theorem dX3_has_1 : decode cX3_has 1 = .ok (.ifCond .lt 29, 3) := by decide +kernel
theorem dX3_has_4 : decode cX3_has 4 = .ok (.iload_n 2, 1) := by decide +kernel
theorem dX3_has_5 : decode cX3_has 5 = .ok (.ifCond .lt 25, 3) := by decide +kernel
theorem dX3_has_8 : decode cX3_has 8 = .ok (.iload_n 1, 1) := by decide +kernel
theorem dX3_has_9 : decode cX3_has 9 = .ok (.aload_n 0, 1) := by decide +kernel
theorem dX3_has_10 : decode cX3_has 10 = .ok (.getfield 19, 3) := by decide +kernel
theorem dX3_has_13 : decode cX3_has 13 = .ok (.if_icmp .gt 17, 3) := by decide +kernel
theorem dX3_has_16 : decode cX3_has 16 = .ok (.iload_n 2, 1) := by decide +kernel
theorem dX3_has_17 : decode cX3_has 17 = .ok (.aload_n 0, 1) := by decide +kernel
theorem dX3_has_18 : decode cX3_has 18 = .ok (.getfield 19, 3) := by decide +kernel
theorem dX3_has_21 : decode cX3_has 21 = .ok (.iload_n 1, 1) := by decide +kernel
theorem dX3_has_22 : decode cX3_has 22 = .ok (.isub, 1) := by decide +kernel
theorem dX3_has_23 : decode cX3_has 23 = .ok (.if_icmp .gt 7, 3) := by decide +kernel
theorem dX3_has_26 : decode cX3_has 26 = .ok (.iconst 1, 1) := by decide +kernel
theorem dX3_has_27 : decode cX3_has 27 = .ok (.goto 4, 3) := by decide +kernel
theorem dX3_has_30 : decode cX3_has 30 = .ok (.iconst 0, 1) := by decide +kernel
theorem dX3_has_31 : decode cX3_has 31 = .ok (.ireturn, 1) := by decide +kernel
theorem dX3_cut_0 : decode cX3_cut 0 = .ok (.aload_n 0, 1) := by decide +kernel
theorem dX3_cut_1 : decode cX3_cut 1 = .ok (.getfield 15, 3) := by decide +kernel
theorem dX3_cut_4 : decode cX3_cut 4 = .ok (.ifCond .ne 6, 3) := by decide +kernel
theorem dX3_cut_7 : decode cX3_cut 7 = .ok (.iload_n 1, 1) := by decide +kernel
theorem dX3_cut_8 : decode cX3_cut 8 = .ok (.i2b, 1) := by decide +kernel
theorem dX3_cut_9 : decode cX3_cut 9 = .ok (.ireturn, 1) := by decide +kernel
theorem dX3_cut_10 : decode cX3_cut 10 = .ok (.aload_n 0, 1) := by decide +kernel
theorem dX3_cut_11 : decode cX3_cut 11 = .ok (.getfield 15, 3) := by decide +kernel
theorem dX3_cut_14 : decode cX3_cut 14 = .ok (.iconst 1, 1) := by decide +kernel
theorem dX3_cut_15 : decode cX3_cut 15 = .ok (.if_icmp .ne 8, 3) := by decide +kernel
theorem dX3_cut_18 : decode cX3_cut 18 = .ok (.iload_n 1, 1) := by decide +kernel
theorem dX3_cut_19 : decode cX3_cut 19 = .ok (.i2s, 1) := by decide +kernel
theorem dX3_cut_20 : decode cX3_cut 20 = .ok (.goto 4, 3) := by decide +kernel
theorem dX3_cut_23 : decode cX3_cut 23 = .ok (.iload_n 1, 1) := by decide +kernel
theorem dX3_cut_24 : decode cX3_cut 24 = .ok (.ireturn, 1) := by decide +kernel
theorem dX4_init_0 : decode cX4_init 0 = .ok (.aload_n 0, 1) := by decide +kernel
theorem dX4_init_1 : decode cX4_init 1 = .ok (.iload_n 1, 1) := by decide +kernel
theorem dX4_init_2 : decode cX4_init 2 = .ok (.iload_n 2, 1) := by decide +kernel
theorem dX4_init_3 : decode cX4_init 3 = .ok (.iload_n 3, 1) := by decide +kernel
theorem dX4_init_4 : decode cX4_init 4 = .ok (.iload_n 3, 1) := by decide +kernel
theorem dX4_init_5 : decode cX4_init 5 = .ok (.iconst 2, 1) := by decide +kernel
theorem dX4_init_6 : decode cX4_init 6 = .ok (.invokespecial 5, 3) := by decide +kernel
theorem dX4_init_9 : decode cX4_init 9 = .ok (.return_, 1) := by decide +kernel
theorem dX4_init__0 : decode cX4_init_ 0 = .ok (.aload_n 0, 1) := by decide +kernel
theorem dX4_init__1 : decode cX4_init_ 1 = .ok (.invokespecial 9, 3) := by decide +kernel
theorem dX4_init__4 : decode cX4_init_ 4 = .ok (.aload_n 0, 1) := by decide +kernel
theorem dX4_init__5 : decode cX4_init_ 5 = .ok (.iload_n 1, 1) := by decide +kernel
theorem dX4_init__6 : decode cX4_init_ 6 = .ok (.putfield 14, 3) := by decide +kernel
theorem dX4_init__9 : decode cX4_init_ 9 = .ok (.aload_n 0, 1) := by decide +kernel
theorem dX4_init__10 : decode cX4_init_ 10 = .ok (.iload_n 2, 1) := by decide +kernel
theorem dX4_init__11 : decode cX4_init_ 11 = .ok (.putfield 18, 3) := by decide +kernel
theorem dX4_init__14 : decode cX4_init_ 14 = .ok (.aload_n 0, 1) := by decide +kernel
theorem dX4_init__15 : decode cX4_init_ 15 = .ok (.iload_n 3, 1) := by decide +kernel
theorem dX4_init__16 : decode cX4_init_ 16 = .ok (.putfield 21, 3) := by decide +kernel
theorem dX4_init__19 : decode cX4_init_ 19 = .ok (.aload_n 0, 1) := by decide +kernel
theorem dX4_init__20 : decode cX4_init_ 20 = .ok (.iconst 0, 1) := by decide +kernel
theorem dX4_init__21 : decode cX4_init_ 21 = .ok (.iload_n 3, 1) := by decide +kernel
theorem dX4_init__22 : decode cX4_init_ 22 = .ok (.iload 5, 2) := by decide +kernel
theorem dX4_init__24 : decode cX4_init_ 24 = .ok (.isub, 1) := by decide +kernel
theorem dX4_init__25 : decode cX4_init_ 25 = .ok (.invokestatic 24, 3) := by decide +kernel
theorem dX4_init__28 : decode cX4_init_ 28 = .ok (.putfield 30, 3) := by decide +kernel
theorem dX4_init__31 : decode cX4_init_ 31 = .ok (.aload_n 0, 1) := by decide +kernel
theorem dX4_init__32 : decode cX4_init_ 32 = .ok (.iload_n 3, 1) := by decide +kernel
theorem dX4_init__33 : decode cX4_init_ 33 = .ok (.iload 5, 2) := by decide +kernel
theorem dX4_init__35 : decode cX4_init_ 35 = .ok (.iadd, 1) := by decide +kernel
theorem dX4_init__36 : decode cX4_init_ 36 = .ok (.putfield 33, 3) := by decide +kernel
theorem dX4_init__39 : decode cX4_init_ 39 = .ok (.aload_n 0, 1) := by decide +kernel
theorem dX4_init__40 : decode cX4_init_ 40 = .ok (.iconst 0, 1) := by decide +kernel
theorem dX4_init__41 : decode cX4_init_ 41 = .ok (.iload 4, 2) := by decide +kernel
theorem dX4_init__43 : decode cX4_init_ 43 = .ok (.iload 5, 2) := by decide +kernel
theorem dX4_init__45 : decode cX4_init_ 45 = .ok (.isub, 1) := by decide +kernel
theorem dX4_init__46 : decode cX4_init_ 46 = .ok (.invokestatic 24, 3) := by decide +kernel
theorem dX4_init__49 : decode cX4_init_ 49 = .ok (.putfield 36, 3) := by decide +kernel
theorem dX4_init__52 : decode cX4_init_ 52 = .ok (.aload_n 0, 1) := by decide +kernel
theorem dX4_init__53 : decode cX4_init_ 53 = .ok (.iload 4, 2) := by decide +kernel
theorem dX4_init__55 : decode cX4_init_ 55 = .ok (.iload 5, 2) := by decide +kernel
theorem dX4_init__57 : decode cX4_init_ 57 = .ok (.iadd, 1) := by decide +kernel
theorem dX4_init__58 : decode cX4_init_ 58 = .ok (.putfield 39, 3) := by decide +kernel
theorem dX4_init__61 : decode cX4_init_ 61 = .ok (.return_, 1) := by decide +kernel
theorem dX4_kind_0 : decode cX4_kind 0 = .ok (.iconst 0, 1) := by decide +kernel
theorem dX4_kind_1 : decode cX4_kind 1 = .ok (.ireturn, 1) := by decide +kernel
theorem dX4_isOf_0 : decode cX4_isOf 0 = .ok (.iload_n 1, 1) := by decide +kernel
theorem dX4_isOf_1 : decode cX4_isOf 1 = .ok (.aload_n 0, 1) := by decide +kernel
theorem dX4_isOf_2 : decode cX4_isOf 2 = .ok (.getfield 14, 3) := by decide +kernel
theorem dX4_isOf_5 : decode cX4_isOf 5 = .ok (.if_icmp .eq 11, 3) := by decide +kernel
theorem dX4_isOf_8 : decode cX4_isOf 8 = .ok (.iload_n 1, 1) := by decide +kernel
theorem dX4_isOf_9 : decode cX4_isOf 9 = .ok (.aload_n 0, 1) := by decide +kernel
theorem dX4_isOf_10 : decode cX4_isOf 10 = .ok (.getfield 18, 3) := by decide +kernel
theorem dX4_isOf_13 : decode cX4_isOf 13 = .ok (.if_icmp .ne 7, 3) := by decide +kernel
theorem dX4_isOf_16 : decode cX4_isOf 16 = .ok (.iconst 1, 1) := by decide +kernel
theorem dX4_isOf_17 : decode cX4_isOf 17 = .ok (.goto 4, 3) := by decide +kernel
theorem dX4_isOf_20 : decode cX4_isOf 20 = .ok (.iconst 0, 1) := by decide +kernel
theorem dX4_isOf_21 : decode cX4_isOf 21 = .ok (.ireturn, 1) := by decide +kernel
theorem dX4_beyond_0 : decode cX4_beyond 0 = .ok (.iload_n 1, 1) := by decide +kernel
theorem dX4_beyond_1 : decode cX4_beyond 1 = .ok (.aload_n 0, 1) := by decide +kernel
theorem dX4_beyond_2 : decode cX4_beyond 2 = .ok (.getfield 14, 3) := by decide +kernel
theorem dX4_beyond_5 : decode cX4_beyond 5 = .ok (.if_icmp .ne 28, 3) := by decide +kernel
theorem dX4_beyond_8 : decode cX4_beyond 8 = .ok (.iload_n 2, 1) := by decide +kernel
theorem dX4_beyond_9 : decode cX4_beyond 9 = .ok (.aload_n 0, 1) := by decide +kernel
theorem dX4_beyond_10 : decode cX4_beyond 10 = .ok (.getfield 30, 3) := by decide +kernel
theorem dX4_beyond_13 : decode cX4_beyond 13 = .ok (.if_icmp .lt 18, 3) := by decide +kernel
theorem dX4_beyond_16 : decode cX4_beyond 16 = .ok (.iload_n 2, 1) := by decide +kernel
theorem dX4_beyond_17 : decode cX4_beyond 17 = .ok (.aload_n 0, 1) := by decide +kernel
theorem dX4_beyond_18 : decode cX4_beyond 18 = .ok (.getfield 33, 3) := by decide +kernel
theorem dX4_beyond_21 : decode cX4_beyond 21 = .ok (.if_icmp .gt 10, 3) := by decide +kernel
theorem dX4_beyond_24 : decode cX4_beyond 24 = .ok (.aload_n 0, 1) := by decide +kernel
theorem dX4_beyond_25 : decode cX4_beyond 25 = .ok (.getfield 18, 3) := by decide +kernel
theorem dX4_beyond_28 : decode cX4_beyond 28 = .ok (.goto 4, 3) := by decide +kernel
theorem dX4_beyond_31 : decode cX4_beyond 31 = .ok (.iconst (-1), 1) := by decide +kernel
theorem dX4_beyond_32 : decode cX4_beyond 32 = .ok (.ireturn, 1) := by decide +kernel
theorem dX4_beyond_33 : decode cX4_beyond 33 = .ok (.iload_n 1, 1) := by decide +kernel
theorem dX4_beyond_34 : decode cX4_beyond 34 = .ok (.aload_n 0, 1) := by decide +kernel
theorem dX4_beyond_35 : decode cX4_beyond 35 = .ok (.getfield 18, 3) := by decide +kernel
theorem dX4_beyond_38 : decode cX4_beyond 38 = .ok (.if_icmp .ne 28, 3) := by decide +kernel
theorem dX4_beyond_41 : decode cX4_beyond 41 = .ok (.iload_n 2, 1) := by decide +kernel
theorem dX4_beyond_42 : decode cX4_beyond 42 = .ok (.aload_n 0, 1) := by decide +kernel
theorem dX4_beyond_43 : decode cX4_beyond 43 = .ok (.getfield 36, 3) := by decide +kernel
theorem dX4_beyond_46 : decode cX4_beyond 46 = .ok (.if_icmp .lt 18, 3) := by decide +kernel
theorem dX4_beyond_49 : decode cX4_beyond 49 = .ok (.iload_n 2, 1) := by decide +kernel
theorem dX4_beyond_50 : decode cX4_beyond 50 = .ok (.aload_n 0, 1) := by decide +kernel
theorem dX4_beyond_51 : decode cX4_beyond 51 = .ok (.getfield 39, 3) := by decide +kernel
theorem dX4_beyond_54 : decode cX4_beyond 54 = .ok (.if_icmp .gt 10, 3) := by decide +kernel
theorem dX4_beyond_57 : decode cX4_beyond 57 = .ok (.aload_n 0, 1) := by decide +kernel
theorem dX4_beyond_58 : decode cX4_beyond 58 = .ok (.getfield 14, 3) := by decide +kernel
theorem dX4_beyond_61 : decode cX4_beyond 61 = .ok (.goto 4, 3) := by decide +kernel
theorem dX4_beyond_64 : decode cX4_beyond 64 = .ok (.iconst (-1), 1) := by decide +kernel
theorem dX4_beyond_65 : decode cX4_beyond 65 = .ok (.ireturn, 1) := by decide +kernel
theorem dX4_beyond_66 : decode cX4_beyond 66 = .ok (.iconst (-1), 1) := by decide +kernel
theorem dX4_beyond_67 : decode cX4_beyond 67 = .ok (.ireturn, 1) := by decide +kernel
theorem dX4_told_0 : decode cX4_told 0 = .ok (.iload_n 1, 1) := by decide +kernel
theorem dX4_told_1 : decode cX4_told 1 = .ok (.tableswitch 78 0 6 #[43, 48, 53, 58, 63, 68, 73], 43) := by decide +kernel
theorem dX4_told_44 : decode cX4_told 44 = .ok (.aload_n 0, 1) := by decide +kernel
theorem dX4_told_45 : decode cX4_told 45 = .ok (.invokevirtual 42, 3) := by decide +kernel
theorem dX4_told_48 : decode cX4_told 48 = .ok (.ireturn, 1) := by decide +kernel
theorem dX4_told_49 : decode cX4_told 49 = .ok (.aload_n 0, 1) := by decide +kernel
theorem dX4_told_50 : decode cX4_told 50 = .ok (.getfield 14, 3) := by decide +kernel
theorem dX4_told_53 : decode cX4_told 53 = .ok (.ireturn, 1) := by decide +kernel
theorem dX4_told_54 : decode cX4_told 54 = .ok (.aload_n 0, 1) := by decide +kernel
theorem dX4_told_55 : decode cX4_told 55 = .ok (.getfield 18, 3) := by decide +kernel
theorem dX4_told_58 : decode cX4_told 58 = .ok (.ireturn, 1) := by decide +kernel
theorem dX4_told_59 : decode cX4_told 59 = .ok (.aload_n 0, 1) := by decide +kernel
theorem dX4_told_60 : decode cX4_told 60 = .ok (.getfield 21, 3) := by decide +kernel
theorem dX4_told_63 : decode cX4_told 63 = .ok (.ireturn, 1) := by decide +kernel
theorem dX4_told_64 : decode cX4_told 64 = .ok (.aload_n 0, 1) := by decide +kernel
theorem dX4_told_65 : decode cX4_told 65 = .ok (.getfield 30, 3) := by decide +kernel
theorem dX4_told_68 : decode cX4_told 68 = .ok (.ireturn, 1) := by decide +kernel
theorem dX4_told_69 : decode cX4_told 69 = .ok (.aload_n 0, 1) := by decide +kernel
theorem dX4_told_70 : decode cX4_told 70 = .ok (.getfield 33, 3) := by decide +kernel
theorem dX4_told_73 : decode cX4_told 73 = .ok (.ireturn, 1) := by decide +kernel
theorem dX4_told_74 : decode cX4_told 74 = .ok (.aload_n 0, 1) := by decide +kernel
theorem dX4_told_75 : decode cX4_told 75 = .ok (.getfield 36, 3) := by decide +kernel
theorem dX4_told_78 : decode cX4_told 78 = .ok (.ireturn, 1) := by decide +kernel
theorem dX4_told_79 : decode cX4_told 79 = .ok (.aload_n 0, 1) := by decide +kernel
theorem dX4_told_80 : decode cX4_told 80 = .ok (.getfield 39, 3) := by decide +kernel
theorem dX4_told_83 : decode cX4_told 83 = .ok (.ireturn, 1) := by decide +kernel
theorem dX4_sillsTelling_0 : decode cX4_sillsTelling 0 = .ok (.aload_n 1, 1) := by decide +kernel
theorem dX4_sillsTelling_1 : decode cX4_sillsTelling 1 = .ok (.iconst 1, 1) := by decide +kernel
theorem dX4_sillsTelling_2 : decode cX4_sillsTelling 2 = .ok (.invokevirtual 46, 3) := by decide +kernel
theorem dX4_sillsTelling_5 : decode cX4_sillsTelling 5 = .ok (.aload_n 0, 1) := by decide +kernel
theorem dX4_sillsTelling_6 : decode cX4_sillsTelling 6 = .ok (.getfield 21, 3) := by decide +kernel
theorem dX4_sillsTelling_9 : decode cX4_sillsTelling 9 = .ok (.ireturn, 1) := by decide +kernel
theorem dX4_telling_0 : decode cX4_telling 0 = .ok (.aload_n 0, 1) := by decide +kernel
theorem dX4_telling_1 : decode cX4_telling 1 = .ok (.aload_n 1, 1) := by decide +kernel
theorem dX4_telling_2 : decode cX4_telling 2 = .ok (.invokevirtual 52, 3) := by decide +kernel
theorem dX4_telling_5 : decode cX4_telling 5 = .ok (.ireturn, 1) := by decide +kernel
theorem dX4_rung_0 : decode cX4_rung 0 = .ok (.aload_n 1, 1) := by decide +kernel
theorem dX4_rung_1 : decode cX4_rung 1 = .ok (.iconst 4, 1) := by decide +kernel
theorem dX4_rung_2 : decode cX4_rung 2 = .ok (.invokevirtual 46, 3) := by decide +kernel
theorem dX4_rung_5 : decode cX4_rung 5 = .ok (.iload_n 2, 1) := by decide +kernel
theorem dX4_rung_6 : decode cX4_rung 6 = .ok (.ireturn, 1) := by decide +kernel
theorem dX5_init_0 : decode cX5_init 0 = .ok (.aload_n 0, 1) := by decide +kernel
theorem dX5_init_1 : decode cX5_init 1 = .ok (.invokespecial 3, 3) := by decide +kernel
theorem dX5_init_4 : decode cX5_init 4 = .ok (.aload_n 0, 1) := by decide +kernel
theorem dX5_init_5 : decode cX5_init 5 = .ok (.aload_n 1, 1) := by decide +kernel
theorem dX5_init_6 : decode cX5_init 6 = .ok (.putfield 9, 3) := by decide +kernel
theorem dX5_init_9 : decode cX5_init 9 = .ok (.aload_n 0, 1) := by decide +kernel
theorem dX5_init_10 : decode cX5_init 10 = .ok (.iload_n 2, 1) := by decide +kernel
theorem dX5_init_11 : decode cX5_init 11 = .ok (.putfield 15, 3) := by decide +kernel
theorem dX5_init_14 : decode cX5_init 14 = .ok (.aload_n 0, 1) := by decide +kernel
theorem dX5_init_15 : decode cX5_init 15 = .ok (.iload_n 3, 1) := by decide +kernel
theorem dX5_init_16 : decode cX5_init 16 = .ok (.putfield 19, 3) := by decide +kernel
theorem dX5_init_19 : decode cX5_init 19 = .ok (.return_, 1) := by decide +kernel
theorem dX5_firstFault_0 : decode cX5_firstFault 0 = .ok (.iconst 0, 1) := by decide +kernel
theorem dX5_firstFault_1 : decode cX5_firstFault 1 = .ok (.istore_n 1, 1) := by decide +kernel
theorem dX5_firstFault_2 : decode cX5_firstFault 2 = .ok (.iload_n 1, 1) := by decide +kernel
theorem dX5_firstFault_3 : decode cX5_firstFault 3 = .ok (.aload_n 0, 1) := by decide +kernel
theorem dX5_firstFault_4 : decode cX5_firstFault 4 = .ok (.getfield 19, 3) := by decide +kernel
theorem dX5_firstFault_7 : decode cX5_firstFault 7 = .ok (.if_icmp .ge 33, 3) := by decide +kernel
theorem dX5_firstFault_10 : decode cX5_firstFault 10 = .ok (.aload_n 0, 1) := by decide +kernel
theorem dX5_firstFault_11 : decode cX5_firstFault 11 = .ok (.iload_n 1, 1) := by decide +kernel
theorem dX5_firstFault_12 : decode cX5_firstFault 12 = .ok (.invokevirtual 22, 3) := by decide +kernel
theorem dX5_firstFault_15 : decode cX5_firstFault 15 = .ok (.ifCond .ne 19, 3) := by decide +kernel
theorem dX5_firstFault_18 : decode cX5_firstFault 18 = .ok (.aload_n 0, 1) := by decide +kernel
theorem dX5_firstFault_19 : decode cX5_firstFault 19 = .ok (.iload_n 1, 1) := by decide +kernel
theorem dX5_firstFault_20 : decode cX5_firstFault 20 = .ok (.invokevirtual 26, 3) := by decide +kernel
theorem dX5_firstFault_23 : decode cX5_firstFault 23 = .ok (.ifCond .eq 9, 3) := by decide +kernel
theorem dX5_firstFault_26 : decode cX5_firstFault 26 = .ok (.iload_n 1, 1) := by decide +kernel
theorem dX5_firstFault_27 : decode cX5_firstFault 27 = .ok (.iconst 1, 1) := by decide +kernel
theorem dX5_firstFault_28 : decode cX5_firstFault 28 = .ok (.isub, 1) := by decide +kernel
theorem dX5_firstFault_29 : decode cX5_firstFault 29 = .ok (.goto 4, 3) := by decide +kernel
theorem dX5_firstFault_32 : decode cX5_firstFault 32 = .ok (.iload_n 1, 1) := by decide +kernel
theorem dX5_firstFault_33 : decode cX5_firstFault 33 = .ok (.ireturn, 1) := by decide +kernel
theorem dX5_firstFault_34 : decode cX5_firstFault 34 = .ok (.iinc 1 1, 3) := by decide +kernel
theorem dX5_firstFault_37 : decode cX5_firstFault 37 = .ok (.goto (-35), 3) := by decide +kernel
theorem dX5_firstFault_40 : decode cX5_firstFault 40 = .ok (.aload_n 0, 1) := by decide +kernel
theorem dX5_firstFault_41 : decode cX5_firstFault 41 = .ok (.getfield 19, 3) := by decide +kernel
theorem dX5_firstFault_44 : decode cX5_firstFault 44 = .ok (.iconst 2, 1) := by decide +kernel
theorem dX5_firstFault_45 : decode cX5_firstFault 45 = .ok (.if_icmp .le 19, 3) := by decide +kernel
theorem dX5_firstFault_48 : decode cX5_firstFault 48 = .ok (.aload_n 0, 1) := by decide +kernel
theorem dX5_firstFault_49 : decode cX5_firstFault 49 = .ok (.getfield 19, 3) := by decide +kernel
theorem dX5_firstFault_52 : decode cX5_firstFault 52 = .ok (.iconst 2, 1) := by decide +kernel
theorem dX5_firstFault_53 : decode cX5_firstFault 53 = .ok (.isub, 1) := by decide +kernel
theorem dX5_firstFault_54 : decode cX5_firstFault 54 = .ok (.bipush 6, 2) := by decide +kernel
theorem dX5_firstFault_56 : decode cX5_firstFault 56 = .ok (.irem, 1) := by decide +kernel
theorem dX5_firstFault_57 : decode cX5_firstFault 57 = .ok (.ifCond .ne 7, 3) := by decide +kernel
theorem dX5_firstFault_60 : decode cX5_firstFault 60 = .ok (.iconst (-1), 1) := by decide +kernel
theorem dX5_firstFault_61 : decode cX5_firstFault 61 = .ok (.goto 7, 3) := by decide +kernel
theorem dX5_firstFault_64 : decode cX5_firstFault 64 = .ok (.aload_n 0, 1) := by decide +kernel
theorem dX5_firstFault_65 : decode cX5_firstFault 65 = .ok (.getfield 19, 3) := by decide +kernel
theorem dX5_firstFault_68 : decode cX5_firstFault 68 = .ok (.ireturn, 1) := by decide +kernel
theorem dX5_rooms_0 : decode cX5_rooms 0 = .ok (.aload_n 0, 1) := by decide +kernel
theorem dX5_rooms_1 : decode cX5_rooms 1 = .ok (.iconst 1, 1) := by decide +kernel
theorem dX5_rooms_2 : decode cX5_rooms 2 = .ok (.invokevirtual 29, 3) := by decide +kernel
theorem dX5_rooms_5 : decode cX5_rooms 5 = .ok (.ireturn, 1) := by decide +kernel
theorem dX5_doorCount_0 : decode cX5_doorCount 0 = .ok (.aload_n 0, 1) := by decide +kernel
theorem dX5_doorCount_1 : decode cX5_doorCount 1 = .ok (.getfield 19, 3) := by decide +kernel
theorem dX5_doorCount_4 : decode cX5_doorCount 4 = .ok (.iconst 2, 1) := by decide +kernel
theorem dX5_doorCount_5 : decode cX5_doorCount 5 = .ok (.isub, 1) := by decide +kernel
theorem dX5_doorCount_6 : decode cX5_doorCount 6 = .ok (.bipush 6, 2) := by decide +kernel
theorem dX5_doorCount_8 : decode cX5_doorCount 8 = .ok (.idiv, 1) := by decide +kernel
theorem dX5_doorCount_9 : decode cX5_doorCount 9 = .ok (.ireturn, 1) := by decide +kernel
theorem dX5_door_0 : decode cX5_door 0 = .ok (.iconst 2, 1) := by decide +kernel
theorem dX5_door_1 : decode cX5_door 1 = .ok (.bipush 6, 2) := by decide +kernel
theorem dX5_door_3 : decode cX5_door 3 = .ok (.iload_n 1, 1) := by decide +kernel
theorem dX5_door_4 : decode cX5_door 4 = .ok (.imul, 1) := by decide +kernel
theorem dX5_door_5 : decode cX5_door 5 = .ok (.iadd, 1) := by decide +kernel
theorem dX5_door_6 : decode cX5_door 6 = .ok (.istore_n 2, 1) := by decide +kernel
theorem dX5_door_7 : decode cX5_door 7 = .ok (.aload_n 0, 1) := by decide +kernel
theorem dX5_door_8 : decode cX5_door 8 = .ok (.iload_n 2, 1) := by decide +kernel
theorem dX5_door_9 : decode cX5_door 9 = .ok (.iconst 2, 1) := by decide +kernel
theorem dX5_door_10 : decode cX5_door 10 = .ok (.iadd, 1) := by decide +kernel
theorem dX5_door_11 : decode cX5_door 11 = .ok (.invokevirtual 29, 3) := by decide +kernel
theorem dX5_door_14 : decode cX5_door 14 = .ok (.istore_n 3, 1) := by decide +kernel
theorem dX5_door_15 : decode cX5_door 15 = .ok (.aload_n 0, 1) := by decide +kernel
theorem dX5_door_16 : decode cX5_door 16 = .ok (.iload_n 2, 1) := by decide +kernel
theorem dX5_door_17 : decode cX5_door 17 = .ok (.iconst 3, 1) := by decide +kernel
theorem dX5_door_18 : decode cX5_door 18 = .ok (.iadd, 1) := by decide +kernel
theorem dX5_door_19 : decode cX5_door 19 = .ok (.invokevirtual 29, 3) := by decide +kernel
theorem dX5_door_22 : decode cX5_door 22 = .ok (.istore 4, 2) := by decide +kernel
theorem dX5_door_24 : decode cX5_door 24 = .ok (.bipush 10, 2) := by decide +kernel
theorem dX5_door_26 : decode cX5_door 26 = .ok (.aload_n 0, 1) := by decide +kernel
theorem dX5_door_27 : decode cX5_door 27 = .ok (.iload_n 2, 1) := by decide +kernel
theorem dX5_door_28 : decode cX5_door 28 = .ok (.iconst 4, 1) := by decide +kernel
theorem dX5_door_29 : decode cX5_door 29 = .ok (.iadd, 1) := by decide +kernel
theorem dX5_door_30 : decode cX5_door 30 = .ok (.invokevirtual 29, 3) := by decide +kernel
theorem dX5_door_33 : decode cX5_door 33 = .ok (.imul, 1) := by decide +kernel
theorem dX5_door_34 : decode cX5_door 34 = .ok (.aload_n 0, 1) := by decide +kernel
theorem dX5_door_35 : decode cX5_door 35 = .ok (.iload_n 2, 1) := by decide +kernel
theorem dX5_door_36 : decode cX5_door 36 = .ok (.iconst 5, 1) := by decide +kernel
theorem dX5_door_37 : decode cX5_door 37 = .ok (.iadd, 1) := by decide +kernel
theorem dX5_door_38 : decode cX5_door 38 = .ok (.invokevirtual 29, 3) := by decide +kernel
theorem dX5_door_41 : decode cX5_door 41 = .ok (.iadd, 1) := by decide +kernel
theorem dX5_door_42 : decode cX5_door 42 = .ok (.istore 5, 2) := by decide +kernel
theorem dX5_door_44 : decode cX5_door 44 = .ok (.aload_n 0, 1) := by decide +kernel
theorem dX5_door_45 : decode cX5_door 45 = .ok (.iload_n 2, 1) := by decide +kernel
theorem dX5_door_46 : decode cX5_door 46 = .ok (.iconst 1, 1) := by decide +kernel
theorem dX5_door_47 : decode cX5_door 47 = .ok (.iadd, 1) := by decide +kernel
theorem dX5_door_48 : decode cX5_door 48 = .ok (.invokevirtual 33, 3) := by decide +kernel
theorem dX5_door_51 : decode cX5_door 51 = .ok (.lookupswitch 51 #[(115, 25), (116, 38)], 25) := by decide +kernel
theorem dX5_door_76 : decode cX5_door 76 = .ok (.new 36, 3) := by decide +kernel
theorem dX5_door_79 : decode cX5_door 79 = .ok (.dup, 1) := by decide +kernel
theorem dX5_door_80 : decode cX5_door 80 = .ok (.iload_n 3, 1) := by decide +kernel
theorem dX5_door_81 : decode cX5_door 81 = .ok (.iload 4, 2) := by decide +kernel
theorem dX5_door_83 : decode cX5_door 83 = .ok (.iload 5, 2) := by decide +kernel
theorem dX5_door_85 : decode cX5_door 85 = .ok (.invokespecial 38, 3) := by decide +kernel
theorem dX5_door_88 : decode cX5_door 88 = .ok (.areturn, 1) := by decide +kernel
theorem dX5_door_89 : decode cX5_door 89 = .ok (.new 41, 3) := by decide +kernel
theorem dX5_door_92 : decode cX5_door 92 = .ok (.dup, 1) := by decide +kernel
theorem dX5_door_93 : decode cX5_door 93 = .ok (.iload_n 3, 1) := by decide +kernel
theorem dX5_door_94 : decode cX5_door 94 = .ok (.iload 4, 2) := by decide +kernel
theorem dX5_door_96 : decode cX5_door 96 = .ok (.iload 5, 2) := by decide +kernel
theorem dX5_door_98 : decode cX5_door 98 = .ok (.invokespecial 43, 3) := by decide +kernel
theorem dX5_door_101 : decode cX5_door 101 = .ok (.areturn, 1) := by decide +kernel
theorem dX5_door_102 : decode cX5_door 102 = .ok (.new 44, 3) := by decide +kernel
theorem dX5_door_105 : decode cX5_door 105 = .ok (.dup, 1) := by decide +kernel
theorem dX5_door_106 : decode cX5_door 106 = .ok (.iload_n 3, 1) := by decide +kernel
theorem dX5_door_107 : decode cX5_door 107 = .ok (.iload 4, 2) := by decide +kernel
theorem dX5_door_109 : decode cX5_door 109 = .ok (.iload 5, 2) := by decide +kernel
theorem dX5_door_111 : decode cX5_door 111 = .ok (.invokespecial 46, 3) := by decide +kernel
theorem dX5_door_114 : decode cX5_door 114 = .ok (.areturn, 1) := by decide +kernel
theorem dX5_code_0 : decode cX5_code 0 = .ok (.aload_n 0, 1) := by decide +kernel
theorem dX5_code_1 : decode cX5_code 1 = .ok (.getfield 15, 3) := by decide +kernel
theorem dX5_code_4 : decode cX5_code 4 = .ok (.iload_n 1, 1) := by decide +kernel
theorem dX5_code_5 : decode cX5_code 5 = .ok (.iadd, 1) := by decide +kernel
theorem dX5_code_6 : decode cX5_code 6 = .ok (.istore_n 2, 1) := by decide +kernel
theorem dX5_code_7 : decode cX5_code 7 = .ok (.iload_n 2, 1) := by decide +kernel
theorem dX5_code_8 : decode cX5_code 8 = .ok (.ifCond .lt 21, 3) := by decide +kernel
theorem dX5_code_11 : decode cX5_code 11 = .ok (.iload_n 2, 1) := by decide +kernel
theorem dX5_code_12 : decode cX5_code 12 = .ok (.aload_n 0, 1) := by decide +kernel
theorem dX5_code_13 : decode cX5_code 13 = .ok (.getfield 9, 3) := by decide +kernel
theorem dX5_code_16 : decode cX5_code 16 = .ok (.arraylength, 1) := by decide +kernel
theorem dX5_code_17 : decode cX5_code 17 = .ok (.if_icmp .ge 12, 3) := by decide +kernel
theorem dX5_code_20 : decode cX5_code 20 = .ok (.aload_n 0, 1) := by decide +kernel
theorem dX5_code_21 : decode cX5_code 21 = .ok (.getfield 9, 3) := by decide +kernel
theorem dX5_code_24 : decode cX5_code 24 = .ok (.iload_n 2, 1) := by decide +kernel
theorem dX5_code_25 : decode cX5_code 25 = .ok (.iaload, 1) := by decide +kernel
theorem dX5_code_26 : decode cX5_code 26 = .ok (.goto 4, 3) := by decide +kernel
theorem dX5_code_29 : decode cX5_code 29 = .ok (.iconst 0, 1) := by decide +kernel
theorem dX5_code_30 : decode cX5_code 30 = .ok (.ireturn, 1) := by decide +kernel
theorem dX5_digit_0 : decode cX5_digit 0 = .ok (.aload_n 0, 1) := by decide +kernel
theorem dX5_digit_1 : decode cX5_digit 1 = .ok (.iload_n 1, 1) := by decide +kernel
theorem dX5_digit_2 : decode cX5_digit 2 = .ok (.invokevirtual 33, 3) := by decide +kernel
theorem dX5_digit_5 : decode cX5_digit 5 = .ok (.bipush 48, 2) := by decide +kernel
theorem dX5_digit_7 : decode cX5_digit 7 = .ok (.isub, 1) := by decide +kernel
theorem dX5_digit_8 : decode cX5_digit 8 = .ok (.ireturn, 1) := by decide +kernel
theorem dX5_isDigit_0 : decode cX5_isDigit 0 = .ok (.aload_n 0, 1) := by decide +kernel
theorem dX5_isDigit_1 : decode cX5_isDigit 1 = .ok (.iload_n 1, 1) := by decide +kernel
theorem dX5_isDigit_2 : decode cX5_isDigit 2 = .ok (.invokevirtual 33, 3) := by decide +kernel
theorem dX5_isDigit_5 : decode cX5_isDigit 5 = .ok (.bipush 48, 2) := by decide +kernel
theorem dX5_isDigit_7 : decode cX5_isDigit 7 = .ok (.if_icmp .lt 17, 3) := by decide +kernel
theorem dX5_isDigit_10 : decode cX5_isDigit 10 = .ok (.aload_n 0, 1) := by decide +kernel
theorem dX5_isDigit_11 : decode cX5_isDigit 11 = .ok (.iload_n 1, 1) := by decide +kernel
theorem dX5_isDigit_12 : decode cX5_isDigit 12 = .ok (.invokevirtual 33, 3) := by decide +kernel
theorem dX5_isDigit_15 : decode cX5_isDigit 15 = .ok (.bipush 57, 2) := by decide +kernel
theorem dX5_isDigit_17 : decode cX5_isDigit 17 = .ok (.if_icmp .gt 7, 3) := by decide +kernel
theorem dX5_isDigit_20 : decode cX5_isDigit 20 = .ok (.iconst 1, 1) := by decide +kernel
theorem dX5_isDigit_21 : decode cX5_isDigit 21 = .ok (.goto 4, 3) := by decide +kernel
theorem dX5_isDigit_24 : decode cX5_isDigit 24 = .ok (.iconst 0, 1) := by decide +kernel
theorem dX5_isDigit_25 : decode cX5_isDigit 25 = .ok (.ireturn, 1) := by decide +kernel
theorem dX5_isRoom_0 : decode cX5_isRoom 0 = .ok (.aload_n 0, 1) := by decide +kernel
theorem dX5_isRoom_1 : decode cX5_isRoom 1 = .ok (.iload_n 1, 1) := by decide +kernel
theorem dX5_isRoom_2 : decode cX5_isRoom 2 = .ok (.invokevirtual 33, 3) := by decide +kernel
theorem dX5_isRoom_5 : decode cX5_isRoom 5 = .ok (.bipush 48, 2) := by decide +kernel
theorem dX5_isRoom_7 : decode cX5_isRoom 7 = .ok (.if_icmp .lt 19, 3) := by decide +kernel
theorem dX5_isRoom_10 : decode cX5_isRoom 10 = .ok (.aload_n 0, 1) := by decide +kernel
theorem dX5_isRoom_11 : decode cX5_isRoom 11 = .ok (.iload_n 1, 1) := by decide +kernel
theorem dX5_isRoom_12 : decode cX5_isRoom 12 = .ok (.invokevirtual 29, 3) := by decide +kernel
theorem dX5_isRoom_15 : decode cX5_isRoom 15 = .ok (.aload_n 0, 1) := by decide +kernel
theorem dX5_isRoom_16 : decode cX5_isRoom 16 = .ok (.invokevirtual 47, 3) := by decide +kernel
theorem dX5_isRoom_19 : decode cX5_isRoom 19 = .ok (.if_icmp .ge 7, 3) := by decide +kernel
theorem dX5_isRoom_22 : decode cX5_isRoom 22 = .ok (.iconst 1, 1) := by decide +kernel
theorem dX5_isRoom_23 : decode cX5_isRoom 23 = .ok (.goto 4, 3) := by decide +kernel
theorem dX5_isRoom_26 : decode cX5_isRoom 26 = .ok (.iconst 0, 1) := by decide +kernel
theorem dX5_isRoom_27 : decode cX5_isRoom 27 = .ok (.ireturn, 1) := by decide +kernel
theorem dX5_goesOn_0 : decode cX5_goesOn 0 = .ok (.iload_n 1, 1) := by decide +kernel
theorem dX5_goesOn_1 : decode cX5_goesOn 1 = .ok (.ifCond .ne 19, 3) := by decide +kernel
theorem dX5_goesOn_4 : decode cX5_goesOn 4 = .ok (.aload_n 0, 1) := by decide +kernel
theorem dX5_goesOn_5 : decode cX5_goesOn 5 = .ok (.iload_n 1, 1) := by decide +kernel
theorem dX5_goesOn_6 : decode cX5_goesOn 6 = .ok (.invokevirtual 33, 3) := by decide +kernel
theorem dX5_goesOn_9 : decode cX5_goesOn 9 = .ok (.bipush 104, 2) := by decide +kernel
theorem dX5_goesOn_11 : decode cX5_goesOn 11 = .ok (.if_icmp .ne 7, 3) := by decide +kernel
theorem dX5_goesOn_14 : decode cX5_goesOn 14 = .ok (.iconst 1, 1) := by decide +kernel
theorem dX5_goesOn_15 : decode cX5_goesOn 15 = .ok (.goto 4, 3) := by decide +kernel
theorem dX5_goesOn_18 : decode cX5_goesOn 18 = .ok (.iconst 0, 1) := by decide +kernel
theorem dX5_goesOn_19 : decode cX5_goesOn 19 = .ok (.ireturn, 1) := by decide +kernel
theorem dX5_goesOn_20 : decode cX5_goesOn 20 = .ok (.iload_n 1, 1) := by decide +kernel
theorem dX5_goesOn_21 : decode cX5_goesOn 21 = .ok (.iconst 1, 1) := by decide +kernel
theorem dX5_goesOn_22 : decode cX5_goesOn 22 = .ok (.if_icmp .ne 29, 3) := by decide +kernel
theorem dX5_goesOn_25 : decode cX5_goesOn 25 = .ok (.aload_n 0, 1) := by decide +kernel
theorem dX5_goesOn_26 : decode cX5_goesOn 26 = .ok (.iload_n 1, 1) := by decide +kernel
theorem dX5_goesOn_27 : decode cX5_goesOn 27 = .ok (.invokevirtual 33, 3) := by decide +kernel
theorem dX5_goesOn_30 : decode cX5_goesOn 30 = .ok (.bipush 50, 2) := by decide +kernel
theorem dX5_goesOn_32 : decode cX5_goesOn 32 = .ok (.if_icmp .lt 17, 3) := by decide +kernel
theorem dX5_goesOn_35 : decode cX5_goesOn 35 = .ok (.aload_n 0, 1) := by decide +kernel
theorem dX5_goesOn_36 : decode cX5_goesOn 36 = .ok (.iload_n 1, 1) := by decide +kernel
theorem dX5_goesOn_37 : decode cX5_goesOn 37 = .ok (.invokevirtual 33, 3) := by decide +kernel
theorem dX5_goesOn_40 : decode cX5_goesOn 40 = .ok (.bipush 54, 2) := by decide +kernel
theorem dX5_goesOn_42 : decode cX5_goesOn 42 = .ok (.if_icmp .gt 7, 3) := by decide +kernel
theorem dX5_goesOn_45 : decode cX5_goesOn 45 = .ok (.iconst 1, 1) := by decide +kernel
theorem dX5_goesOn_46 : decode cX5_goesOn 46 = .ok (.goto 4, 3) := by decide +kernel
theorem dX5_goesOn_49 : decode cX5_goesOn 49 = .ok (.iconst 0, 1) := by decide +kernel
theorem dX5_goesOn_50 : decode cX5_goesOn 50 = .ok (.ireturn, 1) := by decide +kernel
theorem dX5_goesOn_51 : decode cX5_goesOn 51 = .ok (.iload_n 1, 1) := by decide +kernel
theorem dX5_goesOn_52 : decode cX5_goesOn 52 = .ok (.iconst 2, 1) := by decide +kernel
theorem dX5_goesOn_53 : decode cX5_goesOn 53 = .ok (.isub, 1) := by decide +kernel
theorem dX5_goesOn_54 : decode cX5_goesOn 54 = .ok (.bipush 6, 2) := by decide +kernel
theorem dX5_goesOn_56 : decode cX5_goesOn 56 = .ok (.irem, 1) := by decide +kernel
theorem dX5_goesOn_57 : decode cX5_goesOn 57 = .ok (.tableswitch 139 0 4 #[35, 62, 98, 104, 133], 35) := by decide +kernel
theorem dX5_goesOn_92 : decode cX5_goesOn 92 = .ok (.aload_n 0, 1) := by decide +kernel
theorem dX5_goesOn_93 : decode cX5_goesOn 93 = .ok (.iload_n 1, 1) := by decide +kernel
theorem dX5_goesOn_94 : decode cX5_goesOn 94 = .ok (.invokevirtual 33, 3) := by decide +kernel
theorem dX5_goesOn_97 : decode cX5_goesOn 97 = .ok (.bipush 59, 2) := by decide +kernel
theorem dX5_goesOn_99 : decode cX5_goesOn 99 = .ok (.if_icmp .ne 18, 3) := by decide +kernel
theorem dX5_goesOn_102 : decode cX5_goesOn 102 = .ok (.iload_n 1, 1) := by decide +kernel
theorem dX5_goesOn_103 : decode cX5_goesOn 103 = .ok (.iconst 2, 1) := by decide +kernel
theorem dX5_goesOn_104 : decode cX5_goesOn 104 = .ok (.isub, 1) := by decide +kernel
theorem dX5_goesOn_105 : decode cX5_goesOn 105 = .ok (.bipush 6, 2) := by decide +kernel
theorem dX5_goesOn_107 : decode cX5_goesOn 107 = .ok (.idiv, 1) := by decide +kernel
theorem dX5_goesOn_108 : decode cX5_goesOn 108 = .ok (.bipush 8, 2) := by decide +kernel
theorem dX5_goesOn_110 : decode cX5_goesOn 110 = .ok (.if_icmp .ge 7, 3) := by decide +kernel
theorem dX5_goesOn_113 : decode cX5_goesOn 113 = .ok (.iconst 1, 1) := by decide +kernel
theorem dX5_goesOn_114 : decode cX5_goesOn 114 = .ok (.goto 4, 3) := by decide +kernel
theorem dX5_goesOn_117 : decode cX5_goesOn 117 = .ok (.iconst 0, 1) := by decide +kernel
theorem dX5_goesOn_118 : decode cX5_goesOn 118 = .ok (.ireturn, 1) := by decide +kernel
theorem dX5_goesOn_119 : decode cX5_goesOn 119 = .ok (.aload_n 0, 1) := by decide +kernel
theorem dX5_goesOn_120 : decode cX5_goesOn 120 = .ok (.iload_n 1, 1) := by decide +kernel
theorem dX5_goesOn_121 : decode cX5_goesOn 121 = .ok (.invokevirtual 33, 3) := by decide +kernel
theorem dX5_goesOn_124 : decode cX5_goesOn 124 = .ok (.bipush 115, 2) := by decide +kernel
theorem dX5_goesOn_126 : decode cX5_goesOn 126 = .ok (.if_icmp .eq 23, 3) := by decide +kernel
theorem dX5_goesOn_129 : decode cX5_goesOn 129 = .ok (.aload_n 0, 1) := by decide +kernel
theorem dX5_goesOn_130 : decode cX5_goesOn 130 = .ok (.iload_n 1, 1) := by decide +kernel
theorem dX5_goesOn_131 : decode cX5_goesOn 131 = .ok (.invokevirtual 33, 3) := by decide +kernel
theorem dX5_goesOn_134 : decode cX5_goesOn 134 = .ok (.bipush 116, 2) := by decide +kernel
theorem dX5_goesOn_136 : decode cX5_goesOn 136 = .ok (.if_icmp .eq 13, 3) := by decide +kernel
theorem dX5_goesOn_139 : decode cX5_goesOn 139 = .ok (.aload_n 0, 1) := by decide +kernel
theorem dX5_goesOn_140 : decode cX5_goesOn 140 = .ok (.iload_n 1, 1) := by decide +kernel
theorem dX5_goesOn_141 : decode cX5_goesOn 141 = .ok (.invokevirtual 33, 3) := by decide +kernel
theorem dX5_goesOn_144 : decode cX5_goesOn 144 = .ok (.bipush 119, 2) := by decide +kernel
theorem dX5_goesOn_146 : decode cX5_goesOn 146 = .ok (.if_icmp .ne 7, 3) := by decide +kernel
theorem dX5_goesOn_149 : decode cX5_goesOn 149 = .ok (.iconst 1, 1) := by decide +kernel
theorem dX5_goesOn_150 : decode cX5_goesOn 150 = .ok (.goto 4, 3) := by decide +kernel
theorem dX5_goesOn_153 : decode cX5_goesOn 153 = .ok (.iconst 0, 1) := by decide +kernel
theorem dX5_goesOn_154 : decode cX5_goesOn 154 = .ok (.ireturn, 1) := by decide +kernel
theorem dX5_goesOn_155 : decode cX5_goesOn 155 = .ok (.aload_n 0, 1) := by decide +kernel
theorem dX5_goesOn_156 : decode cX5_goesOn 156 = .ok (.iload_n 1, 1) := by decide +kernel
theorem dX5_goesOn_157 : decode cX5_goesOn 157 = .ok (.invokevirtual 51, 3) := by decide +kernel
theorem dX5_goesOn_160 : decode cX5_goesOn 160 = .ok (.ireturn, 1) := by decide +kernel
theorem dX5_goesOn_161 : decode cX5_goesOn 161 = .ok (.aload_n 0, 1) := by decide +kernel
theorem dX5_goesOn_162 : decode cX5_goesOn 162 = .ok (.iload_n 1, 1) := by decide +kernel
theorem dX5_goesOn_163 : decode cX5_goesOn 163 = .ok (.invokevirtual 51, 3) := by decide +kernel
theorem dX5_goesOn_166 : decode cX5_goesOn 166 = .ok (.ifCond .eq 22, 3) := by decide +kernel
theorem dX5_goesOn_169 : decode cX5_goesOn 169 = .ok (.aload_n 0, 1) := by decide +kernel
theorem dX5_goesOn_170 : decode cX5_goesOn 170 = .ok (.iload_n 1, 1) := by decide +kernel
theorem dX5_goesOn_171 : decode cX5_goesOn 171 = .ok (.invokevirtual 33, 3) := by decide +kernel
theorem dX5_goesOn_174 : decode cX5_goesOn 174 = .ok (.aload_n 0, 1) := by decide +kernel
theorem dX5_goesOn_175 : decode cX5_goesOn 175 = .ok (.iload_n 1, 1) := by decide +kernel
theorem dX5_goesOn_176 : decode cX5_goesOn 176 = .ok (.iconst 1, 1) := by decide +kernel
theorem dX5_goesOn_177 : decode cX5_goesOn 177 = .ok (.isub, 1) := by decide +kernel
theorem dX5_goesOn_178 : decode cX5_goesOn 178 = .ok (.invokevirtual 33, 3) := by decide +kernel
theorem dX5_goesOn_181 : decode cX5_goesOn 181 = .ok (.if_icmp .eq 7, 3) := by decide +kernel
theorem dX5_goesOn_184 : decode cX5_goesOn 184 = .ok (.iconst 1, 1) := by decide +kernel
theorem dX5_goesOn_185 : decode cX5_goesOn 185 = .ok (.goto 4, 3) := by decide +kernel
theorem dX5_goesOn_188 : decode cX5_goesOn 188 = .ok (.iconst 0, 1) := by decide +kernel
theorem dX5_goesOn_189 : decode cX5_goesOn 189 = .ok (.ireturn, 1) := by decide +kernel
theorem dX5_goesOn_190 : decode cX5_goesOn 190 = .ok (.aload_n 0, 1) := by decide +kernel
theorem dX5_goesOn_191 : decode cX5_goesOn 191 = .ok (.iload_n 1, 1) := by decide +kernel
theorem dX5_goesOn_192 : decode cX5_goesOn 192 = .ok (.invokevirtual 54, 3) := by decide +kernel
theorem dX5_goesOn_195 : decode cX5_goesOn 195 = .ok (.ireturn, 1) := by decide +kernel
theorem dX5_goesOn_196 : decode cX5_goesOn 196 = .ok (.aload_n 0, 1) := by decide +kernel
theorem dX5_goesOn_197 : decode cX5_goesOn 197 = .ok (.iload_n 1, 1) := by decide +kernel
theorem dX5_goesOn_198 : decode cX5_goesOn 198 = .ok (.invokevirtual 54, 3) := by decide +kernel
theorem dX5_goesOn_201 : decode cX5_goesOn 201 = .ok (.ifCond .eq 15, 3) := by decide +kernel
theorem dX5_goesOn_204 : decode cX5_goesOn 204 = .ok (.aload_n 0, 1) := by decide +kernel
theorem dX5_goesOn_205 : decode cX5_goesOn 205 = .ok (.iload_n 1, 1) := by decide +kernel
theorem dX5_goesOn_206 : decode cX5_goesOn 206 = .ok (.invokevirtual 26, 3) := by decide +kernel
theorem dX5_goesOn_209 : decode cX5_goesOn 209 = .ok (.ifCond .ne 7, 3) := by decide +kernel
theorem dX5_goesOn_212 : decode cX5_goesOn 212 = .ok (.iconst 1, 1) := by decide +kernel
theorem dX5_goesOn_213 : decode cX5_goesOn 213 = .ok (.goto 4, 3) := by decide +kernel
theorem dX5_goesOn_216 : decode cX5_goesOn 216 = .ok (.iconst 0, 1) := by decide +kernel
theorem dX5_goesOn_217 : decode cX5_goesOn 217 = .ok (.ireturn, 1) := by decide +kernel
theorem dX5_isNought_0 : decode cX5_isNought 0 = .ok (.iload_n 1, 1) := by decide +kernel
theorem dX5_isNought_1 : decode cX5_isNought 1 = .ok (.iconst 2, 1) := by decide +kernel
theorem dX5_isNought_2 : decode cX5_isNought 2 = .ok (.if_icmp .le 39, 3) := by decide +kernel
theorem dX5_isNought_5 : decode cX5_isNought 5 = .ok (.iload_n 1, 1) := by decide +kernel
theorem dX5_isNought_6 : decode cX5_isNought 6 = .ok (.iconst 2, 1) := by decide +kernel
theorem dX5_isNought_7 : decode cX5_isNought 7 = .ok (.isub, 1) := by decide +kernel
theorem dX5_isNought_8 : decode cX5_isNought 8 = .ok (.bipush 6, 2) := by decide +kernel
theorem dX5_isNought_10 : decode cX5_isNought 10 = .ok (.irem, 1) := by decide +kernel
theorem dX5_isNought_11 : decode cX5_isNought 11 = .ok (.iconst 5, 1) := by decide +kernel
theorem dX5_isNought_12 : decode cX5_isNought 12 = .ok (.if_icmp .ne 29, 3) := by decide +kernel
theorem dX5_isNought_15 : decode cX5_isNought 15 = .ok (.aload_n 0, 1) := by decide +kernel
theorem dX5_isNought_16 : decode cX5_isNought 16 = .ok (.iload_n 1, 1) := by decide +kernel
theorem dX5_isNought_17 : decode cX5_isNought 17 = .ok (.iconst 1, 1) := by decide +kernel
theorem dX5_isNought_18 : decode cX5_isNought 18 = .ok (.isub, 1) := by decide +kernel
theorem dX5_isNought_19 : decode cX5_isNought 19 = .ok (.invokevirtual 33, 3) := by decide +kernel
theorem dX5_isNought_22 : decode cX5_isNought 22 = .ok (.bipush 48, 2) := by decide +kernel
theorem dX5_isNought_24 : decode cX5_isNought 24 = .ok (.if_icmp .ne 17, 3) := by decide +kernel
theorem dX5_isNought_27 : decode cX5_isNought 27 = .ok (.aload_n 0, 1) := by decide +kernel
theorem dX5_isNought_28 : decode cX5_isNought 28 = .ok (.iload_n 1, 1) := by decide +kernel
theorem dX5_isNought_29 : decode cX5_isNought 29 = .ok (.invokevirtual 33, 3) := by decide +kernel
theorem dX5_isNought_32 : decode cX5_isNought 32 = .ok (.bipush 48, 2) := by decide +kernel
theorem dX5_isNought_34 : decode cX5_isNought 34 = .ok (.if_icmp .ne 7, 3) := by decide +kernel
theorem dX5_isNought_37 : decode cX5_isNought 37 = .ok (.iconst 1, 1) := by decide +kernel
theorem dX5_isNought_38 : decode cX5_isNought 38 = .ok (.goto 4, 3) := by decide +kernel
theorem dX5_isNought_41 : decode cX5_isNought 41 = .ok (.iconst 0, 1) := by decide +kernel
theorem dX5_isNought_42 : decode cX5_isNought 42 = .ok (.ireturn, 1) := by decide +kernel
theorem dX6_init_0 : decode cX6_init 0 = .ok (.aload_n 0, 1) := by decide +kernel
theorem dX6_init_1 : decode cX6_init 1 = .ok (.invokespecial 1, 3) := by decide +kernel
theorem dX6_init_4 : decode cX6_init 4 = .ok (.return_, 1) := by decide +kernel
theorem dX6_note_0 : decode cX6_note 0 = .ok (.aload_n 0, 1) := by decide +kernel
theorem dX6_note_1 : decode cX6_note 1 = .ok (.bipush 31, 2) := by decide +kernel
theorem dX6_note_3 : decode cX6_note 3 = .ok (.aload_n 0, 1) := by decide +kernel
theorem dX6_note_4 : decode cX6_note 4 = .ok (.getfield 7, 3) := by decide +kernel
theorem dX6_note_7 : decode cX6_note 7 = .ok (.imul, 1) := by decide +kernel
theorem dX6_note_8 : decode cX6_note 8 = .ok (.iload_n 1, 1) := by decide +kernel
theorem dX6_note_9 : decode cX6_note 9 = .ok (.iadd, 1) := by decide +kernel
theorem dX6_note_10 : decode cX6_note 10 = .ok (.putfield 7, 3) := by decide +kernel
theorem dX6_note_13 : decode cX6_note 13 = .ok (.return_, 1) := by decide +kernel
theorem dX7_init_0 : decode cX7_init 0 = .ok (.aload_n 0, 1) := by decide +kernel
theorem dX7_init_1 : decode cX7_init 1 = .ok (.iload_n 1, 1) := by decide +kernel
theorem dX7_init_2 : decode cX7_init 2 = .ok (.iload_n 2, 1) := by decide +kernel
theorem dX7_init_3 : decode cX7_init 3 = .ok (.iload_n 3, 1) := by decide +kernel
theorem dX7_init_4 : decode cX7_init 4 = .ok (.iconst 2, 1) := by decide +kernel
theorem dX7_init_5 : decode cX7_init 5 = .ok (.invokespecial 5, 3) := by decide +kernel
theorem dX7_init_8 : decode cX7_init 8 = .ok (.return_, 1) := by decide +kernel
theorem dX7_init__0 : decode cX7_init_ 0 = .ok (.aload_n 0, 1) := by decide +kernel
theorem dX7_init__1 : decode cX7_init_ 1 = .ok (.iload_n 1, 1) := by decide +kernel
theorem dX7_init__2 : decode cX7_init_ 2 = .ok (.iload_n 2, 1) := by decide +kernel
theorem dX7_init__3 : decode cX7_init_ 3 = .ok (.iload_n 3, 1) := by decide +kernel
theorem dX7_init__4 : decode cX7_init_ 4 = .ok (.iload_n 3, 1) := by decide +kernel
theorem dX7_init__5 : decode cX7_init_ 5 = .ok (.bipush 10, 2) := by decide +kernel
theorem dX7_init__7 : decode cX7_init_ 7 = .ok (.iadd, 1) := by decide +kernel
theorem dX7_init__8 : decode cX7_init_ 8 = .ok (.iload 4, 2) := by decide +kernel
theorem dX7_init__10 : decode cX7_init_ 10 = .ok (.invokespecial 11, 3) := by decide +kernel
theorem dX7_init__13 : decode cX7_init_ 13 = .ok (.return_, 1) := by decide +kernel
theorem dX7_kind_0 : decode cX7_kind 0 = .ok (.iconst 1, 1) := by decide +kernel
theorem dX7_kind_1 : decode cX7_kind 1 = .ok (.ireturn, 1) := by decide +kernel
theorem dX7_telling_0 : decode cX7_telling 0 = .ok (.aload_n 1, 1) := by decide +kernel
theorem dX7_telling_1 : decode cX7_telling 1 = .ok (.iconst 2, 1) := by decide +kernel
theorem dX7_telling_2 : decode cX7_telling 2 = .ok (.invokevirtual 14, 3) := by decide +kernel
theorem dX7_telling_5 : decode cX7_telling 5 = .ok (.aload_n 0, 1) := by decide +kernel
theorem dX7_telling_6 : decode cX7_telling 6 = .ok (.aload_n 1, 1) := by decide +kernel
theorem dX7_telling_7 : decode cX7_telling 7 = .ok (.invokespecial 20, 3) := by decide +kernel
theorem dX7_telling_10 : decode cX7_telling 10 = .ok (.bipush 100, 2) := by decide +kernel
theorem dX7_telling_12 : decode cX7_telling 12 = .ok (.iadd, 1) := by decide +kernel
theorem dX7_telling_13 : decode cX7_telling 13 = .ok (.ireturn, 1) := by decide +kernel
theorem dX8_init_0 : decode cX8_init 0 = .ok (.aload_n 0, 1) := by decide +kernel
theorem dX8_init_1 : decode cX8_init 1 = .ok (.iload_n 1, 1) := by decide +kernel
theorem dX8_init_2 : decode cX8_init 2 = .ok (.iload_n 2, 1) := by decide +kernel
theorem dX8_init_3 : decode cX8_init 3 = .ok (.iload_n 3, 1) := by decide +kernel
theorem dX8_init_4 : decode cX8_init 4 = .ok (.iconst 5, 1) := by decide +kernel
theorem dX8_init_5 : decode cX8_init 5 = .ok (.invokespecial 5, 3) := by decide +kernel
theorem dX8_init_8 : decode cX8_init 8 = .ok (.return_, 1) := by decide +kernel
theorem dX8_kind_0 : decode cX8_kind 0 = .ok (.iconst 2, 1) := by decide +kernel
theorem dX8_kind_1 : decode cX8_kind 1 = .ok (.ireturn, 1) := by decide +kernel
theorem dX8_telling_0 : decode cX8_telling 0 = .ok (.aload_n 1, 1) := by decide +kernel
theorem dX8_telling_1 : decode cX8_telling 1 = .ok (.iconst 3, 1) := by decide +kernel
theorem dX8_telling_2 : decode cX8_telling 2 = .ok (.invokevirtual 11, 3) := by decide +kernel
theorem dX8_telling_5 : decode cX8_telling 5 = .ok (.aload_n 0, 1) := by decide +kernel
theorem dX8_telling_6 : decode cX8_telling 6 = .ok (.aload_n 1, 1) := by decide +kernel
theorem dX8_telling_7 : decode cX8_telling 7 = .ok (.invokespecial 17, 3) := by decide +kernel
theorem dX8_telling_10 : decode cX8_telling 10 = .ok (.istore_n 2, 1) := by decide +kernel
theorem dX8_telling_11 : decode cX8_telling 11 = .ok (.iload_n 2, 1) := by decide +kernel
theorem dX8_telling_12 : decode cX8_telling 12 = .ok (.aload_n 0, 1) := by decide +kernel
theorem dX8_telling_13 : decode cX8_telling 13 = .ok (.aload_n 1, 1) := by decide +kernel
theorem dX8_telling_14 : decode cX8_telling 14 = .ok (.invokevirtual 21, 3) := by decide +kernel
theorem dX8_telling_17 : decode cX8_telling 17 = .ok (.iadd, 1) := by decide +kernel
theorem dX8_telling_18 : decode cX8_telling 18 = .ok (.ireturn, 1) := by decide +kernel
theorem dX8_rung_0 : decode cX8_rung 0 = .ok (.aload_n 1, 1) := by decide +kernel
theorem dX8_rung_1 : decode cX8_rung 1 = .ok (.iconst 5, 1) := by decide +kernel
theorem dX8_rung_2 : decode cX8_rung 2 = .ok (.invokevirtual 11, 3) := by decide +kernel
theorem dX8_rung_5 : decode cX8_rung 5 = .ok (.bipush 80, 2) := by decide +kernel
theorem dX8_rung_7 : decode cX8_rung 7 = .ok (.ireturn, 1) := by decide +kernel
theorem dX9_init_0 : decode cX9_init 0 = .ok (.aload_n 0, 1) := by decide +kernel
theorem dX9_init_1 : decode cX9_init 1 = .ok (.invokespecial 3, 3) := by decide +kernel
theorem dX9_init_4 : decode cX9_init 4 = .ok (.aload_n 0, 1) := by decide +kernel
theorem dX9_init_5 : decode cX9_init 5 = .ok (.iconst 4, 1) := by decide +kernel
theorem dX9_init_6 : decode cX9_init 6 = .ok (.anewarray 11, 3) := by decide +kernel
theorem dX9_init_9 : decode cX9_init 9 = .ok (.putfield 13, 3) := by decide +kernel
theorem dX9_init_12 : decode cX9_init 12 = .ok (.aload_n 0, 1) := by decide +kernel
theorem dX9_init_13 : decode cX9_init 13 = .ok (.new 17, 3) := by decide +kernel
theorem dX9_init_16 : decode cX9_init 16 = .ok (.dup, 1) := by decide +kernel
theorem dX9_init_17 : decode cX9_init 17 = .ok (.invokespecial 19, 3) := by decide +kernel
theorem dX9_init_20 : decode cX9_init 20 = .ok (.putfield 20, 3) := by decide +kernel
theorem dX9_init_23 : decode cX9_init 23 = .ok (.aload_n 0, 1) := by decide +kernel
theorem dX9_init_24 : decode cX9_init 24 = .ok (.new 24, 3) := by decide +kernel
theorem dX9_init_27 : decode cX9_init 27 = .ok (.dup, 1) := by decide +kernel
theorem dX9_init_28 : decode cX9_init 28 = .ok (.invokespecial 26, 3) := by decide +kernel
theorem dX9_init_31 : decode cX9_init 31 = .ok (.putfield 27, 3) := by decide +kernel
theorem dX9_init_34 : decode cX9_init 34 = .ok (.aload_n 0, 1) := by decide +kernel
theorem dX9_init_35 : decode cX9_init 35 = .ok (.new 31, 3) := by decide +kernel
theorem dX9_init_38 : decode cX9_init 38 = .ok (.dup, 1) := by decide +kernel
end
section
theorem dX9_init_39 : decode cX9_init 39 = .ok (.invokespecial 33, 3) := by decide +kernel
theorem dX9_init_42 : decode cX9_init 42 = .ok (.putfield 34, 3) := by decide +kernel
theorem dX9_init_45 : decode cX9_init 45 = .ok (.aload_n 0, 1) := by decide +kernel
theorem dX9_init_46 : decode cX9_init 46 = .ok (.new 38, 3) := by decide +kernel
theorem dX9_init_49 : decode cX9_init 49 = .ok (.dup, 1) := by decide +kernel
theorem dX9_init_50 : decode cX9_init 50 = .ok (.invokespecial 40, 3) := by decide +kernel
theorem dX9_init_53 : decode cX9_init 53 = .ok (.putfield 41, 3) := by decide +kernel
theorem dX9_init_56 : decode cX9_init 56 = .ok (.iconst 0, 1) := by decide +kernel
theorem dX9_init_57 : decode cX9_init 57 = .ok (.istore_n 1, 1) := by decide +kernel
theorem dX9_init_58 : decode cX9_init 58 = .ok (.iload_n 1, 1) := by decide +kernel
theorem dX9_init_59 : decode cX9_init 59 = .ok (.iconst 4, 1) := by decide +kernel
theorem dX9_init_60 : decode cX9_init 60 = .ok (.if_icmp .ge 22, 3) := by decide +kernel
theorem dX9_init_63 : decode cX9_init 63 = .ok (.aload_n 0, 1) := by decide +kernel
theorem dX9_init_64 : decode cX9_init 64 = .ok (.getfield 13, 3) := by decide +kernel
theorem dX9_init_67 : decode cX9_init 67 = .ok (.iload_n 1, 1) := by decide +kernel
theorem dX9_init_68 : decode cX9_init 68 = .ok (.new 11, 3) := by decide +kernel
theorem dX9_init_71 : decode cX9_init 71 = .ok (.dup, 1) := by decide +kernel
theorem dX9_init_72 : decode cX9_init 72 = .ok (.invokespecial 45, 3) := by decide +kernel
theorem dX9_init_75 : decode cX9_init 75 = .ok (.aastore, 1) := by decide +kernel
theorem dX9_init_76 : decode cX9_init 76 = .ok (.iinc 1 1, 3) := by decide +kernel
theorem dX9_init_79 : decode cX9_init 79 = .ok (.goto (-21), 3) := by decide +kernel
theorem dX9_init_82 : decode cX9_init 82 = .ok (.return_, 1) := by decide +kernel
theorem dX9_house_0 : decode cX9_house 0 = .ok (.aload_n 0, 1) := by decide +kernel
theorem dX9_house_1 : decode cX9_house 1 = .ok (.iload_n 1, 1) := by decide +kernel
theorem dX9_house_2 : decode cX9_house 2 = .ok (.iload_n 2, 1) := by decide +kernel
theorem dX9_house_3 : decode cX9_house 3 = .ok (.iload_n 3, 1) := by decide +kernel
theorem dX9_house_4 : decode cX9_house 4 = .ok (.iload 4, 2) := by decide +kernel
theorem dX9_house_6 : decode cX9_house 6 = .ok (.invokevirtual 46, 3) := by decide +kernel
theorem dX9_house_9 : decode cX9_house 9 = .ok (.istore 5, 2) := by decide +kernel
theorem dX9_house_11 : decode cX9_house 11 = .ok (.iload 5, 2) := by decide +kernel
theorem dX9_house_13 : decode cX9_house 13 = .ok (.ifCond .eq 6, 3) := by decide +kernel
theorem dX9_house_16 : decode cX9_house 16 = .ok (.iload 5, 2) := by decide +kernel
theorem dX9_house_18 : decode cX9_house 18 = .ok (.ireturn, 1) := by decide +kernel
theorem dX9_house_19 : decode cX9_house 19 = .ok (.new 50, 3) := by decide +kernel
theorem dX9_house_22 : decode cX9_house 22 = .ok (.dup, 1) := by decide +kernel
theorem dX9_house_23 : decode cX9_house 23 = .ok (.aload_n 0, 1) := by decide +kernel
theorem dX9_house_24 : decode cX9_house 24 = .ok (.getfield 13, 3) := by decide +kernel
theorem dX9_house_27 : decode cX9_house 27 = .ok (.iload_n 1, 1) := by decide +kernel
theorem dX9_house_28 : decode cX9_house 28 = .ok (.aaload, 1) := by decide +kernel
theorem dX9_house_29 : decode cX9_house 29 = .ok (.getfield 52, 3) := by decide +kernel
theorem dX9_house_32 : decode cX9_house 32 = .ok (.iload_n 3, 1) := by decide +kernel
theorem dX9_house_33 : decode cX9_house 33 = .ok (.iload 4, 2) := by decide +kernel
theorem dX9_house_35 : decode cX9_house 35 = .ok (.invokespecial 56, 3) := by decide +kernel
theorem dX9_house_38 : decode cX9_house 38 = .ok (.astore 6, 2) := by decide +kernel
theorem dX9_house_40 : decode cX9_house 40 = .ok (.aload 6, 2) := by decide +kernel
theorem dX9_house_42 : decode cX9_house 42 = .ok (.invokevirtual 59, 3) := by decide +kernel
theorem dX9_house_45 : decode cX9_house 45 = .ok (.istore 7, 2) := by decide +kernel
theorem dX9_house_47 : decode cX9_house 47 = .ok (.iload 7, 2) := by decide +kernel
theorem dX9_house_49 : decode cX9_house 49 = .ok (.iconst (-1), 1) := by decide +kernel
theorem dX9_house_50 : decode cX9_house 50 = .ok (.if_icmp .eq 9, 3) := by decide +kernel
theorem dX9_house_53 : decode cX9_house 53 = .ok (.bipush (-100), 2) := by decide +kernel
theorem dX9_house_55 : decode cX9_house 55 = .ok (.iload 7, 2) := by decide +kernel
theorem dX9_house_57 : decode cX9_house 57 = .ok (.isub, 1) := by decide +kernel
theorem dX9_house_58 : decode cX9_house 58 = .ok (.ireturn, 1) := by decide +kernel
theorem dX9_house_59 : decode cX9_house 59 = .ok (.aload_n 0, 1) := by decide +kernel
theorem dX9_house_60 : decode cX9_house 60 = .ok (.getfield 20, 3) := by decide +kernel
theorem dX9_house_63 : decode cX9_house 63 = .ok (.aload 6, 2) := by decide +kernel
theorem dX9_house_65 : decode cX9_house 65 = .ok (.invokevirtual 63, 3) := by decide +kernel
theorem dX9_house_68 : decode cX9_house 68 = .ok (.aload_n 0, 1) := by decide +kernel
theorem dX9_house_69 : decode cX9_house 69 = .ok (.getfield 27, 3) := by decide +kernel
theorem dX9_house_72 : decode cX9_house 72 = .ok (.invokevirtual 67, 3) := by decide +kernel
theorem dX9_house_75 : decode cX9_house 75 = .ok (.aload_n 0, 1) := by decide +kernel
theorem dX9_house_76 : decode cX9_house 76 = .ok (.getfield 20, 3) := by decide +kernel
theorem dX9_house_79 : decode cX9_house 79 = .ok (.getfield 70, 3) := by decide +kernel
theorem dX9_house_82 : decode cX9_house 82 = .ok (.ireturn, 1) := by decide +kernel
theorem dX9_ofDoor_0 : decode cX9_ofDoor 0 = .ok (.aload_n 0, 1) := by decide +kernel
theorem dX9_ofDoor_1 : decode cX9_ofDoor 1 = .ok (.getfield 20, 3) := by decide +kernel
theorem dX9_ofDoor_4 : decode cX9_ofDoor 4 = .ok (.iload_n 1, 1) := by decide +kernel
theorem dX9_ofDoor_5 : decode cX9_ofDoor 5 = .ok (.invokevirtual 74, 3) := by decide +kernel
theorem dX9_ofDoor_8 : decode cX9_ofDoor 8 = .ok (.ifCond .ne 5, 3) := by decide +kernel
theorem dX9_ofDoor_11 : decode cX9_ofDoor 11 = .ok (.iconst (-1), 1) := by decide +kernel
theorem dX9_ofDoor_12 : decode cX9_ofDoor 12 = .ok (.ireturn, 1) := by decide +kernel
theorem dX9_ofDoor_13 : decode cX9_ofDoor 13 = .ok (.iload_n 2, 1) := by decide +kernel
theorem dX9_ofDoor_14 : decode cX9_ofDoor 14 = .ok (.ifCond .lt 9, 3) := by decide +kernel
theorem dX9_ofDoor_17 : decode cX9_ofDoor 17 = .ok (.iload_n 2, 1) := by decide +kernel
theorem dX9_ofDoor_18 : decode cX9_ofDoor 18 = .ok (.bipush 7, 2) := by decide +kernel
theorem dX9_ofDoor_20 : decode cX9_ofDoor 20 = .ok (.if_icmp .le 6, 3) := by decide +kernel
theorem dX9_ofDoor_23 : decode cX9_ofDoor 23 = .ok (.bipush (-2), 2) := by decide +kernel
theorem dX9_ofDoor_25 : decode cX9_ofDoor 25 = .ok (.ireturn, 1) := by decide +kernel
theorem dX9_ofDoor_26 : decode cX9_ofDoor 26 = .ok (.aload_n 0, 1) := by decide +kernel
theorem dX9_ofDoor_27 : decode cX9_ofDoor 27 = .ok (.getfield 20, 3) := by decide +kernel
theorem dX9_ofDoor_30 : decode cX9_ofDoor 30 = .ok (.getfield 78, 3) := by decide +kernel
theorem dX9_ofDoor_33 : decode cX9_ofDoor 33 = .ok (.iload_n 1, 1) := by decide +kernel
theorem dX9_ofDoor_34 : decode cX9_ofDoor 34 = .ok (.aaload, 1) := by decide +kernel
theorem dX9_ofDoor_35 : decode cX9_ofDoor 35 = .ok (.iload_n 2, 1) := by decide +kernel
theorem dX9_ofDoor_36 : decode cX9_ofDoor 36 = .ok (.invokevirtual 82, 3) := by decide +kernel
theorem dX9_ofDoor_39 : decode cX9_ofDoor 39 = .ok (.ireturn, 1) := by decide +kernel
theorem dX9_person_0 : decode cX9_person 0 = .ok (.aload_n 0, 1) := by decide +kernel
theorem dX9_person_1 : decode cX9_person 1 = .ok (.getfield 20, 3) := by decide +kernel
theorem dX9_person_4 : decode cX9_person 4 = .ok (.iload_n 2, 1) := by decide +kernel
theorem dX9_person_5 : decode cX9_person 5 = .ok (.invokevirtual 88, 3) := by decide +kernel
theorem dX9_person_8 : decode cX9_person 8 = .ok (.ifCond .ne 5, 3) := by decide +kernel
theorem dX9_person_11 : decode cX9_person 11 = .ok (.iconst (-1), 1) := by decide +kernel
theorem dX9_person_12 : decode cX9_person 12 = .ok (.ireturn, 1) := by decide +kernel
theorem dX9_person_13 : decode cX9_person 13 = .ok (.iload_n 1, 1) := by decide +kernel
theorem dX9_person_14 : decode cX9_person 14 = .ok (.invokestatic 91, 3) := by decide +kernel
theorem dX9_person_17 : decode cX9_person 17 = .ok (.ifCond .ne 6, 3) := by decide +kernel
theorem dX9_person_20 : decode cX9_person 20 = .ok (.bipush (-2), 2) := by decide +kernel
theorem dX9_person_22 : decode cX9_person 22 = .ok (.ireturn, 1) := by decide +kernel
theorem dX9_person_23 : decode cX9_person 23 = .ok (.aload_n 0, 1) := by decide +kernel
theorem dX9_person_24 : decode cX9_person 24 = .ok (.getfield 27, 3) := by decide +kernel
theorem dX9_person_27 : decode cX9_person 27 = .ok (.getfield 94, 3) := by decide +kernel
theorem dX9_person_30 : decode cX9_person 30 = .ok (.iconst 4, 1) := by decide +kernel
theorem dX9_person_31 : decode cX9_person 31 = .ok (.if_icmp .lt 6, 3) := by decide +kernel
theorem dX9_person_34 : decode cX9_person 34 = .ok (.bipush (-4), 2) := by decide +kernel
theorem dX9_person_36 : decode cX9_person 36 = .ok (.ireturn, 1) := by decide +kernel
theorem dX9_person_37 : decode cX9_person 37 = .ok (.aload_n 0, 1) := by decide +kernel
theorem dX9_person_38 : decode cX9_person 38 = .ok (.getfield 27, 3) := by decide +kernel
theorem dX9_person_41 : decode cX9_person 41 = .ok (.iload_n 1, 1) := by decide +kernel
theorem dX9_person_42 : decode cX9_person 42 = .ok (.iload_n 2, 1) := by decide +kernel
theorem dX9_person_43 : decode cX9_person 43 = .ok (.invokevirtual 97, 3) := by decide +kernel
theorem dX9_person_46 : decode cX9_person 46 = .ok (.ireturn, 1) := by decide +kernel
theorem dX9_stone_0 : decode cX9_stone 0 = .ok (.aload_n 0, 1) := by decide +kernel
theorem dX9_stone_1 : decode cX9_stone 1 = .ok (.getfield 20, 3) := by decide +kernel
theorem dX9_stone_4 : decode cX9_stone 4 = .ok (.iload_n 2, 1) := by decide +kernel
theorem dX9_stone_5 : decode cX9_stone 5 = .ok (.invokevirtual 88, 3) := by decide +kernel
theorem dX9_stone_8 : decode cX9_stone 8 = .ok (.ifCond .ne 5, 3) := by decide +kernel
theorem dX9_stone_11 : decode cX9_stone 11 = .ok (.iconst (-1), 1) := by decide +kernel
theorem dX9_stone_12 : decode cX9_stone 12 = .ok (.ireturn, 1) := by decide +kernel
theorem dX9_stone_13 : decode cX9_stone 13 = .ok (.iload_n 1, 1) := by decide +kernel
theorem dX9_stone_14 : decode cX9_stone 14 = .ok (.iconst 1, 1) := by decide +kernel
theorem dX9_stone_15 : decode cX9_stone 15 = .ok (.if_icmp .lt 9, 3) := by decide +kernel
theorem dX9_stone_18 : decode cX9_stone 18 = .ok (.iload_n 1, 1) := by decide +kernel
theorem dX9_stone_19 : decode cX9_stone 19 = .ok (.bipush 20, 2) := by decide +kernel
theorem dX9_stone_21 : decode cX9_stone 21 = .ok (.if_icmp .le 6, 3) := by decide +kernel
theorem dX9_stone_24 : decode cX9_stone 24 = .ok (.bipush (-2), 2) := by decide +kernel
theorem dX9_stone_26 : decode cX9_stone 26 = .ok (.ireturn, 1) := by decide +kernel
theorem dX9_stone_27 : decode cX9_stone 27 = .ok (.aload_n 0, 1) := by decide +kernel
theorem dX9_stone_28 : decode cX9_stone 28 = .ok (.getfield 27, 3) := by decide +kernel
theorem dX9_stone_31 : decode cX9_stone 31 = .ok (.getfield 101, 3) := by decide +kernel
theorem dX9_stone_34 : decode cX9_stone 34 = .ok (.iconst 4, 1) := by decide +kernel
theorem dX9_stone_35 : decode cX9_stone 35 = .ok (.if_icmp .lt 6, 3) := by decide +kernel
theorem dX9_stone_38 : decode cX9_stone 38 = .ok (.bipush (-4), 2) := by decide +kernel
theorem dX9_stone_40 : decode cX9_stone 40 = .ok (.ireturn, 1) := by decide +kernel
theorem dX9_stone_41 : decode cX9_stone 41 = .ok (.aload_n 0, 1) := by decide +kernel
theorem dX9_stone_42 : decode cX9_stone 42 = .ok (.getfield 27, 3) := by decide +kernel
theorem dX9_stone_45 : decode cX9_stone 45 = .ok (.iload_n 1, 1) := by decide +kernel
theorem dX9_stone_46 : decode cX9_stone 46 = .ok (.iload_n 2, 1) := by decide +kernel
theorem dX9_stone_47 : decode cX9_stone 47 = .ok (.invokevirtual 104, 3) := by decide +kernel
theorem dX9_stone_50 : decode cX9_stone 50 = .ok (.ireturn, 1) := by decide +kernel
theorem dX9_ofPerson_0 : decode cX9_ofPerson 0 = .ok (.aload_n 0, 1) := by decide +kernel
theorem dX9_ofPerson_1 : decode cX9_ofPerson 1 = .ok (.getfield 27, 3) := by decide +kernel
theorem dX9_ofPerson_4 : decode cX9_ofPerson 4 = .ok (.iload_n 1, 1) := by decide +kernel
theorem dX9_ofPerson_5 : decode cX9_ofPerson 5 = .ok (.invokevirtual 107, 3) := by decide +kernel
theorem dX9_ofPerson_8 : decode cX9_ofPerson 8 = .ok (.ifCond .ne 5, 3) := by decide +kernel
theorem dX9_ofPerson_11 : decode cX9_ofPerson 11 = .ok (.iconst (-1), 1) := by decide +kernel
theorem dX9_ofPerson_12 : decode cX9_ofPerson 12 = .ok (.ireturn, 1) := by decide +kernel
theorem dX9_ofPerson_13 : decode cX9_ofPerson 13 = .ok (.iload_n 2, 1) := by decide +kernel
theorem dX9_ofPerson_14 : decode cX9_ofPerson 14 = .ok (.tableswitch 68 0 3 #[30, 40, 50, 59], 30) := by decide +kernel
theorem dX9_ofPerson_44 : decode cX9_ofPerson 44 = .ok (.aload_n 0, 1) := by decide +kernel
theorem dX9_ofPerson_45 : decode cX9_ofPerson 45 = .ok (.getfield 27, 3) := by decide +kernel
theorem dX9_ofPerson_48 : decode cX9_ofPerson 48 = .ok (.getfield 110, 3) := by decide +kernel
theorem dX9_ofPerson_51 : decode cX9_ofPerson 51 = .ok (.iload_n 1, 1) := by decide +kernel
theorem dX9_ofPerson_52 : decode cX9_ofPerson 52 = .ok (.iaload, 1) := by decide +kernel
theorem dX9_ofPerson_53 : decode cX9_ofPerson 53 = .ok (.ireturn, 1) := by decide +kernel
theorem dX9_ofPerson_54 : decode cX9_ofPerson 54 = .ok (.aload_n 0, 1) := by decide +kernel
theorem dX9_ofPerson_55 : decode cX9_ofPerson 55 = .ok (.getfield 27, 3) := by decide +kernel
theorem dX9_ofPerson_58 : decode cX9_ofPerson 58 = .ok (.getfield 113, 3) := by decide +kernel
theorem dX9_ofPerson_61 : decode cX9_ofPerson 61 = .ok (.iload_n 1, 1) := by decide +kernel
theorem dX9_ofPerson_62 : decode cX9_ofPerson 62 = .ok (.iaload, 1) := by decide +kernel
theorem dX9_ofPerson_63 : decode cX9_ofPerson 63 = .ok (.ireturn, 1) := by decide +kernel
theorem dX9_ofPerson_64 : decode cX9_ofPerson 64 = .ok (.aload_n 0, 1) := by decide +kernel
theorem dX9_ofPerson_65 : decode cX9_ofPerson 65 = .ok (.getfield 27, 3) := by decide +kernel
theorem dX9_ofPerson_68 : decode cX9_ofPerson 68 = .ok (.iload_n 1, 1) := by decide +kernel
theorem dX9_ofPerson_69 : decode cX9_ofPerson 69 = .ok (.invokevirtual 116, 3) := by decide +kernel
theorem dX9_ofPerson_72 : decode cX9_ofPerson 72 = .ok (.ireturn, 1) := by decide +kernel
theorem dX9_ofPerson_73 : decode cX9_ofPerson 73 = .ok (.aload_n 0, 1) := by decide +kernel
theorem dX9_ofPerson_74 : decode cX9_ofPerson 74 = .ok (.getfield 27, 3) := by decide +kernel
theorem dX9_ofPerson_77 : decode cX9_ofPerson 77 = .ok (.iload_n 1, 1) := by decide +kernel
theorem dX9_ofPerson_78 : decode cX9_ofPerson 78 = .ok (.invokevirtual 119, 3) := by decide +kernel
theorem dX9_ofPerson_81 : decode cX9_ofPerson 81 = .ok (.ireturn, 1) := by decide +kernel
theorem dX9_ofPerson_82 : decode cX9_ofPerson 82 = .ok (.bipush (-2), 2) := by decide +kernel
theorem dX9_ofPerson_84 : decode cX9_ofPerson 84 = .ok (.ireturn, 1) := by decide +kernel
theorem dX9_ofStone_0 : decode cX9_ofStone 0 = .ok (.aload_n 0, 1) := by decide +kernel
theorem dX9_ofStone_1 : decode cX9_ofStone 1 = .ok (.getfield 27, 3) := by decide +kernel
theorem dX9_ofStone_4 : decode cX9_ofStone 4 = .ok (.iload_n 1, 1) := by decide +kernel
theorem dX9_ofStone_5 : decode cX9_ofStone 5 = .ok (.invokevirtual 122, 3) := by decide +kernel
theorem dX9_ofStone_8 : decode cX9_ofStone 8 = .ok (.ifCond .ne 5, 3) := by decide +kernel
theorem dX9_ofStone_11 : decode cX9_ofStone 11 = .ok (.iconst (-1), 1) := by decide +kernel
theorem dX9_ofStone_12 : decode cX9_ofStone 12 = .ok (.ireturn, 1) := by decide +kernel
theorem dX9_ofStone_13 : decode cX9_ofStone 13 = .ok (.iload_n 2, 1) := by decide +kernel
theorem dX9_ofStone_14 : decode cX9_ofStone 14 = .ok (.ifCond .lt 8, 3) := by decide +kernel
theorem dX9_ofStone_17 : decode cX9_ofStone 17 = .ok (.iload_n 2, 1) := by decide +kernel
theorem dX9_ofStone_18 : decode cX9_ofStone 18 = .ok (.iconst 1, 1) := by decide +kernel
theorem dX9_ofStone_19 : decode cX9_ofStone 19 = .ok (.if_icmp .le 6, 3) := by decide +kernel
theorem dX9_ofStone_22 : decode cX9_ofStone 22 = .ok (.bipush (-2), 2) := by decide +kernel
theorem dX9_ofStone_24 : decode cX9_ofStone 24 = .ok (.ireturn, 1) := by decide +kernel
theorem dX9_ofStone_25 : decode cX9_ofStone 25 = .ok (.iload_n 2, 1) := by decide +kernel
theorem dX9_ofStone_26 : decode cX9_ofStone 26 = .ok (.ifCond .ne 15, 3) := by decide +kernel
theorem dX9_ofStone_29 : decode cX9_ofStone 29 = .ok (.aload_n 0, 1) := by decide +kernel
theorem dX9_ofStone_30 : decode cX9_ofStone 30 = .ok (.getfield 27, 3) := by decide +kernel
theorem dX9_ofStone_33 : decode cX9_ofStone 33 = .ok (.getfield 125, 3) := by decide +kernel
theorem dX9_ofStone_36 : decode cX9_ofStone 36 = .ok (.iload_n 1, 1) := by decide +kernel
theorem dX9_ofStone_37 : decode cX9_ofStone 37 = .ok (.iaload, 1) := by decide +kernel
theorem dX9_ofStone_38 : decode cX9_ofStone 38 = .ok (.goto 12, 3) := by decide +kernel
theorem dX9_ofStone_41 : decode cX9_ofStone 41 = .ok (.aload_n 0, 1) := by decide +kernel
theorem dX9_ofStone_42 : decode cX9_ofStone 42 = .ok (.getfield 27, 3) := by decide +kernel
theorem dX9_ofStone_45 : decode cX9_ofStone 45 = .ok (.getfield 128, 3) := by decide +kernel
theorem dX9_ofStone_48 : decode cX9_ofStone 48 = .ok (.iload_n 1, 1) := by decide +kernel
theorem dX9_ofStone_49 : decode cX9_ofStone 49 = .ok (.iaload, 1) := by decide +kernel
theorem dX9_ofStone_50 : decode cX9_ofStone 50 = .ok (.ireturn, 1) := by decide +kernel
theorem dX9_take_0 : decode cX9_take 0 = .ok (.aload_n 0, 1) := by decide +kernel
theorem dX9_take_1 : decode cX9_take 1 = .ok (.getfield 27, 3) := by decide +kernel
theorem dX9_take_4 : decode cX9_take 4 = .ok (.iload_n 1, 1) := by decide +kernel
theorem dX9_take_5 : decode cX9_take 5 = .ok (.invokevirtual 107, 3) := by decide +kernel
theorem dX9_take_8 : decode cX9_take 8 = .ok (.ifCond .eq 14, 3) := by decide +kernel
theorem dX9_take_11 : decode cX9_take 11 = .ok (.aload_n 0, 1) := by decide +kernel
theorem dX9_take_12 : decode cX9_take 12 = .ok (.getfield 27, 3) := by decide +kernel
theorem dX9_take_15 : decode cX9_take 15 = .ok (.iload_n 2, 1) := by decide +kernel
theorem dX9_take_16 : decode cX9_take 16 = .ok (.invokevirtual 122, 3) := by decide +kernel
theorem dX9_take_19 : decode cX9_take 19 = .ok (.ifCond .ne 5, 3) := by decide +kernel
theorem dX9_take_22 : decode cX9_take 22 = .ok (.iconst (-1), 1) := by decide +kernel
theorem dX9_take_23 : decode cX9_take 23 = .ok (.ireturn, 1) := by decide +kernel
theorem dX9_take_24 : decode cX9_take 24 = .ok (.aload_n 0, 1) := by decide +kernel
theorem dX9_take_25 : decode cX9_take 25 = .ok (.getfield 27, 3) := by decide +kernel
theorem dX9_take_28 : decode cX9_take 28 = .ok (.getfield 128, 3) := by decide +kernel
theorem dX9_take_31 : decode cX9_take 31 = .ok (.iload_n 2, 1) := by decide +kernel
theorem dX9_take_32 : decode cX9_take 32 = .ok (.iaload, 1) := by decide +kernel
theorem dX9_take_33 : decode cX9_take 33 = .ok (.aload_n 0, 1) := by decide +kernel
theorem dX9_take_34 : decode cX9_take 34 = .ok (.getfield 27, 3) := by decide +kernel
theorem dX9_take_37 : decode cX9_take 37 = .ok (.getfield 113, 3) := by decide +kernel
theorem dX9_take_40 : decode cX9_take 40 = .ok (.iload_n 1, 1) := by decide +kernel
theorem dX9_take_41 : decode cX9_take 41 = .ok (.iaload, 1) := by decide +kernel
theorem dX9_take_42 : decode cX9_take 42 = .ok (.if_icmp .eq 6, 3) := by decide +kernel
theorem dX9_take_45 : decode cX9_take 45 = .ok (.bipush (-3), 2) := by decide +kernel
theorem dX9_take_47 : decode cX9_take 47 = .ok (.ireturn, 1) := by decide +kernel
theorem dX9_take_48 : decode cX9_take 48 = .ok (.aload_n 0, 1) := by decide +kernel
theorem dX9_take_49 : decode cX9_take 49 = .ok (.getfield 27, 3) := by decide +kernel
theorem dX9_take_52 : decode cX9_take 52 = .ok (.iload_n 1, 1) := by decide +kernel
theorem dX9_take_53 : decode cX9_take 53 = .ok (.invokevirtual 131, 3) := by decide +kernel
theorem dX9_take_56 : decode cX9_take 56 = .ok (.iconst 2, 1) := by decide +kernel
theorem dX9_take_57 : decode cX9_take 57 = .ok (.if_icmp .lt 6, 3) := by decide +kernel
theorem dX9_take_60 : decode cX9_take 60 = .ok (.bipush (-4), 2) := by decide +kernel
theorem dX9_take_62 : decode cX9_take 62 = .ok (.ireturn, 1) := by decide +kernel
theorem dX9_take_63 : decode cX9_take 63 = .ok (.aload_n 0, 1) := by decide +kernel
theorem dX9_take_64 : decode cX9_take 64 = .ok (.getfield 27, 3) := by decide +kernel
theorem dX9_take_67 : decode cX9_take 67 = .ok (.getfield 128, 3) := by decide +kernel
theorem dX9_take_70 : decode cX9_take 70 = .ok (.iload_n 2, 1) := by decide +kernel
theorem dX9_take_71 : decode cX9_take 71 = .ok (.iload_n 1, 1) := by decide +kernel
theorem dX9_take_72 : decode cX9_take 72 = .ok (.invokestatic 134, 3) := by decide +kernel
theorem dX9_take_75 : decode cX9_take 75 = .ok (.iastore, 1) := by decide +kernel
theorem dX9_take_76 : decode cX9_take 76 = .ok (.aload_n 0, 1) := by decide +kernel
theorem dX9_take_77 : decode cX9_take 77 = .ok (.getfield 27, 3) := by decide +kernel
theorem dX9_take_80 : decode cX9_take 80 = .ok (.iload_n 1, 1) := by decide +kernel
theorem dX9_take_81 : decode cX9_take 81 = .ok (.invokevirtual 131, 3) := by decide +kernel
theorem dX9_take_84 : decode cX9_take 84 = .ok (.ireturn, 1) := by decide +kernel
theorem dX9_lay_0 : decode cX9_lay 0 = .ok (.aload_n 0, 1) := by decide +kernel
theorem dX9_lay_1 : decode cX9_lay 1 = .ok (.getfield 27, 3) := by decide +kernel
theorem dX9_lay_4 : decode cX9_lay 4 = .ok (.iload_n 1, 1) := by decide +kernel
theorem dX9_lay_5 : decode cX9_lay 5 = .ok (.invokevirtual 107, 3) := by decide +kernel
theorem dX9_lay_8 : decode cX9_lay 8 = .ok (.ifCond .eq 14, 3) := by decide +kernel
theorem dX9_lay_11 : decode cX9_lay 11 = .ok (.aload_n 0, 1) := by decide +kernel
theorem dX9_lay_12 : decode cX9_lay 12 = .ok (.getfield 27, 3) := by decide +kernel
theorem dX9_lay_15 : decode cX9_lay 15 = .ok (.iload_n 2, 1) := by decide +kernel
theorem dX9_lay_16 : decode cX9_lay 16 = .ok (.invokevirtual 122, 3) := by decide +kernel
theorem dX9_lay_19 : decode cX9_lay 19 = .ok (.ifCond .ne 5, 3) := by decide +kernel
theorem dX9_lay_22 : decode cX9_lay 22 = .ok (.iconst (-1), 1) := by decide +kernel
theorem dX9_lay_23 : decode cX9_lay 23 = .ok (.ireturn, 1) := by decide +kernel
theorem dX9_lay_24 : decode cX9_lay 24 = .ok (.aload_n 0, 1) := by decide +kernel
theorem dX9_lay_25 : decode cX9_lay 25 = .ok (.getfield 27, 3) := by decide +kernel
theorem dX9_lay_28 : decode cX9_lay 28 = .ok (.getfield 128, 3) := by decide +kernel
theorem dX9_lay_31 : decode cX9_lay 31 = .ok (.iload_n 2, 1) := by decide +kernel
theorem dX9_lay_32 : decode cX9_lay 32 = .ok (.iaload, 1) := by decide +kernel
theorem dX9_lay_33 : decode cX9_lay 33 = .ok (.iload_n 1, 1) := by decide +kernel
theorem dX9_lay_34 : decode cX9_lay 34 = .ok (.invokestatic 134, 3) := by decide +kernel
theorem dX9_lay_37 : decode cX9_lay 37 = .ok (.if_icmp .eq 6, 3) := by decide +kernel
theorem dX9_lay_40 : decode cX9_lay 40 = .ok (.bipush (-3), 2) := by decide +kernel
theorem dX9_lay_42 : decode cX9_lay 42 = .ok (.ireturn, 1) := by decide +kernel
theorem dX9_lay_43 : decode cX9_lay 43 = .ok (.aload_n 0, 1) := by decide +kernel
theorem dX9_lay_44 : decode cX9_lay 44 = .ok (.getfield 27, 3) := by decide +kernel
theorem dX9_lay_47 : decode cX9_lay 47 = .ok (.getfield 128, 3) := by decide +kernel
theorem dX9_lay_50 : decode cX9_lay 50 = .ok (.iload_n 2, 1) := by decide +kernel
theorem dX9_lay_51 : decode cX9_lay 51 = .ok (.aload_n 0, 1) := by decide +kernel
theorem dX9_lay_52 : decode cX9_lay 52 = .ok (.getfield 27, 3) := by decide +kernel
theorem dX9_lay_55 : decode cX9_lay 55 = .ok (.getfield 113, 3) := by decide +kernel
theorem dX9_lay_58 : decode cX9_lay 58 = .ok (.iload_n 1, 1) := by decide +kernel
theorem dX9_lay_59 : decode cX9_lay 59 = .ok (.iaload, 1) := by decide +kernel
theorem dX9_lay_60 : decode cX9_lay 60 = .ok (.iastore, 1) := by decide +kernel
theorem dX9_lay_61 : decode cX9_lay 61 = .ok (.aload_n 0, 1) := by decide +kernel
theorem dX9_lay_62 : decode cX9_lay 62 = .ok (.getfield 27, 3) := by decide +kernel
theorem dX9_lay_65 : decode cX9_lay 65 = .ok (.iload_n 1, 1) := by decide +kernel
theorem dX9_lay_66 : decode cX9_lay 66 = .ok (.invokevirtual 131, 3) := by decide +kernel
theorem dX9_lay_69 : decode cX9_lay 69 = .ok (.ireturn, 1) := by decide +kernel
theorem dX9_opens_0 : decode cX9_opens 0 = .ok (.aload_n 0, 1) := by decide +kernel
theorem dX9_opens_1 : decode cX9_opens 1 = .ok (.getfield 27, 3) := by decide +kernel
theorem dX9_opens_4 : decode cX9_opens 4 = .ok (.iload_n 1, 1) := by decide +kernel
theorem dX9_opens_5 : decode cX9_opens 5 = .ok (.invokevirtual 137, 3) := by decide +kernel
theorem dX9_opens_8 : decode cX9_opens 8 = .ok (.ifCond .ne 6, 3) := by decide +kernel
theorem dX9_opens_11 : decode cX9_opens 11 = .ok (.bipush (-2), 2) := by decide +kernel
theorem dX9_opens_13 : decode cX9_opens 13 = .ok (.ireturn, 1) := by decide +kernel
theorem dX9_opens_14 : decode cX9_opens 14 = .ok (.aload_n 0, 1) := by decide +kernel
theorem dX9_opens_15 : decode cX9_opens 15 = .ok (.getfield 20, 3) := by decide +kernel
theorem dX9_opens_18 : decode cX9_opens 18 = .ok (.iload_n 2, 1) := by decide +kernel
theorem dX9_opens_19 : decode cX9_opens 19 = .ok (.invokevirtual 74, 3) := by decide +kernel
theorem dX9_opens_22 : decode cX9_opens 22 = .ok (.ifCond .ne 5, 3) := by decide +kernel
theorem dX9_opens_25 : decode cX9_opens 25 = .ok (.iconst (-1), 1) := by decide +kernel
theorem dX9_opens_26 : decode cX9_opens 26 = .ok (.ireturn, 1) := by decide +kernel
theorem dX9_opens_27 : decode cX9_opens 27 = .ok (.aload_n 0, 1) := by decide +kernel
theorem dX9_opens_28 : decode cX9_opens 28 = .ok (.getfield 27, 3) := by decide +kernel
theorem dX9_opens_31 : decode cX9_opens 31 = .ok (.iload_n 1, 1) := by decide +kernel
theorem dX9_opens_32 : decode cX9_opens 32 = .ok (.invokevirtual 140, 3) := by decide +kernel
theorem dX9_opens_35 : decode cX9_opens 35 = .ok (.istore_n 3, 1) := by decide +kernel
theorem dX9_opens_36 : decode cX9_opens 36 = .ok (.aload_n 0, 1) := by decide +kernel
theorem dX9_opens_37 : decode cX9_opens 37 = .ok (.getfield 20, 3) := by decide +kernel
theorem dX9_opens_40 : decode cX9_opens 40 = .ok (.getfield 78, 3) := by decide +kernel
theorem dX9_opens_43 : decode cX9_opens 43 = .ok (.iload_n 2, 1) := by decide +kernel
theorem dX9_opens_44 : decode cX9_opens 44 = .ok (.aaload, 1) := by decide +kernel
theorem dX9_opens_45 : decode cX9_opens 45 = .ok (.iload_n 3, 1) := by decide +kernel
theorem dX9_opens_46 : decode cX9_opens 46 = .ok (.invokevirtual 143, 3) := by decide +kernel
theorem dX9_opens_49 : decode cX9_opens 49 = .ok (.ifCond .ne 6, 3) := by decide +kernel
theorem dX9_opens_52 : decode cX9_opens 52 = .ok (.bipush (-3), 2) := by decide +kernel
theorem dX9_opens_54 : decode cX9_opens 54 = .ok (.ireturn, 1) := by decide +kernel
theorem dX9_opens_55 : decode cX9_opens 55 = .ok (.aload_n 0, 1) := by decide +kernel
theorem dX9_opens_56 : decode cX9_opens 56 = .ok (.getfield 20, 3) := by decide +kernel
theorem dX9_opens_59 : decode cX9_opens 59 = .ok (.getfield 78, 3) := by decide +kernel
theorem dX9_opens_62 : decode cX9_opens 62 = .ok (.iload_n 2, 1) := by decide +kernel
theorem dX9_opens_63 : decode cX9_opens 63 = .ok (.aaload, 1) := by decide +kernel
theorem dX9_opens_64 : decode cX9_opens 64 = .ok (.iload_n 3, 1) := by decide +kernel
theorem dX9_opens_65 : decode cX9_opens 65 = .ok (.aload_n 0, 1) := by decide +kernel
theorem dX9_opens_66 : decode cX9_opens 66 = .ok (.getfield 27, 3) := by decide +kernel
theorem dX9_opens_69 : decode cX9_opens 69 = .ok (.iload_n 1, 1) := by decide +kernel
theorem dX9_opens_70 : decode cX9_opens 70 = .ok (.invokevirtual 146, 3) := by decide +kernel
theorem dX9_opens_73 : decode cX9_opens 73 = .ok (.invokevirtual 149, 3) := by decide +kernel
theorem dX9_opens_76 : decode cX9_opens 76 = .ok (.iconst (-1), 1) := by decide +kernel
theorem dX9_opens_77 : decode cX9_opens 77 = .ok (.if_icmp .ne 7, 3) := by decide +kernel
theorem dX9_opens_80 : decode cX9_opens 80 = .ok (.iconst 0, 1) := by decide +kernel
theorem dX9_opens_81 : decode cX9_opens 81 = .ok (.goto 4, 3) := by decide +kernel
theorem dX9_opens_84 : decode cX9_opens 84 = .ok (.iconst 1, 1) := by decide +kernel
theorem dX9_opens_85 : decode cX9_opens 85 = .ok (.ireturn, 1) := by decide +kernel
theorem dX9_pass_0 : decode cX9_pass 0 = .ok (.aload_n 0, 1) := by decide +kernel
theorem dX9_pass_1 : decode cX9_pass 1 = .ok (.iload_n 1, 1) := by decide +kernel
theorem dX9_pass_2 : decode cX9_pass 2 = .ok (.iload_n 2, 1) := by decide +kernel
theorem dX9_pass_3 : decode cX9_pass 3 = .ok (.invokevirtual 152, 3) := by decide +kernel
theorem dX9_pass_6 : decode cX9_pass 6 = .ok (.istore_n 3, 1) := by decide +kernel
theorem dX9_pass_7 : decode cX9_pass 7 = .ok (.iload_n 3, 1) := by decide +kernel
theorem dX9_pass_8 : decode cX9_pass 8 = .ok (.ifCond .ge 5, 3) := by decide +kernel
theorem dX9_pass_11 : decode cX9_pass 11 = .ok (.iload_n 3, 1) := by decide +kernel
theorem dX9_pass_12 : decode cX9_pass 12 = .ok (.ireturn, 1) := by decide +kernel
theorem dX9_pass_13 : decode cX9_pass 13 = .ok (.iload_n 3, 1) := by decide +kernel
theorem dX9_pass_14 : decode cX9_pass 14 = .ok (.ifCond .ne 6, 3) := by decide +kernel
theorem dX9_pass_17 : decode cX9_pass 17 = .ok (.bipush (-3), 2) := by decide +kernel
theorem dX9_pass_19 : decode cX9_pass 19 = .ok (.ireturn, 1) := by decide +kernel
theorem dX9_pass_20 : decode cX9_pass 20 = .ok (.aload_n 0, 1) := by decide +kernel
theorem dX9_pass_21 : decode cX9_pass 21 = .ok (.getfield 20, 3) := by decide +kernel
theorem dX9_pass_24 : decode cX9_pass 24 = .ok (.getfield 78, 3) := by decide +kernel
theorem dX9_pass_27 : decode cX9_pass 27 = .ok (.iload_n 2, 1) := by decide +kernel
theorem dX9_pass_28 : decode cX9_pass 28 = .ok (.aaload, 1) := by decide +kernel
theorem dX9_pass_29 : decode cX9_pass 29 = .ok (.aload_n 0, 1) := by decide +kernel
theorem dX9_pass_30 : decode cX9_pass 30 = .ok (.getfield 27, 3) := by decide +kernel
theorem dX9_pass_33 : decode cX9_pass 33 = .ok (.iload_n 1, 1) := by decide +kernel
theorem dX9_pass_34 : decode cX9_pass 34 = .ok (.invokevirtual 140, 3) := by decide +kernel
theorem dX9_pass_37 : decode cX9_pass 37 = .ok (.aload_n 0, 1) := by decide +kernel
theorem dX9_pass_38 : decode cX9_pass 38 = .ok (.getfield 27, 3) := by decide +kernel
theorem dX9_pass_41 : decode cX9_pass 41 = .ok (.iload_n 1, 1) := by decide +kernel
theorem dX9_pass_42 : decode cX9_pass 42 = .ok (.invokevirtual 146, 3) := by decide +kernel
theorem dX9_pass_45 : decode cX9_pass 45 = .ok (.invokevirtual 149, 3) := by decide +kernel
theorem dX9_pass_48 : decode cX9_pass 48 = .ok (.istore 4, 2) := by decide +kernel
theorem dX9_pass_50 : decode cX9_pass 50 = .ok (.aload_n 0, 1) := by decide +kernel
theorem dX9_pass_51 : decode cX9_pass 51 = .ok (.getfield 27, 3) := by decide +kernel
theorem dX9_pass_54 : decode cX9_pass 54 = .ok (.iload_n 1, 1) := by decide +kernel
theorem dX9_pass_55 : decode cX9_pass 55 = .ok (.iload 4, 2) := by decide +kernel
theorem dX9_pass_57 : decode cX9_pass 57 = .ok (.invokevirtual 155, 3) := by decide +kernel
theorem dX9_pass_60 : decode cX9_pass 60 = .ok (.iload 4, 2) := by decide +kernel
theorem dX9_pass_62 : decode cX9_pass 62 = .ok (.ireturn, 1) := by decide +kernel
theorem dX9_weigh_0 : decode cX9_weigh 0 = .ok (.aload_n 0, 1) := by decide +kernel
theorem dX9_weigh_1 : decode cX9_weigh 1 = .ok (.getfield 27, 3) := by decide +kernel
theorem dX9_weigh_4 : decode cX9_weigh 4 = .ok (.iload_n 1, 1) := by decide +kernel
theorem dX9_weigh_5 : decode cX9_weigh 5 = .ok (.invokevirtual 107, 3) := by decide +kernel
theorem dX9_weigh_8 : decode cX9_weigh 8 = .ok (.ifCond .ne 5, 3) := by decide +kernel
theorem dX9_weigh_11 : decode cX9_weigh 11 = .ok (.iconst (-1), 1) := by decide +kernel
theorem dX9_weigh_12 : decode cX9_weigh 12 = .ok (.ireturn, 1) := by decide +kernel
theorem dX9_weigh_13 : decode cX9_weigh 13 = .ok (.iload_n 2, 1) := by decide +kernel
theorem dX9_weigh_14 : decode cX9_weigh 14 = .ok (.invokestatic 91, 3) := by decide +kernel
theorem dX9_weigh_17 : decode cX9_weigh 17 = .ok (.ifCond .ne 6, 3) := by decide +kernel
theorem dX9_weigh_20 : decode cX9_weigh 20 = .ok (.bipush (-2), 2) := by decide +kernel
theorem dX9_weigh_22 : decode cX9_weigh 22 = .ok (.ireturn, 1) := by decide +kernel
theorem dX9_weigh_23 : decode cX9_weigh 23 = .ok (.aload_n 0, 1) := by decide +kernel
theorem dX9_weigh_24 : decode cX9_weigh 24 = .ok (.getfield 27, 3) := by decide +kernel
theorem dX9_weigh_27 : decode cX9_weigh 27 = .ok (.getfield 110, 3) := by decide +kernel
theorem dX9_weigh_30 : decode cX9_weigh 30 = .ok (.iload_n 1, 1) := by decide +kernel
theorem dX9_weigh_31 : decode cX9_weigh 31 = .ok (.iaload, 1) := by decide +kernel
theorem dX9_weigh_32 : decode cX9_weigh 32 = .ok (.istore_n 3, 1) := by decide +kernel
theorem dX9_weigh_33 : decode cX9_weigh 33 = .ok (.aload_n 0, 1) := by decide +kernel
theorem dX9_weigh_34 : decode cX9_weigh 34 = .ok (.getfield 27, 3) := by decide +kernel
theorem dX9_weigh_37 : decode cX9_weigh 37 = .ok (.getfield 110, 3) := by decide +kernel
theorem dX9_weigh_40 : decode cX9_weigh 40 = .ok (.iload_n 1, 1) := by decide +kernel
theorem dX9_weigh_41 : decode cX9_weigh 41 = .ok (.iload_n 2, 1) := by decide +kernel
theorem dX9_weigh_42 : decode cX9_weigh 42 = .ok (.iastore, 1) := by decide +kernel
theorem dX9_weigh_43 : decode cX9_weigh 43 = .ok (.iload_n 3, 1) := by decide +kernel
theorem dX9_weigh_44 : decode cX9_weigh 44 = .ok (.ireturn, 1) := by decide +kernel
theorem dX9_fewest_0 : decode cX9_fewest 0 = .ok (.aload_n 0, 1) := by decide +kernel
theorem dX9_fewest_1 : decode cX9_fewest 1 = .ok (.getfield 27, 3) := by decide +kernel
theorem dX9_fewest_4 : decode cX9_fewest 4 = .ok (.iload_n 1, 1) := by decide +kernel
theorem dX9_fewest_5 : decode cX9_fewest 5 = .ok (.invokevirtual 107, 3) := by decide +kernel
theorem dX9_fewest_8 : decode cX9_fewest 8 = .ok (.ifCond .eq 19, 3) := by decide +kernel
theorem dX9_fewest_11 : decode cX9_fewest 11 = .ok (.aload_n 0, 1) := by decide +kernel
theorem dX9_fewest_12 : decode cX9_fewest 12 = .ok (.getfield 20, 3) := by decide +kernel
theorem dX9_fewest_15 : decode cX9_fewest 15 = .ok (.iload_n 2, 1) := by decide +kernel
theorem dX9_fewest_16 : decode cX9_fewest 16 = .ok (.invokevirtual 88, 3) := by decide +kernel
theorem dX9_fewest_19 : decode cX9_fewest 19 = .ok (.ifCond .eq 8, 3) := by decide +kernel
theorem dX9_fewest_22 : decode cX9_fewest 22 = .ok (.iload_n 3, 1) := by decide +kernel
theorem dX9_fewest_23 : decode cX9_fewest 23 = .ok (.iconst (-1), 1) := by decide +kernel
theorem dX9_fewest_24 : decode cX9_fewest 24 = .ok (.if_icmp .ge 5, 3) := by decide +kernel
theorem dX9_fewest_27 : decode cX9_fewest 27 = .ok (.iconst (-1), 1) := by decide +kernel
theorem dX9_fewest_28 : decode cX9_fewest 28 = .ok (.ireturn, 1) := by decide +kernel
theorem dX9_fewest_29 : decode cX9_fewest 29 = .ok (.aload_n 0, 1) := by decide +kernel
theorem dX9_fewest_30 : decode cX9_fewest 30 = .ok (.getfield 34, 3) := by decide +kernel
theorem dX9_fewest_33 : decode cX9_fewest 33 = .ok (.aload_n 0, 1) := by decide +kernel
theorem dX9_fewest_34 : decode cX9_fewest 34 = .ok (.getfield 27, 3) := by decide +kernel
theorem dX9_fewest_37 : decode cX9_fewest 37 = .ok (.getfield 110, 3) := by decide +kernel
theorem dX9_fewest_40 : decode cX9_fewest 40 = .ok (.iload_n 1, 1) := by decide +kernel
theorem dX9_fewest_41 : decode cX9_fewest 41 = .ok (.iaload, 1) := by decide +kernel
theorem dX9_fewest_42 : decode cX9_fewest 42 = .ok (.aload_n 0, 1) := by decide +kernel
theorem dX9_fewest_43 : decode cX9_fewest 43 = .ok (.getfield 27, 3) := by decide +kernel
theorem dX9_fewest_46 : decode cX9_fewest 46 = .ok (.getfield 113, 3) := by decide +kernel
theorem dX9_fewest_49 : decode cX9_fewest 49 = .ok (.iload_n 1, 1) := by decide +kernel
theorem dX9_fewest_50 : decode cX9_fewest 50 = .ok (.iaload, 1) := by decide +kernel
theorem dX9_fewest_51 : decode cX9_fewest 51 = .ok (.invokevirtual 159, 3) := by decide +kernel
theorem dX9_fewest_54 : decode cX9_fewest 54 = .ok (.iconst 0, 1) := by decide +kernel
theorem dX9_fewest_55 : decode cX9_fewest 55 = .ok (.istore 4, 2) := by decide +kernel
theorem dX9_fewest_57 : decode cX9_fewest 57 = .ok (.iload 4, 2) := by decide +kernel
theorem dX9_fewest_59 : decode cX9_fewest 59 = .ok (.aload_n 0, 1) := by decide +kernel
theorem dX9_fewest_60 : decode cX9_fewest 60 = .ok (.getfield 27, 3) := by decide +kernel
theorem dX9_fewest_63 : decode cX9_fewest 63 = .ok (.getfield 101, 3) := by decide +kernel
theorem dX9_fewest_66 : decode cX9_fewest 66 = .ok (.if_icmp .ge 99, 3) := by decide +kernel
theorem dX9_fewest_69 : decode cX9_fewest 69 = .ok (.aload_n 0, 1) := by decide +kernel
theorem dX9_fewest_70 : decode cX9_fewest 70 = .ok (.getfield 27, 3) := by decide +kernel
theorem dX9_fewest_73 : decode cX9_fewest 73 = .ok (.getfield 128, 3) := by decide +kernel
theorem dX9_fewest_76 : decode cX9_fewest 76 = .ok (.iload 4, 2) := by decide +kernel
theorem dX9_fewest_78 : decode cX9_fewest 78 = .ok (.iaload, 1) := by decide +kernel
theorem dX9_fewest_79 : decode cX9_fewest 79 = .ok (.iload_n 1, 1) := by decide +kernel
theorem dX9_fewest_80 : decode cX9_fewest 80 = .ok (.invokestatic 134, 3) := by decide +kernel
theorem dX9_fewest_83 : decode cX9_fewest 83 = .ok (.if_icmp .ne 27, 3) := by decide +kernel
theorem dX9_fewest_86 : decode cX9_fewest 86 = .ok (.aload_n 0, 1) := by decide +kernel
theorem dX9_fewest_87 : decode cX9_fewest 87 = .ok (.getfield 34, 3) := by decide +kernel
theorem dX9_fewest_90 : decode cX9_fewest 90 = .ok (.iload 4, 2) := by decide +kernel
theorem dX9_fewest_92 : decode cX9_fewest 92 = .ok (.aload_n 0, 1) := by decide +kernel
theorem dX9_fewest_93 : decode cX9_fewest 93 = .ok (.getfield 27, 3) := by decide +kernel
theorem dX9_fewest_96 : decode cX9_fewest 96 = .ok (.getfield 125, 3) := by decide +kernel
theorem dX9_fewest_99 : decode cX9_fewest 99 = .ok (.iload 4, 2) := by decide +kernel
theorem dX9_fewest_101 : decode cX9_fewest 101 = .ok (.iaload, 1) := by decide +kernel
theorem dX9_fewest_102 : decode cX9_fewest 102 = .ok (.bipush 6, 2) := by decide +kernel
theorem dX9_fewest_104 : decode cX9_fewest 104 = .ok (.invokevirtual 162, 3) := by decide +kernel
theorem dX9_fewest_107 : decode cX9_fewest 107 = .ok (.goto 52, 3) := by decide +kernel
theorem dX9_fewest_110 : decode cX9_fewest 110 = .ok (.aload_n 0, 1) := by decide +kernel
theorem dX9_fewest_111 : decode cX9_fewest 111 = .ok (.getfield 20, 3) := by decide +kernel
theorem dX9_fewest_114 : decode cX9_fewest 114 = .ok (.aload_n 0, 1) := by decide +kernel
theorem dX9_fewest_115 : decode cX9_fewest 115 = .ok (.getfield 27, 3) := by decide +kernel
theorem dX9_fewest_118 : decode cX9_fewest 118 = .ok (.getfield 128, 3) := by decide +kernel
theorem dX9_fewest_121 : decode cX9_fewest 121 = .ok (.iload 4, 2) := by decide +kernel
theorem dX9_fewest_123 : decode cX9_fewest 123 = .ok (.iaload, 1) := by decide +kernel
theorem dX9_fewest_124 : decode cX9_fewest 124 = .ok (.invokevirtual 88, 3) := by decide +kernel
theorem dX9_fewest_127 : decode cX9_fewest 127 = .ok (.ifCond .eq 32, 3) := by decide +kernel
theorem dX9_fewest_130 : decode cX9_fewest 130 = .ok (.aload_n 0, 1) := by decide +kernel
theorem dX9_fewest_131 : decode cX9_fewest 131 = .ok (.getfield 34, 3) := by decide +kernel
theorem dX9_fewest_134 : decode cX9_fewest 134 = .ok (.iload 4, 2) := by decide +kernel
theorem dX9_fewest_136 : decode cX9_fewest 136 = .ok (.aload_n 0, 1) := by decide +kernel
theorem dX9_fewest_137 : decode cX9_fewest 137 = .ok (.getfield 27, 3) := by decide +kernel
theorem dX9_fewest_140 : decode cX9_fewest 140 = .ok (.getfield 125, 3) := by decide +kernel
theorem dX9_fewest_143 : decode cX9_fewest 143 = .ok (.iload 4, 2) := by decide +kernel
theorem dX9_fewest_145 : decode cX9_fewest 145 = .ok (.iaload, 1) := by decide +kernel
theorem dX9_fewest_146 : decode cX9_fewest 146 = .ok (.aload_n 0, 1) := by decide +kernel
theorem dX9_fewest_147 : decode cX9_fewest 147 = .ok (.getfield 27, 3) := by decide +kernel
theorem dX9_fewest_150 : decode cX9_fewest 150 = .ok (.getfield 128, 3) := by decide +kernel
theorem dX9_fewest_153 : decode cX9_fewest 153 = .ok (.iload 4, 2) := by decide +kernel
theorem dX9_fewest_155 : decode cX9_fewest 155 = .ok (.iaload, 1) := by decide +kernel
theorem dX9_fewest_156 : decode cX9_fewest 156 = .ok (.invokevirtual 162, 3) := by decide +kernel
theorem dX9_fewest_159 : decode cX9_fewest 159 = .ok (.iinc 4 1, 3) := by decide +kernel
theorem dX9_fewest_162 : decode cX9_fewest 162 = .ok (.goto (-105), 3) := by decide +kernel
theorem dX9_fewest_165 : decode cX9_fewest 165 = .ok (.aload_n 0, 1) := by decide +kernel
theorem dX9_fewest_166 : decode cX9_fewest 166 = .ok (.getfield 34, 3) := by decide +kernel
theorem dX9_fewest_169 : decode cX9_fewest 169 = .ok (.aload_n 0, 1) := by decide +kernel
theorem dX9_fewest_170 : decode cX9_fewest 170 = .ok (.getfield 20, 3) := by decide +kernel
theorem dX9_fewest_173 : decode cX9_fewest 173 = .ok (.iload_n 2, 1) := by decide +kernel
theorem dX9_fewest_174 : decode cX9_fewest 174 = .ok (.invokevirtual 166, 3) := by decide +kernel
theorem dX9_fewest_177 : decode cX9_fewest 177 = .ok (.ifCond .ne 6, 3) := by decide +kernel
theorem dX9_fewest_180 : decode cX9_fewest 180 = .ok (.bipush (-9), 2) := by decide +kernel
theorem dX9_fewest_182 : decode cX9_fewest 182 = .ok (.ireturn, 1) := by decide +kernel
theorem dX9_fewest_183 : decode cX9_fewest 183 = .ok (.iload_n 3, 1) := by decide +kernel
theorem dX9_fewest_184 : decode cX9_fewest 184 = .ok (.iconst (-1), 1) := by decide +kernel
theorem dX9_fewest_185 : decode cX9_fewest 185 = .ok (.if_icmp .ne 13, 3) := by decide +kernel
theorem dX9_fewest_188 : decode cX9_fewest 188 = .ok (.aload_n 0, 1) := by decide +kernel
theorem dX9_fewest_189 : decode cX9_fewest 189 = .ok (.getfield 34, 3) := by decide +kernel
theorem dX9_fewest_192 : decode cX9_fewest 192 = .ok (.invokevirtual 170, 3) := by decide +kernel
theorem dX9_fewest_195 : decode cX9_fewest 195 = .ok (.goto 11, 3) := by decide +kernel
theorem dX9_fewest_198 : decode cX9_fewest 198 = .ok (.aload_n 0, 1) := by decide +kernel
theorem dX9_fewest_199 : decode cX9_fewest 199 = .ok (.getfield 34, 3) := by decide +kernel
theorem dX9_fewest_202 : decode cX9_fewest 202 = .ok (.iload_n 3, 1) := by decide +kernel
theorem dX9_fewest_203 : decode cX9_fewest 203 = .ok (.invokevirtual 173, 3) := by decide +kernel
theorem dX9_fewest_206 : decode cX9_fewest 206 = .ok (.ireturn, 1) := by decide +kernel
theorem dX9_reach_0 : decode cX9_reach 0 = .ok (.aload_n 0, 1) := by decide +kernel
theorem dX9_reach_1 : decode cX9_reach 1 = .ok (.getfield 20, 3) := by decide +kernel
theorem dX9_reach_4 : decode cX9_reach 4 = .ok (.iload_n 2, 1) := by decide +kernel
theorem dX9_reach_5 : decode cX9_reach 5 = .ok (.invokevirtual 88, 3) := by decide +kernel
theorem dX9_reach_8 : decode cX9_reach 8 = .ok (.ifCond .ne 5, 3) := by decide +kernel
theorem dX9_reach_11 : decode cX9_reach 11 = .ok (.iconst (-1), 1) := by decide +kernel
theorem dX9_reach_12 : decode cX9_reach 12 = .ok (.ireturn, 1) := by decide +kernel
theorem dX9_reach_13 : decode cX9_reach 13 = .ok (.iload_n 1, 1) := by decide +kernel
theorem dX9_reach_14 : decode cX9_reach 14 = .ok (.iconst 1, 1) := by decide +kernel
theorem dX9_reach_15 : decode cX9_reach 15 = .ok (.if_icmp .lt 10, 3) := by decide +kernel
theorem dX9_reach_18 : decode cX9_reach 18 = .ok (.iload_n 1, 1) := by decide +kernel
theorem dX9_reach_19 : decode cX9_reach 19 = .ok (.sipush 999, 3) := by decide +kernel
theorem dX9_reach_22 : decode cX9_reach 22 = .ok (.if_icmp .le 6, 3) := by decide +kernel
theorem dX9_reach_25 : decode cX9_reach 25 = .ok (.bipush (-2), 2) := by decide +kernel
theorem dX9_reach_27 : decode cX9_reach 27 = .ok (.ireturn, 1) := by decide +kernel
theorem dX9_reach_28 : decode cX9_reach 28 = .ok (.aload_n 0, 1) := by decide +kernel
theorem dX9_reach_29 : decode cX9_reach 29 = .ok (.getfield 20, 3) := by decide +kernel
theorem dX9_reach_32 : decode cX9_reach 32 = .ok (.iload_n 1, 1) := by decide +kernel
theorem dX9_reach_33 : decode cX9_reach 33 = .ok (.iload_n 2, 1) := by decide +kernel
theorem dX9_reach_34 : decode cX9_reach 34 = .ok (.invokevirtual 176, 3) := by decide +kernel
theorem dX9_reach_37 : decode cX9_reach 37 = .ok (.ireturn, 1) := by decide +kernel
theorem dX9_strangers_0 : decode cX9_strangers 0 = .ok (.aload_n 0, 1) := by decide +kernel
theorem dX9_strangers_1 : decode cX9_strangers 1 = .ok (.getfield 20, 3) := by decide +kernel
theorem dX9_strangers_4 : decode cX9_strangers 4 = .ok (.iload_n 1, 1) := by decide +kernel
theorem dX9_strangers_5 : decode cX9_strangers 5 = .ok (.invokevirtual 88, 3) := by decide +kernel
theorem dX9_strangers_8 : decode cX9_strangers 8 = .ok (.ifCond .eq 19, 3) := by decide +kernel
theorem dX9_strangers_11 : decode cX9_strangers 11 = .ok (.aload_n 0, 1) := by decide +kernel
theorem dX9_strangers_12 : decode cX9_strangers 12 = .ok (.getfield 20, 3) := by decide +kernel
theorem dX9_strangers_15 : decode cX9_strangers 15 = .ok (.iload_n 2, 1) := by decide +kernel
theorem dX9_strangers_16 : decode cX9_strangers 16 = .ok (.invokevirtual 88, 3) := by decide +kernel
theorem dX9_strangers_19 : decode cX9_strangers 19 = .ok (.ifCond .eq 8, 3) := by decide +kernel
theorem dX9_strangers_22 : decode cX9_strangers 22 = .ok (.iload_n 3, 1) := by decide +kernel
theorem dX9_strangers_23 : decode cX9_strangers 23 = .ok (.iconst (-1), 1) := by decide +kernel
theorem dX9_strangers_24 : decode cX9_strangers 24 = .ok (.if_icmp .ge 5, 3) := by decide +kernel
theorem dX9_strangers_27 : decode cX9_strangers 27 = .ok (.iconst (-1), 1) := by decide +kernel
theorem dX9_strangers_28 : decode cX9_strangers 28 = .ok (.ireturn, 1) := by decide +kernel
theorem dX9_strangers_29 : decode cX9_strangers 29 = .ok (.iconst 0, 1) := by decide +kernel
theorem dX9_strangers_30 : decode cX9_strangers 30 = .ok (.istore 4, 2) := by decide +kernel
theorem dX9_strangers_32 : decode cX9_strangers 32 = .ok (.bipush 10, 2) := by decide +kernel
theorem dX9_strangers_34 : decode cX9_strangers 34 = .ok (.istore 5, 2) := by decide +kernel
theorem dX9_strangers_36 : decode cX9_strangers 36 = .ok (.iload 5, 2) := by decide +kernel
theorem dX9_strangers_38 : decode cX9_strangers 38 = .ok (.bipush 99, 2) := by decide +kernel
theorem dX9_strangers_40 : decode cX9_strangers 40 = .ok (.if_icmp .gt 35, 3) := by decide +kernel
theorem dX9_strangers_43 : decode cX9_strangers 43 = .ok (.aload_n 0, 1) := by decide +kernel
theorem dX9_strangers_44 : decode cX9_strangers 44 = .ok (.getfield 20, 3) := by decide +kernel
theorem dX9_strangers_47 : decode cX9_strangers 47 = .ok (.iload 5, 2) := by decide +kernel
theorem dX9_strangers_49 : decode cX9_strangers 49 = .ok (.iload_n 1, 1) := by decide +kernel
theorem dX9_strangers_50 : decode cX9_strangers 50 = .ok (.iload_n 2, 1) := by decide +kernel
theorem dX9_strangers_51 : decode cX9_strangers 51 = .ok (.invokevirtual 179, 3) := by decide +kernel
theorem dX9_strangers_54 : decode cX9_strangers 54 = .ok (.ifCond .eq 15, 3) := by decide +kernel
theorem dX9_strangers_57 : decode cX9_strangers 57 = .ok (.iload 4, 2) := by decide +kernel
theorem dX9_strangers_59 : decode cX9_strangers 59 = .ok (.iload_n 3, 1) := by decide +kernel
theorem dX9_strangers_60 : decode cX9_strangers 60 = .ok (.if_icmp .ne 6, 3) := by decide +kernel
theorem dX9_strangers_63 : decode cX9_strangers 63 = .ok (.iload 5, 2) := by decide +kernel
theorem dX9_strangers_65 : decode cX9_strangers 65 = .ok (.ireturn, 1) := by decide +kernel
theorem dX9_strangers_66 : decode cX9_strangers 66 = .ok (.iinc 4 1, 3) := by decide +kernel
theorem dX9_strangers_69 : decode cX9_strangers 69 = .ok (.iinc 5 1, 3) := by decide +kernel
theorem dX9_strangers_72 : decode cX9_strangers 72 = .ok (.goto (-36), 3) := by decide +kernel
theorem dX9_strangers_75 : decode cX9_strangers 75 = .ok (.iload_n 3, 1) := by decide +kernel
theorem dX9_strangers_76 : decode cX9_strangers 76 = .ok (.iconst (-1), 1) := by decide +kernel
theorem dX9_strangers_77 : decode cX9_strangers 77 = .ok (.if_icmp .ne 8, 3) := by decide +kernel
theorem dX9_strangers_80 : decode cX9_strangers 80 = .ok (.iload 4, 2) := by decide +kernel
theorem dX9_strangers_82 : decode cX9_strangers 82 = .ok (.goto 5, 3) := by decide +kernel
theorem dX9_strangers_85 : decode cX9_strangers 85 = .ok (.bipush (-9), 2) := by decide +kernel
theorem dX9_strangers_87 : decode cX9_strangers 87 = .ok (.ireturn, 1) := by decide +kernel
theorem dX9_laid_0 : decode cX9_laid 0 = .ok (.aload_n 0, 1) := by decide +kernel
theorem dX9_laid_1 : decode cX9_laid 1 = .ok (.getfield 27, 3) := by decide +kernel
theorem dX9_laid_4 : decode cX9_laid 4 = .ok (.iload_n 1, 1) := by decide +kernel
theorem dX9_laid_5 : decode cX9_laid 5 = .ok (.invokevirtual 107, 3) := by decide +kernel
theorem dX9_laid_8 : decode cX9_laid 8 = .ok (.ifCond .eq 24, 3) := by decide +kernel
theorem dX9_laid_11 : decode cX9_laid 11 = .ok (.aload_n 0, 1) := by decide +kernel
theorem dX9_laid_12 : decode cX9_laid 12 = .ok (.getfield 20, 3) := by decide +kernel
theorem dX9_laid_15 : decode cX9_laid 15 = .ok (.iload_n 2, 1) := by decide +kernel
theorem dX9_laid_16 : decode cX9_laid 16 = .ok (.invokevirtual 88, 3) := by decide +kernel
theorem dX9_laid_19 : decode cX9_laid 19 = .ok (.ifCond .eq 13, 3) := by decide +kernel
theorem dX9_laid_22 : decode cX9_laid 22 = .ok (.iload_n 3, 1) := by decide +kernel
theorem dX9_laid_23 : decode cX9_laid 23 = .ok (.iconst (-1), 1) := by decide +kernel
theorem dX9_laid_24 : decode cX9_laid 24 = .ok (.if_icmp .lt 8, 3) := by decide +kernel
theorem dX9_laid_27 : decode cX9_laid 27 = .ok (.iload_n 3, 1) := by decide +kernel
theorem dX9_laid_28 : decode cX9_laid 28 = .ok (.iconst 1, 1) := by decide +kernel
theorem dX9_laid_29 : decode cX9_laid 29 = .ok (.if_icmp .le 5, 3) := by decide +kernel
theorem dX9_laid_32 : decode cX9_laid 32 = .ok (.iconst (-1), 1) := by decide +kernel
theorem dX9_laid_33 : decode cX9_laid 33 = .ok (.ireturn, 1) := by decide +kernel
theorem dX9_laid_34 : decode cX9_laid 34 = .ok (.aload_n 0, 1) := by decide +kernel
theorem dX9_laid_35 : decode cX9_laid 35 = .ok (.getfield 27, 3) := by decide +kernel
theorem dX9_laid_38 : decode cX9_laid 38 = .ok (.iload_n 1, 1) := by decide +kernel
theorem dX9_laid_39 : decode cX9_laid 39 = .ok (.invokevirtual 116, 3) := by decide +kernel
theorem dX9_laid_42 : decode cX9_laid 42 = .ok (.ifCond .eq 6, 3) := by decide +kernel
theorem dX9_laid_45 : decode cX9_laid 45 = .ok (.bipush (-3), 2) := by decide +kernel
theorem dX9_laid_47 : decode cX9_laid 47 = .ok (.ireturn, 1) := by decide +kernel
theorem dX9_laid_48 : decode cX9_laid 48 = .ok (.iconst 0, 1) := by decide +kernel
theorem dX9_laid_49 : decode cX9_laid 49 = .ok (.istore 4, 2) := by decide +kernel
theorem dX9_laid_51 : decode cX9_laid 51 = .ok (.iload 4, 2) := by decide +kernel
theorem dX9_laid_53 : decode cX9_laid 53 = .ok (.bipush 20, 2) := by decide +kernel
theorem dX9_laid_55 : decode cX9_laid 55 = .ok (.if_icmp .gt 48, 3) := by decide +kernel
theorem dX9_laid_58 : decode cX9_laid 58 = .ok (.iload 4, 2) := by decide +kernel
theorem dX9_laid_60 : decode cX9_laid 60 = .ok (.istore 5, 2) := by decide +kernel
theorem dX9_laid_62 : decode cX9_laid 62 = .ok (.iload 5, 2) := by decide +kernel
theorem dX9_laid_64 : decode cX9_laid 64 = .ok (.bipush 20, 2) := by decide +kernel
theorem dX9_laid_66 : decode cX9_laid 66 = .ok (.if_icmp .gt 31, 3) := by decide +kernel
theorem dX9_laid_69 : decode cX9_laid 69 = .ok (.aload_n 0, 1) := by decide +kernel
theorem dX9_laid_70 : decode cX9_laid 70 = .ok (.iload_n 1, 1) := by decide +kernel
theorem dX9_laid_71 : decode cX9_laid 71 = .ok (.iload_n 2, 1) := by decide +kernel
theorem dX9_laid_72 : decode cX9_laid 72 = .ok (.iload 4, 2) := by decide +kernel
theorem dX9_laid_74 : decode cX9_laid 74 = .ok (.iload 5, 2) := by decide +kernel
theorem dX9_laid_76 : decode cX9_laid 76 = .ok (.invokevirtual 183, 3) := by decide +kernel
theorem dX9_laid_79 : decode cX9_laid 79 = .ok (.ifCond .eq 12, 3) := by decide +kernel
theorem dX9_laid_82 : decode cX9_laid 82 = .ok (.iload 4, 2) := by decide +kernel
theorem dX9_laid_84 : decode cX9_laid 84 = .ok (.iload 5, 2) := by decide +kernel
theorem dX9_laid_86 : decode cX9_laid 86 = .ok (.iload_n 3, 1) := by decide +kernel
theorem dX9_laid_87 : decode cX9_laid 87 = .ok (.invokestatic 187, 3) := by decide +kernel
theorem dX9_laid_90 : decode cX9_laid 90 = .ok (.ireturn, 1) := by decide +kernel
theorem dX9_laid_91 : decode cX9_laid 91 = .ok (.iinc 5 1, 3) := by decide +kernel
theorem dX9_laid_94 : decode cX9_laid 94 = .ok (.goto (-32), 3) := by decide +kernel
theorem dX9_laid_97 : decode cX9_laid 97 = .ok (.iinc 4 1, 3) := by decide +kernel
theorem dX9_laid_100 : decode cX9_laid 100 = .ok (.goto (-49), 3) := by decide +kernel
theorem dX9_laid_103 : decode cX9_laid 103 = .ok (.bipush (-9), 2) := by decide +kernel
theorem dX9_laid_105 : decode cX9_laid 105 = .ok (.ireturn, 1) := by decide +kernel
theorem dX9_guest_0 : decode cX9_guest 0 = .ok (.aload_n 0, 1) := by decide +kernel
theorem dX9_guest_1 : decode cX9_guest 1 = .ok (.getfield 27, 3) := by decide +kernel
theorem dX9_guest_4 : decode cX9_guest 4 = .ok (.iload_n 1, 1) := by decide +kernel
theorem dX9_guest_5 : decode cX9_guest 5 = .ok (.invokevirtual 107, 3) := by decide +kernel
theorem dX9_guest_8 : decode cX9_guest 8 = .ok (.ifCond .eq 14, 3) := by decide +kernel
theorem dX9_guest_11 : decode cX9_guest 11 = .ok (.aload_n 0, 1) := by decide +kernel
theorem dX9_guest_12 : decode cX9_guest 12 = .ok (.getfield 20, 3) := by decide +kernel
theorem dX9_guest_15 : decode cX9_guest 15 = .ok (.iload_n 2, 1) := by decide +kernel
theorem dX9_guest_16 : decode cX9_guest 16 = .ok (.invokevirtual 88, 3) := by decide +kernel
theorem dX9_guest_19 : decode cX9_guest 19 = .ok (.ifCond .ne 5, 3) := by decide +kernel
theorem dX9_guest_22 : decode cX9_guest 22 = .ok (.iconst (-1), 1) := by decide +kernel
theorem dX9_guest_23 : decode cX9_guest 23 = .ok (.ireturn, 1) := by decide +kernel
theorem dX9_guest_24 : decode cX9_guest 24 = .ok (.iconst 0, 1) := by decide +kernel
theorem dX9_guest_25 : decode cX9_guest 25 = .ok (.istore_n 3, 1) := by decide +kernel
theorem dX9_guest_26 : decode cX9_guest 26 = .ok (.iload_n 3, 1) := by decide +kernel
theorem dX9_guest_27 : decode cX9_guest 27 = .ok (.bipush 30, 2) := by decide +kernel
theorem dX9_guest_29 : decode cX9_guest 29 = .ok (.if_icmp .gt 40, 3) := by decide +kernel
theorem dX9_guest_32 : decode cX9_guest 32 = .ok (.aload_n 0, 1) := by decide +kernel
theorem dX9_guest_33 : decode cX9_guest 33 = .ok (.iload_n 1, 1) := by decide +kernel
theorem dX9_guest_34 : decode cX9_guest 34 = .ok (.iload_n 2, 1) := by decide +kernel
theorem dX9_guest_35 : decode cX9_guest 35 = .ok (.iload_n 3, 1) := by decide +kernel
theorem dX9_guest_36 : decode cX9_guest 36 = .ok (.ineg, 1) := by decide +kernel
theorem dX9_guest_37 : decode cX9_guest 37 = .ok (.invokevirtual 191, 3) := by decide +kernel
theorem dX9_guest_40 : decode cX9_guest 40 = .ok (.ifCond .eq 8, 3) := by decide +kernel
theorem dX9_guest_43 : decode cX9_guest 43 = .ok (.bipush 100, 2) := by decide +kernel
theorem dX9_guest_45 : decode cX9_guest 45 = .ok (.iload_n 3, 1) := by decide +kernel
theorem dX9_guest_46 : decode cX9_guest 46 = .ok (.isub, 1) := by decide +kernel
theorem dX9_guest_47 : decode cX9_guest 47 = .ok (.ireturn, 1) := by decide +kernel
theorem dX9_guest_48 : decode cX9_guest 48 = .ok (.aload_n 0, 1) := by decide +kernel
theorem dX9_guest_49 : decode cX9_guest 49 = .ok (.iload_n 1, 1) := by decide +kernel
theorem dX9_guest_50 : decode cX9_guest 50 = .ok (.iload_n 2, 1) := by decide +kernel
theorem dX9_guest_51 : decode cX9_guest 51 = .ok (.iload_n 3, 1) := by decide +kernel
theorem dX9_guest_52 : decode cX9_guest 52 = .ok (.invokevirtual 191, 3) := by decide +kernel
theorem dX9_guest_55 : decode cX9_guest 55 = .ok (.ifCond .eq 8, 3) := by decide +kernel
theorem dX9_guest_58 : decode cX9_guest 58 = .ok (.bipush 100, 2) := by decide +kernel
theorem dX9_guest_60 : decode cX9_guest 60 = .ok (.iload_n 3, 1) := by decide +kernel
theorem dX9_guest_61 : decode cX9_guest 61 = .ok (.iadd, 1) := by decide +kernel
theorem dX9_guest_62 : decode cX9_guest 62 = .ok (.ireturn, 1) := by decide +kernel
theorem dX9_guest_63 : decode cX9_guest 63 = .ok (.iinc 3 1, 3) := by decide +kernel
theorem dX9_guest_66 : decode cX9_guest 66 = .ok (.goto (-40), 3) := by decide +kernel
theorem dX9_guest_69 : decode cX9_guest 69 = .ok (.bipush (-9), 2) := by decide +kernel
theorem dX9_guest_71 : decode cX9_guest 71 = .ok (.ireturn, 1) := by decide +kernel
theorem dX9_heard_0 : decode cX9_heard 0 = .ok (.aload_n 0, 1) := by decide +kernel
theorem dX9_heard_1 : decode cX9_heard 1 = .ok (.iload_n 1, 1) := by decide +kernel
theorem dX9_heard_2 : decode cX9_heard 2 = .ok (.iload_n 2, 1) := by decide +kernel
theorem dX9_heard_3 : decode cX9_heard 3 = .ok (.iload_n 3, 1) := by decide +kernel
theorem dX9_heard_4 : decode cX9_heard 4 = .ok (.iload 4, 2) := by decide +kernel
theorem dX9_heard_6 : decode cX9_heard 6 = .ok (.invokevirtual 194, 3) := by decide +kernel
theorem dX9_heard_9 : decode cX9_heard 9 = .ok (.istore 5, 2) := by decide +kernel
theorem dX9_heard_11 : decode cX9_heard 11 = .ok (.iload 5, 2) := by decide +kernel
theorem dX9_heard_13 : decode cX9_heard 13 = .ok (.ifCond .eq 6, 3) := by decide +kernel
theorem dX9_heard_16 : decode cX9_heard 16 = .ok (.iload 5, 2) := by decide +kernel
theorem dX9_heard_18 : decode cX9_heard 18 = .ok (.ireturn, 1) := by decide +kernel
theorem dX9_heard_19 : decode cX9_heard 19 = .ok (.iconst 0, 1) := by decide +kernel
theorem dX9_heard_20 : decode cX9_heard 20 = .ok (.istore 6, 2) := by decide +kernel
theorem dX9_heard_22 : decode cX9_heard 22 = .ok (.iconst 0, 1) := by decide +kernel
theorem dX9_heard_23 : decode cX9_heard 23 = .ok (.istore 7, 2) := by decide +kernel
theorem dX9_heard_25 : decode cX9_heard 25 = .ok (.iload 7, 2) := by decide +kernel
theorem dX9_heard_27 : decode cX9_heard 27 = .ok (.aload_n 0, 1) := by decide +kernel
theorem dX9_heard_28 : decode cX9_heard 28 = .ok (.getfield 27, 3) := by decide +kernel
theorem dX9_heard_31 : decode cX9_heard 31 = .ok (.getfield 94, 3) := by decide +kernel
theorem dX9_heard_34 : decode cX9_heard 34 = .ok (.if_icmp .ge 56, 3) := by decide +kernel
theorem dX9_heard_37 : decode cX9_heard 37 = .ok (.aload_n 0, 1) := by decide +kernel
theorem dX9_heard_38 : decode cX9_heard 38 = .ok (.aload_n 0, 1) := by decide +kernel
theorem dX9_heard_39 : decode cX9_heard 39 = .ok (.getfield 13, 3) := by decide +kernel
theorem dX9_heard_42 : decode cX9_heard 42 = .ok (.iload_n 1, 1) := by decide +kernel
theorem dX9_heard_43 : decode cX9_heard 43 = .ok (.aaload, 1) := by decide +kernel
theorem dX9_heard_44 : decode cX9_heard 44 = .ok (.getfield 52, 3) := by decide +kernel
theorem dX9_heard_47 : decode cX9_heard 47 = .ok (.iload_n 3, 1) := by decide +kernel
theorem dX9_heard_48 : decode cX9_heard 48 = .ok (.iload 4, 2) := by decide +kernel
theorem dX9_heard_50 : decode cX9_heard 50 = .ok (.aload_n 0, 1) := by decide +kernel
theorem dX9_heard_51 : decode cX9_heard 51 = .ok (.getfield 27, 3) := by decide +kernel
theorem dX9_heard_54 : decode cX9_heard 54 = .ok (.iload 7, 2) := by decide +kernel
theorem dX9_heard_56 : decode cX9_heard 56 = .ok (.invokevirtual 119, 3) := by decide +kernel
theorem dX9_heard_59 : decode cX9_heard 59 = .ok (.aload_n 0, 1) := by decide +kernel
theorem dX9_heard_60 : decode cX9_heard 60 = .ok (.getfield 27, 3) := by decide +kernel
theorem dX9_heard_63 : decode cX9_heard 63 = .ok (.getfield 113, 3) := by decide +kernel
theorem dX9_heard_66 : decode cX9_heard 66 = .ok (.iload 7, 2) := by decide +kernel
theorem dX9_heard_68 : decode cX9_heard 68 = .ok (.iaload, 1) := by decide +kernel
theorem dX9_heard_69 : decode cX9_heard 69 = .ok (.invokevirtual 197, 3) := by decide +kernel
theorem dX9_heard_72 : decode cX9_heard 72 = .ok (.ifCond .eq 12, 3) := by decide +kernel
theorem dX9_heard_75 : decode cX9_heard 75 = .ok (.iload 6, 2) := by decide +kernel
theorem dX9_heard_77 : decode cX9_heard 77 = .ok (.iconst 1, 1) := by decide +kernel
theorem dX9_heard_78 : decode cX9_heard 78 = .ok (.iload 7, 2) := by decide +kernel
theorem dX9_heard_80 : decode cX9_heard 80 = .ok (.ishl, 1) := by decide +kernel
theorem dX9_heard_81 : decode cX9_heard 81 = .ok (.ior, 1) := by decide +kernel
theorem dX9_heard_82 : decode cX9_heard 82 = .ok (.istore 6, 2) := by decide +kernel
theorem dX9_heard_84 : decode cX9_heard 84 = .ok (.iinc 7 1, 3) := by decide +kernel
theorem dX9_heard_87 : decode cX9_heard 87 = .ok (.goto (-62), 3) := by decide +kernel
theorem dX9_heard_90 : decode cX9_heard 90 = .ok (.iload 6, 2) := by decide +kernel
theorem dX9_heard_92 : decode cX9_heard 92 = .ok (.ireturn, 1) := by decide +kernel
theorem dX9_byStrangers_0 : decode cX9_byStrangers 0 = .ok (.aload_n 0, 1) := by decide +kernel
theorem dX9_byStrangers_1 : decode cX9_byStrangers 1 = .ok (.iconst 0, 1) := by decide +kernel
theorem dX9_byStrangers_2 : decode cX9_byStrangers 2 = .ok (.putfield 201, 3) := by decide +kernel
theorem dX9_byStrangers_5 : decode cX9_byStrangers 5 = .ok (.aload_n 0, 1) := by decide +kernel
theorem dX9_byStrangers_6 : decode cX9_byStrangers 6 = .ok (.getfield 20, 3) := by decide +kernel
theorem dX9_byStrangers_9 : decode cX9_byStrangers 9 = .ok (.iload_n 1, 1) := by decide +kernel
theorem dX9_byStrangers_10 : decode cX9_byStrangers 10 = .ok (.invokevirtual 88, 3) := by decide +kernel
theorem dX9_byStrangers_13 : decode cX9_byStrangers 13 = .ok (.ifCond .ne 5, 3) := by decide +kernel
theorem dX9_byStrangers_16 : decode cX9_byStrangers 16 = .ok (.iconst (-1), 1) := by decide +kernel
theorem dX9_byStrangers_17 : decode cX9_byStrangers 17 = .ok (.ireturn, 1) := by decide +kernel
theorem dX9_byStrangers_18 : decode cX9_byStrangers 18 = .ok (.aload_n 0, 1) := by decide +kernel
theorem dX9_byStrangers_19 : decode cX9_byStrangers 19 = .ok (.iload_n 2, 1) := by decide +kernel
theorem dX9_byStrangers_20 : decode cX9_byStrangers 20 = .ok (.iload_n 3, 1) := by decide +kernel
theorem dX9_byStrangers_21 : decode cX9_byStrangers 21 = .ok (.iload 4, 2) := by decide +kernel
theorem dX9_byStrangers_23 : decode cX9_byStrangers 23 = .ok (.iload 5, 2) := by decide +kernel
theorem dX9_byStrangers_25 : decode cX9_byStrangers 25 = .ok (.invokevirtual 194, 3) := by decide +kernel
theorem dX9_byStrangers_28 : decode cX9_byStrangers 28 = .ok (.istore 6, 2) := by decide +kernel
theorem dX9_byStrangers_30 : decode cX9_byStrangers 30 = .ok (.iload 6, 2) := by decide +kernel
theorem dX9_byStrangers_32 : decode cX9_byStrangers 32 = .ok (.ifCond .eq 6, 3) := by decide +kernel
theorem dX9_byStrangers_35 : decode cX9_byStrangers 35 = .ok (.iload 6, 2) := by decide +kernel
theorem dX9_byStrangers_37 : decode cX9_byStrangers 37 = .ok (.ireturn, 1) := by decide +kernel
theorem dX9_byStrangers_38 : decode cX9_byStrangers 38 = .ok (.iconst 0, 1) := by decide +kernel
theorem dX9_byStrangers_39 : decode cX9_byStrangers 39 = .ok (.istore 7, 2) := by decide +kernel
theorem dX9_byStrangers_41 : decode cX9_byStrangers 41 = .ok (.bipush 10, 2) := by decide +kernel
theorem dX9_byStrangers_43 : decode cX9_byStrangers 43 = .ok (.istore 8, 2) := by decide +kernel
theorem dX9_byStrangers_45 : decode cX9_byStrangers 45 = .ok (.iload 8, 2) := by decide +kernel
theorem dX9_byStrangers_47 : decode cX9_byStrangers 47 = .ok (.bipush 99, 2) := by decide +kernel
theorem dX9_byStrangers_49 : decode cX9_byStrangers 49 = .ok (.if_icmp .gt 35, 3) := by decide +kernel
theorem dX9_byStrangers_52 : decode cX9_byStrangers 52 = .ok (.aload_n 0, 1) := by decide +kernel
theorem dX9_byStrangers_53 : decode cX9_byStrangers 53 = .ok (.aload_n 0, 1) := by decide +kernel
theorem dX9_byStrangers_54 : decode cX9_byStrangers 54 = .ok (.getfield 13, 3) := by decide +kernel
theorem dX9_byStrangers_57 : decode cX9_byStrangers 57 = .ok (.iload_n 2, 1) := by decide +kernel
theorem dX9_byStrangers_58 : decode cX9_byStrangers 58 = .ok (.aaload, 1) := by decide +kernel
theorem dX9_byStrangers_59 : decode cX9_byStrangers 59 = .ok (.getfield 52, 3) := by decide +kernel
theorem dX9_byStrangers_62 : decode cX9_byStrangers 62 = .ok (.iload 4, 2) := by decide +kernel
theorem dX9_byStrangers_64 : decode cX9_byStrangers 64 = .ok (.iload 5, 2) := by decide +kernel
theorem dX9_byStrangers_66 : decode cX9_byStrangers 66 = .ok (.iload 8, 2) := by decide +kernel
theorem dX9_byStrangers_68 : decode cX9_byStrangers 68 = .ok (.iload_n 1, 1) := by decide +kernel
theorem dX9_byStrangers_69 : decode cX9_byStrangers 69 = .ok (.invokevirtual 197, 3) := by decide +kernel
theorem dX9_byStrangers_72 : decode cX9_byStrangers 72 = .ok (.ifCond .eq 6, 3) := by decide +kernel
theorem dX9_byStrangers_75 : decode cX9_byStrangers 75 = .ok (.iinc 7 1, 3) := by decide +kernel
theorem dX9_byStrangers_78 : decode cX9_byStrangers 78 = .ok (.iinc 8 1, 3) := by decide +kernel
theorem dX9_byStrangers_81 : decode cX9_byStrangers 81 = .ok (.goto (-36), 3) := by decide +kernel
theorem dX9_byStrangers_84 : decode cX9_byStrangers 84 = .ok (.iload 7, 2) := by decide +kernel
theorem dX9_byStrangers_86 : decode cX9_byStrangers 86 = .ok (.ireturn, 1) := by decide +kernel
theorem dX9_grows_0 : decode cX9_grows 0 = .ok (.aload_n 0, 1) := by decide +kernel
theorem dX9_grows_1 : decode cX9_grows 1 = .ok (.getfield 27, 3) := by decide +kernel
theorem dX9_grows_4 : decode cX9_grows 4 = .ok (.iload_n 1, 1) := by decide +kernel
theorem dX9_grows_5 : decode cX9_grows 5 = .ok (.invokevirtual 107, 3) := by decide +kernel
theorem dX9_grows_8 : decode cX9_grows 8 = .ok (.ifCond .eq 14, 3) := by decide +kernel
theorem dX9_grows_11 : decode cX9_grows 11 = .ok (.aload_n 0, 1) := by decide +kernel
theorem dX9_grows_12 : decode cX9_grows 12 = .ok (.getfield 20, 3) := by decide +kernel
theorem dX9_grows_15 : decode cX9_grows 15 = .ok (.iload_n 3, 1) := by decide +kernel
theorem dX9_grows_16 : decode cX9_grows 16 = .ok (.invokevirtual 88, 3) := by decide +kernel
theorem dX9_grows_19 : decode cX9_grows 19 = .ok (.ifCond .ne 5, 3) := by decide +kernel
theorem dX9_grows_22 : decode cX9_grows 22 = .ok (.iconst (-1), 1) := by decide +kernel
theorem dX9_grows_23 : decode cX9_grows 23 = .ok (.ireturn, 1) := by decide +kernel
theorem dX9_grows_24 : decode cX9_grows 24 = .ok (.iload_n 2, 1) := by decide +kernel
theorem dX9_grows_25 : decode cX9_grows 25 = .ok (.ifCond .lt 9, 3) := by decide +kernel
theorem dX9_grows_28 : decode cX9_grows 28 = .ok (.iload_n 2, 1) := by decide +kernel
theorem dX9_grows_29 : decode cX9_grows 29 = .ok (.bipush 9, 2) := by decide +kernel
theorem dX9_grows_31 : decode cX9_grows 31 = .ok (.if_icmp .le 6, 3) := by decide +kernel
theorem dX9_grows_34 : decode cX9_grows 34 = .ok (.bipush (-2), 2) := by decide +kernel
theorem dX9_grows_36 : decode cX9_grows 36 = .ok (.ireturn, 1) := by decide +kernel
theorem dX9_grows_37 : decode cX9_grows 37 = .ok (.iconst 0, 1) := by decide +kernel
theorem dX9_grows_38 : decode cX9_grows 38 = .ok (.istore 4, 2) := by decide +kernel
theorem dX9_grows_40 : decode cX9_grows 40 = .ok (.iload 4, 2) := by decide +kernel
theorem dX9_grows_42 : decode cX9_grows 42 = .ok (.bipush 30, 2) := by decide +kernel
theorem dX9_grows_44 : decode cX9_grows 44 = .ok (.if_icmp .gt 46, 3) := by decide +kernel
theorem dX9_grows_47 : decode cX9_grows 47 = .ok (.aload_n 0, 1) := by decide +kernel
theorem dX9_grows_48 : decode cX9_grows 48 = .ok (.getfield 20, 3) := by decide +kernel
theorem dX9_grows_51 : decode cX9_grows 51 = .ok (.aload_n 0, 1) := by decide +kernel
theorem dX9_grows_52 : decode cX9_grows 52 = .ok (.getfield 27, 3) := by decide +kernel
theorem dX9_grows_55 : decode cX9_grows 55 = .ok (.getfield 110, 3) := by decide +kernel
theorem dX9_grows_58 : decode cX9_grows 58 = .ok (.iload_n 1, 1) := by decide +kernel
theorem dX9_grows_59 : decode cX9_grows 59 = .ok (.iaload, 1) := by decide +kernel
theorem dX9_grows_60 : decode cX9_grows 60 = .ok (.iload_n 2, 1) := by decide +kernel
theorem dX9_grows_61 : decode cX9_grows 61 = .ok (.iload 4, 2) := by decide +kernel
theorem dX9_grows_63 : decode cX9_grows 63 = .ok (.imul, 1) := by decide +kernel
theorem dX9_grows_64 : decode cX9_grows 64 = .ok (.iadd, 1) := by decide +kernel
theorem dX9_grows_65 : decode cX9_grows 65 = .ok (.aload_n 0, 1) := by decide +kernel
theorem dX9_grows_66 : decode cX9_grows 66 = .ok (.getfield 27, 3) := by decide +kernel
theorem dX9_grows_69 : decode cX9_grows 69 = .ok (.getfield 113, 3) := by decide +kernel
theorem dX9_grows_72 : decode cX9_grows 72 = .ok (.iload_n 1, 1) := by decide +kernel
theorem dX9_grows_73 : decode cX9_grows 73 = .ok (.iaload, 1) := by decide +kernel
theorem dX9_grows_74 : decode cX9_grows 74 = .ok (.iload_n 3, 1) := by decide +kernel
theorem dX9_grows_75 : decode cX9_grows 75 = .ok (.invokevirtual 179, 3) := by decide +kernel
theorem dX9_grows_78 : decode cX9_grows 78 = .ok (.ifCond .ne 6, 3) := by decide +kernel
theorem dX9_grows_81 : decode cX9_grows 81 = .ok (.iload 4, 2) := by decide +kernel
theorem dX9_grows_83 : decode cX9_grows 83 = .ok (.ireturn, 1) := by decide +kernel
theorem dX9_grows_84 : decode cX9_grows 84 = .ok (.iinc 4 1, 3) := by decide +kernel
theorem dX9_grows_87 : decode cX9_grows 87 = .ok (.goto (-47), 3) := by decide +kernel
theorem dX9_grows_90 : decode cX9_grows 90 = .ok (.bipush (-9), 2) := by decide +kernel
theorem dX9_grows_92 : decode cX9_grows 92 = .ok (.ireturn, 1) := by decide +kernel
theorem dX9_sheet_0 : decode cX9_sheet 0 = .ok (.aload_n 0, 1) := by decide +kernel
theorem dX9_sheet_1 : decode cX9_sheet 1 = .ok (.iconst 0, 1) := by decide +kernel
theorem dX9_sheet_2 : decode cX9_sheet 2 = .ok (.putfield 201, 3) := by decide +kernel
theorem dX9_sheet_5 : decode cX9_sheet 5 = .ok (.iload_n 1, 1) := by decide +kernel
theorem dX9_sheet_6 : decode cX9_sheet 6 = .ok (.invokestatic 204, 3) := by decide +kernel
theorem dX9_sheet_9 : decode cX9_sheet 9 = .ok (.ifCond .ne 5, 3) := by decide +kernel
theorem dX9_sheet_12 : decode cX9_sheet 12 = .ok (.iconst (-1), 1) := by decide +kernel
theorem dX9_sheet_13 : decode cX9_sheet 13 = .ok (.ireturn, 1) := by decide +kernel
theorem dX9_sheet_14 : decode cX9_sheet 14 = .ok (.iload_n 2, 1) := by decide +kernel
theorem dX9_sheet_15 : decode cX9_sheet 15 = .ok (.invokestatic 207, 3) := by decide +kernel
theorem dX9_sheet_18 : decode cX9_sheet 18 = .ok (.ifCond .eq 9, 3) := by decide +kernel
theorem dX9_sheet_21 : decode cX9_sheet 21 = .ok (.iload_n 3, 1) := by decide +kernel
theorem dX9_sheet_22 : decode cX9_sheet 22 = .ok (.bipush 60, 2) := by decide +kernel
theorem dX9_sheet_24 : decode cX9_sheet 24 = .ok (.if_icmp .le 6, 3) := by decide +kernel
theorem dX9_sheet_27 : decode cX9_sheet 27 = .ok (.bipush (-2), 2) := by decide +kernel
theorem dX9_sheet_29 : decode cX9_sheet 29 = .ok (.ireturn, 1) := by decide +kernel
theorem dX9_sheet_30 : decode cX9_sheet 30 = .ok (.iload_n 3, 1) := by decide +kernel
theorem dX9_sheet_31 : decode cX9_sheet 31 = .ok (.ifCond .ge 9, 3) := by decide +kernel
theorem dX9_sheet_34 : decode cX9_sheet 34 = .ok (.aload_n 0, 1) := by decide +kernel
theorem dX9_sheet_35 : decode cX9_sheet 35 = .ok (.iconst 4, 1) := by decide +kernel
theorem dX9_sheet_36 : decode cX9_sheet 36 = .ok (.invokevirtual 210, 3) := by decide +kernel
theorem dX9_sheet_39 : decode cX9_sheet 39 = .ok (.ireturn, 1) := by decide +kernel
theorem dX9_sheet_40 : decode cX9_sheet 40 = .ok (.aload_n 0, 1) := by decide +kernel
theorem dX9_sheet_41 : decode cX9_sheet 41 = .ok (.getfield 13, 3) := by decide +kernel
theorem dX9_sheet_44 : decode cX9_sheet 44 = .ok (.iload_n 1, 1) := by decide +kernel
theorem dX9_sheet_45 : decode cX9_sheet 45 = .ok (.aaload, 1) := by decide +kernel
theorem dX9_sheet_46 : decode cX9_sheet 46 = .ok (.iload_n 2, 1) := by decide +kernel
theorem dX9_sheet_47 : decode cX9_sheet 47 = .ok (.iload_n 3, 1) := by decide +kernel
theorem dX9_sheet_48 : decode cX9_sheet 48 = .ok (.invokevirtual 213, 3) := by decide +kernel
theorem dX9_sheet_51 : decode cX9_sheet 51 = .ok (.iconst 1, 1) := by decide +kernel
theorem dX9_sheet_52 : decode cX9_sheet 52 = .ok (.ireturn, 1) := by decide +kernel
theorem dX9_lose_0 : decode cX9_lose 0 = .ok (.iload_n 1, 1) := by decide +kernel
theorem dX9_lose_1 : decode cX9_lose 1 = .ok (.invokestatic 204, 3) := by decide +kernel
theorem dX9_lose_4 : decode cX9_lose 4 = .ok (.ifCond .ne 5, 3) := by decide +kernel
theorem dX9_lose_7 : decode cX9_lose 7 = .ok (.iconst (-1), 1) := by decide +kernel
theorem dX9_lose_8 : decode cX9_lose 8 = .ok (.ireturn, 1) := by decide +kernel
theorem dX9_lose_9 : decode cX9_lose 9 = .ok (.aload_n 0, 1) := by decide +kernel
theorem dX9_lose_10 : decode cX9_lose 10 = .ok (.getfield 13, 3) := by decide +kernel
theorem dX9_lose_13 : decode cX9_lose 13 = .ok (.iload_n 1, 1) := by decide +kernel
theorem dX9_lose_14 : decode cX9_lose 14 = .ok (.aaload, 1) := by decide +kernel
theorem dX9_lose_15 : decode cX9_lose 15 = .ok (.invokevirtual 216, 3) := by decide +kernel
theorem dX9_lose_18 : decode cX9_lose 18 = .ok (.ifCond .eq 7, 3) := by decide +kernel
theorem dX9_lose_21 : decode cX9_lose 21 = .ok (.iconst 0, 1) := by decide +kernel
theorem dX9_lose_22 : decode cX9_lose 22 = .ok (.goto 4, 3) := by decide +kernel
theorem dX9_lose_25 : decode cX9_lose 25 = .ok (.iconst 1, 1) := by decide +kernel
theorem dX9_lose_26 : decode cX9_lose 26 = .ok (.istore_n 2, 1) := by decide +kernel
theorem dX9_lose_27 : decode cX9_lose 27 = .ok (.aload_n 0, 1) := by decide +kernel
theorem dX9_lose_28 : decode cX9_lose 28 = .ok (.getfield 13, 3) := by decide +kernel
theorem dX9_lose_31 : decode cX9_lose 31 = .ok (.iload_n 1, 1) := by decide +kernel
theorem dX9_lose_32 : decode cX9_lose 32 = .ok (.aaload, 1) := by decide +kernel
theorem dX9_lose_33 : decode cX9_lose 33 = .ok (.invokevirtual 220, 3) := by decide +kernel
theorem dX9_lose_36 : decode cX9_lose 36 = .ok (.iload_n 2, 1) := by decide +kernel
theorem dX9_lose_37 : decode cX9_lose 37 = .ok (.ireturn, 1) := by decide +kernel
theorem dX9_put_0 : decode cX9_put 0 = .ok (.aload_n 0, 1) := by decide +kernel
theorem dX9_put_1 : decode cX9_put 1 = .ok (.iconst 0, 1) := by decide +kernel
theorem dX9_put_2 : decode cX9_put 2 = .ok (.putfield 201, 3) := by decide +kernel
theorem dX9_put_5 : decode cX9_put 5 = .ok (.iload_n 1, 1) := by decide +kernel
theorem dX9_put_6 : decode cX9_put 6 = .ok (.invokestatic 204, 3) := by decide +kernel
theorem dX9_put_9 : decode cX9_put 9 = .ok (.ifCond .ne 5, 3) := by decide +kernel
theorem dX9_put_12 : decode cX9_put 12 = .ok (.iconst (-1), 1) := by decide +kernel
theorem dX9_put_13 : decode cX9_put 13 = .ok (.ireturn, 1) := by decide +kernel
theorem dX9_put_14 : decode cX9_put 14 = .ok (.aload_n 0, 1) := by decide +kernel
theorem dX9_put_15 : decode cX9_put 15 = .ok (.getfield 13, 3) := by decide +kernel
theorem dX9_put_18 : decode cX9_put 18 = .ok (.iload_n 1, 1) := by decide +kernel
theorem dX9_put_19 : decode cX9_put 19 = .ok (.aaload, 1) := by decide +kernel
theorem dX9_put_20 : decode cX9_put 20 = .ok (.invokevirtual 216, 3) := by decide +kernel
theorem dX9_put_23 : decode cX9_put 23 = .ok (.ifCond .eq 9, 3) := by decide +kernel
theorem dX9_put_26 : decode cX9_put 26 = .ok (.aload_n 0, 1) := by decide +kernel
theorem dX9_put_27 : decode cX9_put 27 = .ok (.iconst 1, 1) := by decide +kernel
theorem dX9_put_28 : decode cX9_put 28 = .ok (.invokevirtual 210, 3) := by decide +kernel
theorem dX9_put_31 : decode cX9_put 31 = .ok (.ireturn, 1) := by decide +kernel
theorem dX9_put_32 : decode cX9_put 32 = .ok (.aload_n 0, 1) := by decide +kernel
theorem dX9_put_33 : decode cX9_put 33 = .ok (.getfield 13, 3) := by decide +kernel
theorem dX9_put_36 : decode cX9_put 36 = .ok (.iload_n 1, 1) := by decide +kernel
theorem dX9_put_37 : decode cX9_put 37 = .ok (.aaload, 1) := by decide +kernel
theorem dX9_put_38 : decode cX9_put 38 = .ok (.iload_n 2, 1) := by decide +kernel
theorem dX9_put_39 : decode cX9_put 39 = .ok (.iconst 1, 1) := by decide +kernel
theorem dX9_put_40 : decode cX9_put 40 = .ok (.invokevirtual 223, 3) := by decide +kernel
theorem dX9_put_43 : decode cX9_put 43 = .ok (.ifCond .ne 9, 3) := by decide +kernel
theorem dX9_put_46 : decode cX9_put 46 = .ok (.aload_n 0, 1) := by decide +kernel
theorem dX9_put_47 : decode cX9_put 47 = .ok (.iconst 3, 1) := by decide +kernel
theorem dX9_put_48 : decode cX9_put 48 = .ok (.invokevirtual 210, 3) := by decide +kernel
theorem dX9_put_51 : decode cX9_put 51 = .ok (.ireturn, 1) := by decide +kernel
theorem dX9_put_52 : decode cX9_put 52 = .ok (.aload_n 0, 1) := by decide +kernel
theorem dX9_put_53 : decode cX9_put 53 = .ok (.getfield 13, 3) := by decide +kernel
theorem dX9_put_56 : decode cX9_put 56 = .ok (.iload_n 1, 1) := by decide +kernel
theorem dX9_put_57 : decode cX9_put 57 = .ok (.aaload, 1) := by decide +kernel
theorem dX9_put_58 : decode cX9_put 58 = .ok (.getfield 52, 3) := by decide +kernel
theorem dX9_put_61 : decode cX9_put 61 = .ok (.iload_n 2, 1) := by decide +kernel
theorem dX9_put_62 : decode cX9_put 62 = .ok (.aload_n 0, 1) := by decide +kernel
theorem dX9_put_63 : decode cX9_put 63 = .ok (.getfield 13, 3) := by decide +kernel
theorem dX9_put_66 : decode cX9_put 66 = .ok (.iload_n 1, 1) := by decide +kernel
theorem dX9_put_67 : decode cX9_put 67 = .ok (.aaload, 1) := by decide +kernel
theorem dX9_put_68 : decode cX9_put 68 = .ok (.iload_n 3, 1) := by decide +kernel
theorem dX9_put_69 : decode cX9_put 69 = .ok (.invokevirtual 227, 3) := by decide +kernel
theorem dX9_put_72 : decode cX9_put 72 = .ok (.iastore, 1) := by decide +kernel
theorem dX9_put_73 : decode cX9_put 73 = .ok (.iconst 1, 1) := by decide +kernel
theorem dX9_put_74 : decode cX9_put 74 = .ok (.ireturn, 1) := by decide +kernel
theorem dX9_cell_0 : decode cX9_cell 0 = .ok (.aload_n 0, 1) := by decide +kernel
theorem dX9_cell_1 : decode cX9_cell 1 = .ok (.iload_n 1, 1) := by decide +kernel
theorem dX9_cell_2 : decode cX9_cell 2 = .ok (.iload_n 3, 1) := by decide +kernel
theorem dX9_cell_3 : decode cX9_cell 3 = .ok (.iload_n 2, 1) := by decide +kernel
theorem dX9_cell_4 : decode cX9_cell 4 = .ok (.iconst 1, 1) := by decide +kernel
theorem dX9_cell_5 : decode cX9_cell 5 = .ok (.invokevirtual 46, 3) := by decide +kernel
theorem dX9_cell_8 : decode cX9_cell 8 = .ok (.ifCond .eq 9, 3) := by decide +kernel
theorem dX9_cell_11 : decode cX9_cell 11 = .ok (.ldc2_w 230, 3) := by decide +kernel
theorem dX9_cell_14 : decode cX9_cell 14 = .ok (.goto 15, 3) := by decide +kernel
theorem dX9_cell_17 : decode cX9_cell 17 = .ok (.aload_n 0, 1) := by decide +kernel
theorem dX9_cell_18 : decode cX9_cell 18 = .ok (.getfield 13, 3) := by decide +kernel
theorem dX9_cell_21 : decode cX9_cell 21 = .ok (.iload_n 1, 1) := by decide +kernel
theorem dX9_cell_22 : decode cX9_cell 22 = .ok (.aaload, 1) := by decide +kernel
theorem dX9_cell_23 : decode cX9_cell 23 = .ok (.getfield 52, 3) := by decide +kernel
theorem dX9_cell_26 : decode cX9_cell 26 = .ok (.iload_n 2, 1) := by decide +kernel
theorem dX9_cell_27 : decode cX9_cell 27 = .ok (.iaload, 1) := by decide +kernel
theorem dX9_cell_28 : decode cX9_cell 28 = .ok (.i2l, 1) := by decide +kernel
theorem dX9_cell_29 : decode cX9_cell 29 = .ok (.lreturn, 1) := by decide +kernel
theorem dX9_copy_0 : decode cX9_copy 0 = .ok (.aload_n 0, 1) := by decide +kernel
theorem dX9_copy_1 : decode cX9_copy 1 = .ok (.iconst 0, 1) := by decide +kernel
theorem dX9_copy_2 : decode cX9_copy 2 = .ok (.putfield 201, 3) := by decide +kernel
theorem dX9_copy_5 : decode cX9_copy 5 = .ok (.iload_n 1, 1) := by decide +kernel
theorem dX9_copy_6 : decode cX9_copy 6 = .ok (.invokestatic 204, 3) := by decide +kernel
theorem dX9_copy_9 : decode cX9_copy 9 = .ok (.ifCond .eq 10, 3) := by decide +kernel
theorem dX9_copy_12 : decode cX9_copy 12 = .ok (.iload_n 3, 1) := by decide +kernel
theorem dX9_copy_13 : decode cX9_copy 13 = .ok (.invokestatic 204, 3) := by decide +kernel
theorem dX9_copy_16 : decode cX9_copy 16 = .ok (.ifCond .ne 5, 3) := by decide +kernel
theorem dX9_copy_19 : decode cX9_copy 19 = .ok (.iconst (-1), 1) := by decide +kernel
theorem dX9_copy_20 : decode cX9_copy 20 = .ok (.ireturn, 1) := by decide +kernel
theorem dX9_copy_21 : decode cX9_copy 21 = .ok (.aload_n 0, 1) := by decide +kernel
theorem dX9_copy_22 : decode cX9_copy 22 = .ok (.getfield 13, 3) := by decide +kernel
theorem dX9_copy_25 : decode cX9_copy 25 = .ok (.iload_n 1, 1) := by decide +kernel
theorem dX9_copy_26 : decode cX9_copy 26 = .ok (.aaload, 1) := by decide +kernel
theorem dX9_copy_27 : decode cX9_copy 27 = .ok (.astore 6, 2) := by decide +kernel
theorem dX9_copy_29 : decode cX9_copy 29 = .ok (.aload_n 0, 1) := by decide +kernel
theorem dX9_copy_30 : decode cX9_copy 30 = .ok (.getfield 13, 3) := by decide +kernel
theorem dX9_copy_33 : decode cX9_copy 33 = .ok (.iload_n 3, 1) := by decide +kernel
theorem dX9_copy_34 : decode cX9_copy 34 = .ok (.aaload, 1) := by decide +kernel
theorem dX9_copy_35 : decode cX9_copy 35 = .ok (.astore 7, 2) := by decide +kernel
theorem dX9_copy_37 : decode cX9_copy 37 = .ok (.aload 6, 2) := by decide +kernel
theorem dX9_copy_39 : decode cX9_copy 39 = .ok (.invokevirtual 216, 3) := by decide +kernel
theorem dX9_copy_42 : decode cX9_copy 42 = .ok (.ifCond .ne 11, 3) := by decide +kernel
theorem dX9_copy_45 : decode cX9_copy 45 = .ok (.aload 7, 2) := by decide +kernel
theorem dX9_copy_47 : decode cX9_copy 47 = .ok (.invokevirtual 216, 3) := by decide +kernel
theorem dX9_copy_50 : decode cX9_copy 50 = .ok (.ifCond .eq 9, 3) := by decide +kernel
theorem dX9_copy_53 : decode cX9_copy 53 = .ok (.aload_n 0, 1) := by decide +kernel
theorem dX9_copy_54 : decode cX9_copy 54 = .ok (.iconst 1, 1) := by decide +kernel
theorem dX9_copy_55 : decode cX9_copy 55 = .ok (.invokevirtual 210, 3) := by decide +kernel
theorem dX9_copy_58 : decode cX9_copy 58 = .ok (.ireturn, 1) := by decide +kernel
theorem dX9_copy_59 : decode cX9_copy 59 = .ok (.aload 6, 2) := by decide +kernel
theorem dX9_copy_61 : decode cX9_copy 61 = .ok (.getfield 232, 3) := by decide +kernel
theorem dX9_copy_64 : decode cX9_copy 64 = .ok (.aload 7, 2) := by decide +kernel
theorem dX9_copy_66 : decode cX9_copy 66 = .ok (.getfield 232, 3) := by decide +kernel
theorem dX9_copy_69 : decode cX9_copy 69 = .ok (.if_icmp .eq 9, 3) := by decide +kernel
theorem dX9_copy_72 : decode cX9_copy 72 = .ok (.aload_n 0, 1) := by decide +kernel
theorem dX9_copy_73 : decode cX9_copy 73 = .ok (.iconst 2, 1) := by decide +kernel
theorem dX9_copy_74 : decode cX9_copy 74 = .ok (.invokevirtual 210, 3) := by decide +kernel
theorem dX9_copy_77 : decode cX9_copy 77 = .ok (.ireturn, 1) := by decide +kernel
theorem dX9_copy_78 : decode cX9_copy 78 = .ok (.aload 6, 2) := by decide +kernel
theorem dX9_copy_80 : decode cX9_copy 80 = .ok (.iload_n 2, 1) := by decide +kernel
theorem dX9_copy_81 : decode cX9_copy 81 = .ok (.iload 5, 2) := by decide +kernel
theorem dX9_copy_83 : decode cX9_copy 83 = .ok (.invokevirtual 223, 3) := by decide +kernel
theorem dX9_copy_86 : decode cX9_copy 86 = .ok (.ifCond .eq 15, 3) := by decide +kernel
theorem dX9_copy_89 : decode cX9_copy 89 = .ok (.aload 7, 2) := by decide +kernel
theorem dX9_copy_91 : decode cX9_copy 91 = .ok (.iload 4, 2) := by decide +kernel
theorem dX9_copy_93 : decode cX9_copy 93 = .ok (.iload 5, 2) := by decide +kernel
theorem dX9_copy_95 : decode cX9_copy 95 = .ok (.invokevirtual 223, 3) := by decide +kernel
theorem dX9_copy_98 : decode cX9_copy 98 = .ok (.ifCond .ne 9, 3) := by decide +kernel
theorem dX9_copy_101 : decode cX9_copy 101 = .ok (.aload_n 0, 1) := by decide +kernel
theorem dX9_copy_102 : decode cX9_copy 102 = .ok (.iconst 3, 1) := by decide +kernel
theorem dX9_copy_103 : decode cX9_copy 103 = .ok (.invokevirtual 210, 3) := by decide +kernel
theorem dX9_copy_106 : decode cX9_copy 106 = .ok (.ireturn, 1) := by decide +kernel
theorem dX9_copy_107 : decode cX9_copy 107 = .ok (.aload 6, 2) := by decide +kernel
theorem dX9_copy_109 : decode cX9_copy 109 = .ok (.getfield 52, 3) := by decide +kernel
theorem dX9_copy_112 : decode cX9_copy 112 = .ok (.iload_n 2, 1) := by decide +kernel
theorem dX9_copy_113 : decode cX9_copy 113 = .ok (.aload 7, 2) := by decide +kernel
theorem dX9_copy_115 : decode cX9_copy 115 = .ok (.getfield 52, 3) := by decide +kernel
theorem dX9_copy_118 : decode cX9_copy 118 = .ok (.iload 4, 2) := by decide +kernel
theorem dX9_copy_120 : decode cX9_copy 120 = .ok (.iload 5, 2) := by decide +kernel
theorem dX9_copy_122 : decode cX9_copy 122 = .ok (.invokestatic 235, 3) := by decide +kernel
theorem dX9_copy_125 : decode cX9_copy 125 = .ok (.iload 5, 2) := by decide +kernel
theorem dX9_copy_127 : decode cX9_copy 127 = .ok (.ireturn, 1) := by decide +kernel
theorem dX9_tell_0 : decode cX9_tell 0 = .ok (.aload_n 0, 1) := by decide +kernel
theorem dX9_tell_1 : decode cX9_tell 1 = .ok (.getfield 20, 3) := by decide +kernel
theorem dX9_tell_4 : decode cX9_tell 4 = .ok (.iload_n 1, 1) := by decide +kernel
theorem dX9_tell_5 : decode cX9_tell 5 = .ok (.invokevirtual 74, 3) := by decide +kernel
theorem dX9_tell_8 : decode cX9_tell 8 = .ok (.ifCond .eq 22, 3) := by decide +kernel
theorem dX9_tell_11 : decode cX9_tell 11 = .ok (.aload_n 0, 1) := by decide +kernel
theorem dX9_tell_12 : decode cX9_tell 12 = .ok (.getfield 20, 3) := by decide +kernel
theorem dX9_tell_15 : decode cX9_tell 15 = .ok (.getfield 78, 3) := by decide +kernel
theorem dX9_tell_18 : decode cX9_tell 18 = .ok (.iload_n 1, 1) := by decide +kernel
theorem dX9_tell_19 : decode cX9_tell 19 = .ok (.aaload, 1) := by decide +kernel
theorem dX9_tell_20 : decode cX9_tell 20 = .ok (.aload_n 0, 1) := by decide +kernel
theorem dX9_tell_21 : decode cX9_tell 21 = .ok (.getfield 41, 3) := by decide +kernel
theorem dX9_tell_24 : decode cX9_tell 24 = .ok (.invokevirtual 241, 3) := by decide +kernel
theorem dX9_tell_27 : decode cX9_tell 27 = .ok (.goto 4, 3) := by decide +kernel
theorem dX9_tell_30 : decode cX9_tell 30 = .ok (.iconst (-1), 1) := by decide +kernel
theorem dX9_tell_31 : decode cX9_tell 31 = .ok (.ireturn, 1) := by decide +kernel
theorem dX9_ring_0 : decode cX9_ring 0 = .ok (.aload_n 0, 1) := by decide +kernel
theorem dX9_ring_1 : decode cX9_ring 1 = .ok (.getfield 20, 3) := by decide +kernel
theorem dX9_ring_4 : decode cX9_ring 4 = .ok (.iload_n 1, 1) := by decide +kernel
theorem dX9_ring_5 : decode cX9_ring 5 = .ok (.invokevirtual 74, 3) := by decide +kernel
theorem dX9_ring_8 : decode cX9_ring 8 = .ok (.ifCond .eq 23, 3) := by decide +kernel
theorem dX9_ring_11 : decode cX9_ring 11 = .ok (.aload_n 0, 1) := by decide +kernel
theorem dX9_ring_12 : decode cX9_ring 12 = .ok (.getfield 20, 3) := by decide +kernel
theorem dX9_ring_15 : decode cX9_ring 15 = .ok (.getfield 78, 3) := by decide +kernel
theorem dX9_ring_18 : decode cX9_ring 18 = .ok (.iload_n 1, 1) := by decide +kernel
theorem dX9_ring_19 : decode cX9_ring 19 = .ok (.aaload, 1) := by decide +kernel
theorem dX9_ring_20 : decode cX9_ring 20 = .ok (.aload_n 0, 1) := by decide +kernel
theorem dX9_ring_21 : decode cX9_ring 21 = .ok (.getfield 41, 3) := by decide +kernel
theorem dX9_ring_24 : decode cX9_ring 24 = .ok (.iload_n 1, 1) := by decide +kernel
theorem dX9_ring_25 : decode cX9_ring 25 = .ok (.invokevirtual 245, 3) := by decide +kernel
theorem dX9_ring_28 : decode cX9_ring 28 = .ok (.goto 4, 3) := by decide +kernel
theorem dX9_ring_31 : decode cX9_ring 31 = .ok (.iconst (-1), 1) := by decide +kernel
theorem dX9_ring_32 : decode cX9_ring 32 = .ok (.ireturn, 1) := by decide +kernel
theorem dX9_as_0 : decode cX9_as 0 = .ok (.aload_n 0, 1) := by decide +kernel
theorem dX9_as_1 : decode cX9_as 1 = .ok (.iconst 0, 1) := by decide +kernel
theorem dX9_as_2 : decode cX9_as 2 = .ok (.putfield 201, 3) := by decide +kernel
theorem dX9_as_5 : decode cX9_as 5 = .ok (.aload_n 0, 1) := by decide +kernel
theorem dX9_as_6 : decode cX9_as 6 = .ok (.getfield 20, 3) := by decide +kernel
theorem dX9_as_9 : decode cX9_as 9 = .ok (.iload_n 1, 1) := by decide +kernel
theorem dX9_as_10 : decode cX9_as 10 = .ok (.invokevirtual 74, 3) := by decide +kernel
theorem dX9_as_13 : decode cX9_as 13 = .ok (.ifCond .ne 5, 3) := by decide +kernel
theorem dX9_as_16 : decode cX9_as 16 = .ok (.iconst (-1), 1) := by decide +kernel
theorem dX9_as_17 : decode cX9_as 17 = .ok (.ireturn, 1) := by decide +kernel
theorem dX9_as_18 : decode cX9_as 18 = .ok (.iload_n 2, 1) := by decide +kernel
theorem dX9_as_19 : decode cX9_as 19 = .ok (.ifCond .lt 8, 3) := by decide +kernel
theorem dX9_as_22 : decode cX9_as 22 = .ok (.iload_n 2, 1) := by decide +kernel
theorem dX9_as_23 : decode cX9_as 23 = .ok (.iconst 2, 1) := by decide +kernel
theorem dX9_as_24 : decode cX9_as 24 = .ok (.if_icmp .le 6, 3) := by decide +kernel
theorem dX9_as_27 : decode cX9_as 27 = .ok (.bipush (-2), 2) := by decide +kernel
theorem dX9_as_29 : decode cX9_as 29 = .ok (.ireturn, 1) := by decide +kernel
theorem dX9_as_30 : decode cX9_as 30 = .ok (.iload_n 2, 1) := by decide +kernel
theorem dX9_as_31 : decode cX9_as 31 = .ok (.aload_n 0, 1) := by decide +kernel
theorem dX9_as_32 : decode cX9_as 32 = .ok (.getfield 20, 3) := by decide +kernel
theorem dX9_as_35 : decode cX9_as 35 = .ok (.getfield 78, 3) := by decide +kernel
theorem dX9_as_38 : decode cX9_as 38 = .ok (.iload_n 1, 1) := by decide +kernel
theorem dX9_as_39 : decode cX9_as 39 = .ok (.aaload, 1) := by decide +kernel
theorem dX9_as_40 : decode cX9_as 40 = .ok (.invokevirtual 249, 3) := by decide +kernel
theorem dX9_as_43 : decode cX9_as 43 = .ok (.if_icmp .gt 7, 3) := by decide +kernel
theorem dX9_as_46 : decode cX9_as 46 = .ok (.iconst 1, 1) := by decide +kernel
theorem dX9_as_47 : decode cX9_as 47 = .ok (.goto 8, 3) := by decide +kernel
theorem dX9_as_50 : decode cX9_as 50 = .ok (.aload_n 0, 1) := by decide +kernel
theorem dX9_as_51 : decode cX9_as 51 = .ok (.iconst 2, 1) := by decide +kernel
theorem dX9_as_52 : decode cX9_as 52 = .ok (.invokevirtual 210, 3) := by decide +kernel
theorem dX9_as_55 : decode cX9_as 55 = .ok (.ireturn, 1) := by decide +kernel
theorem dX9_trace_0 : decode cX9_trace 0 = .ok (.aload_n 0, 1) := by decide +kernel
theorem dX9_trace_1 : decode cX9_trace 1 = .ok (.getfield 41, 3) := by decide +kernel
theorem dX9_trace_4 : decode cX9_trace 4 = .ok (.getfield 252, 3) := by decide +kernel
theorem dX9_trace_7 : decode cX9_trace 7 = .ok (.ireturn, 1) := by decide +kernel
theorem dX9_fault_0 : decode cX9_fault 0 = .ok (.aload_n 0, 1) := by decide +kernel
theorem dX9_fault_1 : decode cX9_fault 1 = .ok (.getfield 201, 3) := by decide +kernel
theorem dX9_fault_4 : decode cX9_fault 4 = .ok (.ireturn, 1) := by decide +kernel
theorem dX9_many_0 : decode cX9_many 0 = .ok (.iload_n 1, 1) := by decide +kernel
theorem dX9_many_1 : decode cX9_many 1 = .ok (.tableswitch 63 0 3 #[31, 39, 47, 55], 31) := by decide +kernel
theorem dX9_many_32 : decode cX9_many 32 = .ok (.aload_n 0, 1) := by decide +kernel
theorem dX9_many_33 : decode cX9_many 33 = .ok (.getfield 20, 3) := by decide +kernel
theorem dX9_many_36 : decode cX9_many 36 = .ok (.getfield 255, 3) := by decide +kernel
theorem dX9_many_39 : decode cX9_many 39 = .ok (.ireturn, 1) := by decide +kernel
theorem dX9_many_40 : decode cX9_many 40 = .ok (.aload_n 0, 1) := by decide +kernel
theorem dX9_many_41 : decode cX9_many 41 = .ok (.getfield 20, 3) := by decide +kernel
theorem dX9_many_44 : decode cX9_many 44 = .ok (.getfield 70, 3) := by decide +kernel
theorem dX9_many_47 : decode cX9_many 47 = .ok (.ireturn, 1) := by decide +kernel
theorem dX9_many_48 : decode cX9_many 48 = .ok (.aload_n 0, 1) := by decide +kernel
theorem dX9_many_49 : decode cX9_many 49 = .ok (.getfield 27, 3) := by decide +kernel
theorem dX9_many_52 : decode cX9_many 52 = .ok (.getfield 94, 3) := by decide +kernel
theorem dX9_many_55 : decode cX9_many 55 = .ok (.ireturn, 1) := by decide +kernel
theorem dX9_many_56 : decode cX9_many 56 = .ok (.aload_n 0, 1) := by decide +kernel
theorem dX9_many_57 : decode cX9_many 57 = .ok (.getfield 27, 3) := by decide +kernel
theorem dX9_many_60 : decode cX9_many 60 = .ok (.getfield 101, 3) := by decide +kernel
theorem dX9_many_63 : decode cX9_many 63 = .ok (.ireturn, 1) := by decide +kernel
theorem dX9_many_64 : decode cX9_many 64 = .ok (.bipush (-2), 2) := by decide +kernel
theorem dX9_many_66 : decode cX9_many 66 = .ok (.ireturn, 1) := by decide +kernel
theorem dX9_isSheet_0 : decode cX9_isSheet 0 = .ok (.iload_n 0, 1) := by decide +kernel
theorem dX9_isSheet_1 : decode cX9_isSheet 1 = .ok (.ifCond .lt 12, 3) := by decide +kernel
theorem dX9_isSheet_4 : decode cX9_isSheet 4 = .ok (.iload_n 0, 1) := by decide +kernel
theorem dX9_isSheet_5 : decode cX9_isSheet 5 = .ok (.iconst 4, 1) := by decide +kernel
theorem dX9_isSheet_6 : decode cX9_isSheet 6 = .ok (.if_icmp .ge 7, 3) := by decide +kernel
theorem dX9_isSheet_9 : decode cX9_isSheet 9 = .ok (.iconst 1, 1) := by decide +kernel
theorem dX9_isSheet_10 : decode cX9_isSheet 10 = .ok (.goto 4, 3) := by decide +kernel
theorem dX9_isSheet_13 : decode cX9_isSheet 13 = .ok (.iconst 0, 1) := by decide +kernel
theorem dX9_isSheet_14 : decode cX9_isSheet 14 = .ok (.ireturn, 1) := by decide +kernel
theorem dX9_isLane_0 : decode cX9_isLane 0 = .ok (.iload_n 0, 1) := by decide +kernel
theorem dX9_isLane_1 : decode cX9_isLane 1 = .ok (.ifCond .lt 12, 3) := by decide +kernel
theorem dX9_isLane_4 : decode cX9_isLane 4 = .ok (.iload_n 0, 1) := by decide +kernel
theorem dX9_isLane_5 : decode cX9_isLane 5 = .ok (.iconst 2, 1) := by decide +kernel
theorem dX9_isLane_6 : decode cX9_isLane 6 = .ok (.if_icmp .gt 7, 3) := by decide +kernel
theorem dX9_isLane_9 : decode cX9_isLane 9 = .ok (.iconst 1, 1) := by decide +kernel
theorem dX9_isLane_10 : decode cX9_isLane 10 = .ok (.goto 4, 3) := by decide +kernel
theorem dX9_isLane_13 : decode cX9_isLane 13 = .ok (.iconst 0, 1) := by decide +kernel
theorem dX9_isLane_14 : decode cX9_isLane 14 = .ok (.ireturn, 1) := by decide +kernel
theorem dX9_isPersonsWeight_0 : decode cX9_isPersonsWeight 0 = .ok (.iload_n 0, 1) := by decide +kernel
theorem dX9_isPersonsWeight_1 : decode cX9_isPersonsWeight 1 = .ok (.bipush 10, 2) := by decide +kernel
theorem dX9_isPersonsWeight_3 : decode cX9_isPersonsWeight 3 = .ok (.if_icmp .lt 13, 3) := by decide +kernel
theorem dX9_isPersonsWeight_6 : decode cX9_isPersonsWeight 6 = .ok (.iload_n 0, 1) := by decide +kernel
theorem dX9_isPersonsWeight_7 : decode cX9_isPersonsWeight 7 = .ok (.bipush 99, 2) := by decide +kernel
theorem dX9_isPersonsWeight_9 : decode cX9_isPersonsWeight 9 = .ok (.if_icmp .gt 7, 3) := by decide +kernel
theorem dX9_isPersonsWeight_12 : decode cX9_isPersonsWeight 12 = .ok (.iconst 1, 1) := by decide +kernel
theorem dX9_isPersonsWeight_13 : decode cX9_isPersonsWeight 13 = .ok (.goto 4, 3) := by decide +kernel
theorem dX9_isPersonsWeight_16 : decode cX9_isPersonsWeight 16 = .ok (.iconst 0, 1) := by decide +kernel
theorem dX9_isPersonsWeight_17 : decode cX9_isPersonsWeight 17 = .ok (.ireturn, 1) := by decide +kernel
theorem dX9_faulted_0 : decode cX9_faulted 0 = .ok (.aload_n 0, 1) := by decide +kernel
theorem dX9_faulted_1 : decode cX9_faulted 1 = .ok (.iload_n 1, 1) := by decide +kernel
theorem dX9_faulted_2 : decode cX9_faulted 2 = .ok (.putfield 201, 3) := by decide +kernel
theorem dX9_faulted_5 : decode cX9_faulted 5 = .ok (.bipush (-10), 2) := by decide +kernel
theorem dX9_faulted_7 : decode cX9_faulted 7 = .ok (.iload_n 1, 1) := by decide +kernel
theorem dX9_faulted_8 : decode cX9_faulted 8 = .ok (.isub, 1) := by decide +kernel
theorem dX9_faulted_9 : decode cX9_faulted 9 = .ok (.ireturn, 1) := by decide +kernel
theorem dX9_cellsRefused_0 : decode cX9_cellsRefused 0 = .ok (.aload_n 0, 1) := by decide +kernel
theorem dX9_cellsRefused_1 : decode cX9_cellsRefused 1 = .ok (.iconst 0, 1) := by decide +kernel
theorem dX9_cellsRefused_2 : decode cX9_cellsRefused 2 = .ok (.putfield 201, 3) := by decide +kernel
theorem dX9_cellsRefused_5 : decode cX9_cellsRefused 5 = .ok (.iload_n 1, 1) := by decide +kernel
theorem dX9_cellsRefused_6 : decode cX9_cellsRefused 6 = .ok (.invokestatic 204, 3) := by decide +kernel
theorem dX9_cellsRefused_9 : decode cX9_cellsRefused 9 = .ok (.ifCond .ne 5, 3) := by decide +kernel
theorem dX9_cellsRefused_12 : decode cX9_cellsRefused 12 = .ok (.iconst (-1), 1) := by decide +kernel
theorem dX9_cellsRefused_13 : decode cX9_cellsRefused 13 = .ok (.ireturn, 1) := by decide +kernel
theorem dX9_cellsRefused_14 : decode cX9_cellsRefused 14 = .ok (.iload_n 2, 1) := by decide +kernel
theorem dX9_cellsRefused_15 : decode cX9_cellsRefused 15 = .ok (.invokestatic 207, 3) := by decide +kernel
theorem dX9_cellsRefused_18 : decode cX9_cellsRefused 18 = .ok (.ifCond .ne 6, 3) := by decide +kernel
theorem dX9_cellsRefused_21 : decode cX9_cellsRefused 21 = .ok (.bipush (-2), 2) := by decide +kernel
theorem dX9_cellsRefused_23 : decode cX9_cellsRefused 23 = .ok (.ireturn, 1) := by decide +kernel
theorem dX9_cellsRefused_24 : decode cX9_cellsRefused 24 = .ok (.aload_n 0, 1) := by decide +kernel
theorem dX9_cellsRefused_25 : decode cX9_cellsRefused 25 = .ok (.getfield 13, 3) := by decide +kernel
theorem dX9_cellsRefused_28 : decode cX9_cellsRefused 28 = .ok (.iload_n 1, 1) := by decide +kernel
theorem dX9_cellsRefused_29 : decode cX9_cellsRefused 29 = .ok (.aaload, 1) := by decide +kernel
theorem dX9_cellsRefused_30 : decode cX9_cellsRefused 30 = .ok (.invokevirtual 216, 3) := by decide +kernel
theorem dX9_cellsRefused_33 : decode cX9_cellsRefused 33 = .ok (.ifCond .eq 9, 3) := by decide +kernel
theorem dX9_cellsRefused_36 : decode cX9_cellsRefused 36 = .ok (.aload_n 0, 1) := by decide +kernel
theorem dX9_cellsRefused_37 : decode cX9_cellsRefused 37 = .ok (.iconst 1, 1) := by decide +kernel
theorem dX9_cellsRefused_38 : decode cX9_cellsRefused 38 = .ok (.invokevirtual 210, 3) := by decide +kernel
theorem dX9_cellsRefused_41 : decode cX9_cellsRefused 41 = .ok (.ireturn, 1) := by decide +kernel
theorem dX9_cellsRefused_42 : decode cX9_cellsRefused 42 = .ok (.aload_n 0, 1) := by decide +kernel
theorem dX9_cellsRefused_43 : decode cX9_cellsRefused 43 = .ok (.getfield 13, 3) := by decide +kernel
theorem dX9_cellsRefused_46 : decode cX9_cellsRefused 46 = .ok (.iload_n 1, 1) := by decide +kernel
theorem dX9_cellsRefused_47 : decode cX9_cellsRefused 47 = .ok (.aaload, 1) := by decide +kernel
theorem dX9_cellsRefused_48 : decode cX9_cellsRefused 48 = .ok (.getfield 232, 3) := by decide +kernel
theorem dX9_cellsRefused_51 : decode cX9_cellsRefused 51 = .ok (.iload_n 2, 1) := by decide +kernel
theorem dX9_cellsRefused_52 : decode cX9_cellsRefused 52 = .ok (.if_icmp .eq 9, 3) := by decide +kernel
theorem dX9_cellsRefused_55 : decode cX9_cellsRefused 55 = .ok (.aload_n 0, 1) := by decide +kernel
theorem dX9_cellsRefused_56 : decode cX9_cellsRefused 56 = .ok (.iconst 2, 1) := by decide +kernel
theorem dX9_cellsRefused_57 : decode cX9_cellsRefused 57 = .ok (.invokevirtual 210, 3) := by decide +kernel
theorem dX9_cellsRefused_60 : decode cX9_cellsRefused 60 = .ok (.ireturn, 1) := by decide +kernel
theorem dX9_cellsRefused_61 : decode cX9_cellsRefused 61 = .ok (.iload 4, 2) := by decide +kernel
theorem dX9_cellsRefused_63 : decode cX9_cellsRefused 63 = .ok (.ifCond .ge 9, 3) := by decide +kernel
theorem dX9_cellsRefused_66 : decode cX9_cellsRefused 66 = .ok (.aload_n 0, 1) := by decide +kernel
theorem dX9_cellsRefused_67 : decode cX9_cellsRefused 67 = .ok (.iconst 4, 1) := by decide +kernel
theorem dX9_cellsRefused_68 : decode cX9_cellsRefused 68 = .ok (.invokevirtual 210, 3) := by decide +kernel
theorem dX9_cellsRefused_71 : decode cX9_cellsRefused 71 = .ok (.ireturn, 1) := by decide +kernel
theorem dX9_cellsRefused_72 : decode cX9_cellsRefused 72 = .ok (.aload_n 0, 1) := by decide +kernel
theorem dX9_cellsRefused_73 : decode cX9_cellsRefused 73 = .ok (.getfield 13, 3) := by decide +kernel
theorem dX9_cellsRefused_76 : decode cX9_cellsRefused 76 = .ok (.iload_n 1, 1) := by decide +kernel
theorem dX9_cellsRefused_77 : decode cX9_cellsRefused 77 = .ok (.aaload, 1) := by decide +kernel
theorem dX9_cellsRefused_78 : decode cX9_cellsRefused 78 = .ok (.iload_n 3, 1) := by decide +kernel
theorem dX9_cellsRefused_79 : decode cX9_cellsRefused 79 = .ok (.iload 4, 2) := by decide +kernel
theorem dX9_cellsRefused_81 : decode cX9_cellsRefused 81 = .ok (.invokevirtual 223, 3) := by decide +kernel
theorem dX9_cellsRefused_84 : decode cX9_cellsRefused 84 = .ok (.ifCond .eq 7, 3) := by decide +kernel
theorem dX9_cellsRefused_87 : decode cX9_cellsRefused 87 = .ok (.iconst 0, 1) := by decide +kernel
theorem dX9_cellsRefused_88 : decode cX9_cellsRefused 88 = .ok (.goto 8, 3) := by decide +kernel
theorem dX9_cellsRefused_91 : decode cX9_cellsRefused 91 = .ok (.aload_n 0, 1) := by decide +kernel
theorem dX9_cellsRefused_92 : decode cX9_cellsRefused 92 = .ok (.iconst 3, 1) := by decide +kernel
theorem dX9_cellsRefused_93 : decode cX9_cellsRefused 93 = .ok (.invokevirtual 210, 3) := by decide +kernel
theorem dX9_cellsRefused_96 : decode cX9_cellsRefused 96 = .ok (.ireturn, 1) := by decide +kernel
theorem dX9_doorsRefused_0 : decode cX9_doorsRefused 0 = .ok (.aload_n 0, 1) := by decide +kernel
theorem dX9_doorsRefused_1 : decode cX9_doorsRefused 1 = .ok (.iload_n 1, 1) := by decide +kernel
theorem dX9_doorsRefused_2 : decode cX9_doorsRefused 2 = .ok (.iload_n 2, 1) := by decide +kernel
theorem dX9_doorsRefused_3 : decode cX9_doorsRefused 3 = .ok (.iload_n 3, 1) := by decide +kernel
theorem dX9_doorsRefused_4 : decode cX9_doorsRefused 4 = .ok (.iload 4, 2) := by decide +kernel
theorem dX9_doorsRefused_6 : decode cX9_doorsRefused 6 = .ok (.invokevirtual 46, 3) := by decide +kernel
theorem dX9_doorsRefused_9 : decode cX9_doorsRefused 9 = .ok (.istore 5, 2) := by decide +kernel
theorem dX9_doorsRefused_11 : decode cX9_doorsRefused 11 = .ok (.iload 5, 2) := by decide +kernel
theorem dX9_doorsRefused_13 : decode cX9_doorsRefused 13 = .ok (.ifCond .eq 6, 3) := by decide +kernel
theorem dX9_doorsRefused_16 : decode cX9_doorsRefused 16 = .ok (.iload 5, 2) := by decide +kernel
theorem dX9_doorsRefused_18 : decode cX9_doorsRefused 18 = .ok (.ireturn, 1) := by decide +kernel
theorem dX9_doorsRefused_19 : decode cX9_doorsRefused 19 = .ok (.iload_n 3, 1) := by decide +kernel
theorem dX9_doorsRefused_20 : decode cX9_doorsRefused 20 = .ok (.istore 6, 2) := by decide +kernel
theorem dX9_doorsRefused_22 : decode cX9_doorsRefused 22 = .ok (.iload 6, 2) := by decide +kernel
theorem dX9_doorsRefused_24 : decode cX9_doorsRefused 24 = .ok (.iload_n 3, 1) := by decide +kernel
theorem dX9_doorsRefused_25 : decode cX9_doorsRefused 25 = .ok (.iload 4, 2) := by decide +kernel
theorem dX9_doorsRefused_27 : decode cX9_doorsRefused 27 = .ok (.iadd, 1) := by decide +kernel
theorem dX9_doorsRefused_28 : decode cX9_doorsRefused 28 = .ok (.if_icmp .ge 33, 3) := by decide +kernel
theorem dX9_doorsRefused_31 : decode cX9_doorsRefused 31 = .ok (.aload_n 0, 1) := by decide +kernel
theorem dX9_doorsRefused_32 : decode cX9_doorsRefused 32 = .ok (.getfield 20, 3) := by decide +kernel
theorem dX9_doorsRefused_35 : decode cX9_doorsRefused 35 = .ok (.aload_n 0, 1) := by decide +kernel
theorem dX9_doorsRefused_36 : decode cX9_doorsRefused 36 = .ok (.getfield 13, 3) := by decide +kernel
theorem dX9_doorsRefused_39 : decode cX9_doorsRefused 39 = .ok (.iload_n 1, 1) := by decide +kernel
theorem dX9_doorsRefused_40 : decode cX9_doorsRefused 40 = .ok (.aaload, 1) := by decide +kernel
theorem dX9_doorsRefused_41 : decode cX9_doorsRefused 41 = .ok (.getfield 52, 3) := by decide +kernel
theorem dX9_doorsRefused_44 : decode cX9_doorsRefused 44 = .ok (.iload 6, 2) := by decide +kernel
theorem dX9_doorsRefused_46 : decode cX9_doorsRefused 46 = .ok (.iaload, 1) := by decide +kernel
theorem dX9_doorsRefused_47 : decode cX9_doorsRefused 47 = .ok (.invokevirtual 74, 3) := by decide +kernel
theorem dX9_doorsRefused_50 : decode cX9_doorsRefused 50 = .ok (.ifCond .ne 5, 3) := by decide +kernel
theorem dX9_doorsRefused_53 : decode cX9_doorsRefused 53 = .ok (.iconst (-1), 1) := by decide +kernel
theorem dX9_doorsRefused_54 : decode cX9_doorsRefused 54 = .ok (.ireturn, 1) := by decide +kernel
theorem dX9_doorsRefused_55 : decode cX9_doorsRefused 55 = .ok (.iinc 6 1, 3) := by decide +kernel
theorem dX9_doorsRefused_58 : decode cX9_doorsRefused 58 = .ok (.goto (-36), 3) := by decide +kernel
theorem dX9_doorsRefused_61 : decode cX9_doorsRefused 61 = .ok (.iconst 0, 1) := by decide +kernel
theorem dX9_doorsRefused_62 : decode cX9_doorsRefused 62 = .ok (.ireturn, 1) := by decide +kernel
theorem dX9_passesAll_0 : decode cX9_passesAll 0 = .ok (.iload 5, 2) := by decide +kernel
theorem dX9_passesAll_2 : decode cX9_passesAll 2 = .ok (.istore 6, 2) := by decide +kernel
theorem dX9_passesAll_4 : decode cX9_passesAll 4 = .ok (.iload_n 2, 1) := by decide +kernel
theorem dX9_passesAll_5 : decode cX9_passesAll 5 = .ok (.istore 7, 2) := by decide +kernel
theorem dX9_passesAll_7 : decode cX9_passesAll 7 = .ok (.iload 7, 2) := by decide +kernel
theorem dX9_passesAll_9 : decode cX9_passesAll 9 = .ok (.iload_n 2, 1) := by decide +kernel
theorem dX9_passesAll_10 : decode cX9_passesAll 10 = .ok (.iload_n 3, 1) := by decide +kernel
theorem dX9_passesAll_11 : decode cX9_passesAll 11 = .ok (.iadd, 1) := by decide +kernel
theorem dX9_passesAll_12 : decode cX9_passesAll 12 = .ok (.if_icmp .ge 36, 3) := by decide +kernel
theorem dX9_passesAll_15 : decode cX9_passesAll 15 = .ok (.iload 6, 2) := by decide +kernel
theorem dX9_passesAll_17 : decode cX9_passesAll 17 = .ok (.iconst (-1), 1) := by decide +kernel
theorem dX9_passesAll_18 : decode cX9_passesAll 18 = .ok (.if_icmp .eq 30, 3) := by decide +kernel
theorem dX9_passesAll_21 : decode cX9_passesAll 21 = .ok (.aload_n 0, 1) := by decide +kernel
theorem dX9_passesAll_22 : decode cX9_passesAll 22 = .ok (.getfield 20, 3) := by decide +kernel
theorem dX9_passesAll_25 : decode cX9_passesAll 25 = .ok (.getfield 78, 3) := by decide +kernel
theorem dX9_passesAll_28 : decode cX9_passesAll 28 = .ok (.aload_n 1, 1) := by decide +kernel
theorem dX9_passesAll_29 : decode cX9_passesAll 29 = .ok (.iload 7, 2) := by decide +kernel
theorem dX9_passesAll_31 : decode cX9_passesAll 31 = .ok (.iaload, 1) := by decide +kernel
theorem dX9_passesAll_32 : decode cX9_passesAll 32 = .ok (.aaload, 1) := by decide +kernel
theorem dX9_passesAll_33 : decode cX9_passesAll 33 = .ok (.iload 6, 2) := by decide +kernel
theorem dX9_passesAll_35 : decode cX9_passesAll 35 = .ok (.iload 4, 2) := by decide +kernel
theorem dX9_passesAll_37 : decode cX9_passesAll 37 = .ok (.invokevirtual 149, 3) := by decide +kernel
theorem dX9_passesAll_40 : decode cX9_passesAll 40 = .ok (.istore 6, 2) := by decide +kernel
theorem dX9_passesAll_42 : decode cX9_passesAll 42 = .ok (.iinc 7 1, 3) := by decide +kernel
theorem dX9_passesAll_45 : decode cX9_passesAll 45 = .ok (.goto (-38), 3) := by decide +kernel
theorem dX9_passesAll_48 : decode cX9_passesAll 48 = .ok (.iload 6, 2) := by decide +kernel
theorem dX9_passesAll_50 : decode cX9_passesAll 50 = .ok (.iconst (-1), 1) := by decide +kernel
theorem dX9_passesAll_51 : decode cX9_passesAll 51 = .ok (.if_icmp .eq 7, 3) := by decide +kernel
theorem dX9_passesAll_54 : decode cX9_passesAll 54 = .ok (.iconst 1, 1) := by decide +kernel
theorem dX9_passesAll_55 : decode cX9_passesAll 55 = .ok (.goto 4, 3) := by decide +kernel
theorem dX9_passesAll_58 : decode cX9_passesAll 58 = .ok (.iconst 0, 1) := by decide +kernel
theorem dX9_passesAll_59 : decode cX9_passesAll 59 = .ok (.ireturn, 1) := by decide +kernel
theorem dX9_comesChanged_0 : decode cX9_comesChanged 0 = .ok (.aload_n 0, 1) := by decide +kernel
theorem dX9_comesChanged_1 : decode cX9_comesChanged 1 = .ok (.getfield 27, 3) := by decide +kernel
theorem dX9_comesChanged_4 : decode cX9_comesChanged 4 = .ok (.getfield 110, 3) := by decide +kernel
theorem dX9_comesChanged_7 : decode cX9_comesChanged 7 = .ok (.iload_n 1, 1) := by decide +kernel
theorem dX9_comesChanged_8 : decode cX9_comesChanged 8 = .ok (.iaload, 1) := by decide +kernel
theorem dX9_comesChanged_9 : decode cX9_comesChanged 9 = .ok (.iload_n 3, 1) := by decide +kernel
theorem dX9_comesChanged_10 : decode cX9_comesChanged 10 = .ok (.iadd, 1) := by decide +kernel
theorem dX9_comesChanged_11 : decode cX9_comesChanged 11 = .ok (.istore 4, 2) := by decide +kernel
theorem dX9_comesChanged_13 : decode cX9_comesChanged 13 = .ok (.iload 4, 2) := by decide +kernel
theorem dX9_comesChanged_15 : decode cX9_comesChanged 15 = .ok (.iconst 1, 1) := by decide +kernel
theorem dX9_comesChanged_16 : decode cX9_comesChanged 16 = .ok (.if_icmp .lt 29, 3) := by decide +kernel
theorem dX9_comesChanged_19 : decode cX9_comesChanged 19 = .ok (.aload_n 0, 1) := by decide +kernel
theorem dX9_comesChanged_20 : decode cX9_comesChanged 20 = .ok (.getfield 20, 3) := by decide +kernel
theorem dX9_comesChanged_23 : decode cX9_comesChanged 23 = .ok (.iload 4, 2) := by decide +kernel
theorem dX9_comesChanged_25 : decode cX9_comesChanged 25 = .ok (.aload_n 0, 1) := by decide +kernel
theorem dX9_comesChanged_26 : decode cX9_comesChanged 26 = .ok (.getfield 27, 3) := by decide +kernel
theorem dX9_comesChanged_29 : decode cX9_comesChanged 29 = .ok (.getfield 113, 3) := by decide +kernel
theorem dX9_comesChanged_32 : decode cX9_comesChanged 32 = .ok (.iload_n 1, 1) := by decide +kernel
theorem dX9_comesChanged_33 : decode cX9_comesChanged 33 = .ok (.iaload, 1) := by decide +kernel
theorem dX9_comesChanged_34 : decode cX9_comesChanged 34 = .ok (.iload_n 2, 1) := by decide +kernel
theorem dX9_comesChanged_35 : decode cX9_comesChanged 35 = .ok (.invokevirtual 179, 3) := by decide +kernel
theorem dX9_comesChanged_38 : decode cX9_comesChanged 38 = .ok (.ifCond .eq 7, 3) := by decide +kernel
theorem dX9_comesChanged_41 : decode cX9_comesChanged 41 = .ok (.iconst 1, 1) := by decide +kernel
theorem dX9_comesChanged_42 : decode cX9_comesChanged 42 = .ok (.goto 4, 3) := by decide +kernel
theorem dX9_comesChanged_45 : decode cX9_comesChanged 45 = .ok (.iconst 0, 1) := by decide +kernel
theorem dX9_comesChanged_46 : decode cX9_comesChanged 46 = .ok (.ireturn, 1) := by decide +kernel
theorem dX9_comesWith_0 : decode cX9_comesWith 0 = .ok (.aload_n 0, 1) := by decide +kernel
theorem dX9_comesWith_1 : decode cX9_comesWith 1 = .ok (.getfield 34, 3) := by decide +kernel
theorem dX9_comesWith_4 : decode cX9_comesWith 4 = .ok (.aload_n 0, 1) := by decide +kernel
theorem dX9_comesWith_5 : decode cX9_comesWith 5 = .ok (.getfield 27, 3) := by decide +kernel
theorem dX9_comesWith_8 : decode cX9_comesWith 8 = .ok (.getfield 110, 3) := by decide +kernel
theorem dX9_comesWith_11 : decode cX9_comesWith 11 = .ok (.iload_n 1, 1) := by decide +kernel
theorem dX9_comesWith_12 : decode cX9_comesWith 12 = .ok (.iaload, 1) := by decide +kernel
theorem dX9_comesWith_13 : decode cX9_comesWith 13 = .ok (.aload_n 0, 1) := by decide +kernel
theorem dX9_comesWith_14 : decode cX9_comesWith 14 = .ok (.getfield 27, 3) := by decide +kernel
theorem dX9_comesWith_17 : decode cX9_comesWith 17 = .ok (.getfield 113, 3) := by decide +kernel
theorem dX9_comesWith_20 : decode cX9_comesWith 20 = .ok (.iload_n 1, 1) := by decide +kernel
theorem dX9_comesWith_21 : decode cX9_comesWith 21 = .ok (.iaload, 1) := by decide +kernel
theorem dX9_comesWith_22 : decode cX9_comesWith 22 = .ok (.invokevirtual 159, 3) := by decide +kernel
theorem dX9_comesWith_25 : decode cX9_comesWith 25 = .ok (.iload_n 3, 1) := by decide +kernel
theorem dX9_comesWith_26 : decode cX9_comesWith 26 = .ok (.ifCond .le 21, 3) := by decide +kernel
theorem dX9_comesWith_29 : decode cX9_comesWith 29 = .ok (.aload_n 0, 1) := by decide +kernel
theorem dX9_comesWith_30 : decode cX9_comesWith 30 = .ok (.getfield 34, 3) := by decide +kernel
theorem dX9_comesWith_33 : decode cX9_comesWith 33 = .ok (.iconst 0, 1) := by decide +kernel
theorem dX9_comesWith_34 : decode cX9_comesWith 34 = .ok (.iload_n 3, 1) := by decide +kernel
theorem dX9_comesWith_35 : decode cX9_comesWith 35 = .ok (.aload_n 0, 1) := by decide +kernel
theorem dX9_comesWith_36 : decode cX9_comesWith 36 = .ok (.getfield 27, 3) := by decide +kernel
theorem dX9_comesWith_39 : decode cX9_comesWith 39 = .ok (.getfield 113, 3) := by decide +kernel
theorem dX9_comesWith_42 : decode cX9_comesWith 42 = .ok (.iload_n 1, 1) := by decide +kernel
theorem dX9_comesWith_43 : decode cX9_comesWith 43 = .ok (.iaload, 1) := by decide +kernel
theorem dX9_comesWith_44 : decode cX9_comesWith 44 = .ok (.invokevirtual 162, 3) := by decide +kernel
theorem dX9_comesWith_47 : decode cX9_comesWith 47 = .ok (.iload 4, 2) := by decide +kernel
theorem dX9_comesWith_49 : decode cX9_comesWith 49 = .ok (.ifCond .le 22, 3) := by decide +kernel
theorem dX9_comesWith_52 : decode cX9_comesWith 52 = .ok (.aload_n 0, 1) := by decide +kernel
theorem dX9_comesWith_53 : decode cX9_comesWith 53 = .ok (.getfield 34, 3) := by decide +kernel
theorem dX9_comesWith_56 : decode cX9_comesWith 56 = .ok (.iconst 1, 1) := by decide +kernel
theorem dX9_comesWith_57 : decode cX9_comesWith 57 = .ok (.iload 4, 2) := by decide +kernel
theorem dX9_comesWith_59 : decode cX9_comesWith 59 = .ok (.aload_n 0, 1) := by decide +kernel
theorem dX9_comesWith_60 : decode cX9_comesWith 60 = .ok (.getfield 27, 3) := by decide +kernel
theorem dX9_comesWith_63 : decode cX9_comesWith 63 = .ok (.getfield 113, 3) := by decide +kernel
theorem dX9_comesWith_66 : decode cX9_comesWith 66 = .ok (.iload_n 1, 1) := by decide +kernel
theorem dX9_comesWith_67 : decode cX9_comesWith 67 = .ok (.iaload, 1) := by decide +kernel
theorem dX9_comesWith_68 : decode cX9_comesWith 68 = .ok (.invokevirtual 162, 3) := by decide +kernel
theorem dX9_comesWith_71 : decode cX9_comesWith 71 = .ok (.aload_n 0, 1) := by decide +kernel
theorem dX9_comesWith_72 : decode cX9_comesWith 72 = .ok (.getfield 34, 3) := by decide +kernel
theorem dX9_comesWith_75 : decode cX9_comesWith 75 = .ok (.aload_n 0, 1) := by decide +kernel
theorem dX9_comesWith_76 : decode cX9_comesWith 76 = .ok (.getfield 20, 3) := by decide +kernel
theorem dX9_comesWith_79 : decode cX9_comesWith 79 = .ok (.iload_n 2, 1) := by decide +kernel
theorem dX9_comesWith_80 : decode cX9_comesWith 80 = .ok (.invokevirtual 166, 3) := by decide +kernel
theorem dX9_comesWith_83 : decode cX9_comesWith 83 = .ok (.ireturn, 1) := by decide +kernel
theorem dX9_ofLaidRow_0 : decode cX9_ofLaidRow 0 = .ok (.iload_n 0, 1) := by decide +kernel
theorem dX9_ofLaidRow_1 : decode cX9_ofLaidRow 1 = .ok (.ifCond .le 7, 3) := by decide +kernel
theorem dX9_ofLaidRow_4 : decode cX9_ofLaidRow 4 = .ok (.iconst 1, 1) := by decide +kernel
theorem dX9_ofLaidRow_5 : decode cX9_ofLaidRow 5 = .ok (.goto 4, 3) := by decide +kernel
theorem dX9_ofLaidRow_8 : decode cX9_ofLaidRow 8 = .ok (.iconst 0, 1) := by decide +kernel
theorem dX9_ofLaidRow_9 : decode cX9_ofLaidRow 9 = .ok (.iload_n 1, 1) := by decide +kernel
theorem dX9_ofLaidRow_10 : decode cX9_ofLaidRow 10 = .ok (.ifCond .le 7, 3) := by decide +kernel
theorem dX9_ofLaidRow_13 : decode cX9_ofLaidRow 13 = .ok (.iconst 1, 1) := by decide +kernel
theorem dX9_ofLaidRow_14 : decode cX9_ofLaidRow 14 = .ok (.goto 4, 3) := by decide +kernel
theorem dX9_ofLaidRow_17 : decode cX9_ofLaidRow 17 = .ok (.iconst 0, 1) := by decide +kernel
theorem dX9_ofLaidRow_18 : decode cX9_ofLaidRow 18 = .ok (.iadd, 1) := by decide +kernel
theorem dX9_ofLaidRow_19 : decode cX9_ofLaidRow 19 = .ok (.istore_n 3, 1) := by decide +kernel
theorem dX9_ofLaidRow_20 : decode cX9_ofLaidRow 20 = .ok (.iload_n 2, 1) := by decide +kernel
theorem dX9_ofLaidRow_21 : decode cX9_ofLaidRow 21 = .ok (.iconst (-1), 1) := by decide +kernel
theorem dX9_ofLaidRow_22 : decode cX9_ofLaidRow 22 = .ok (.if_icmp .ne 5, 3) := by decide +kernel
theorem dX9_ofLaidRow_25 : decode cX9_ofLaidRow 25 = .ok (.iload_n 3, 1) := by decide +kernel
theorem dX9_ofLaidRow_26 : decode cX9_ofLaidRow 26 = .ok (.ireturn, 1) := by decide +kernel
theorem dX9_ofLaidRow_27 : decode cX9_ofLaidRow 27 = .ok (.iload_n 2, 1) := by decide +kernel
theorem dX9_ofLaidRow_28 : decode cX9_ofLaidRow 28 = .ok (.iload_n 3, 1) := by decide +kernel
theorem dX9_ofLaidRow_29 : decode cX9_ofLaidRow 29 = .ok (.if_icmp .lt 6, 3) := by decide +kernel
theorem dX9_ofLaidRow_32 : decode cX9_ofLaidRow 32 = .ok (.bipush (-9), 2) := by decide +kernel
theorem dX9_ofLaidRow_34 : decode cX9_ofLaidRow 34 = .ok (.ireturn, 1) := by decide +kernel
theorem dX9_ofLaidRow_35 : decode cX9_ofLaidRow 35 = .ok (.iload_n 2, 1) := by decide +kernel
theorem dX9_ofLaidRow_36 : decode cX9_ofLaidRow 36 = .ok (.ifCond .ne 12, 3) := by decide +kernel
theorem dX9_ofLaidRow_39 : decode cX9_ofLaidRow 39 = .ok (.iload_n 3, 1) := by decide +kernel
theorem dX9_ofLaidRow_40 : decode cX9_ofLaidRow 40 = .ok (.iconst 2, 1) := by decide +kernel
theorem dX9_ofLaidRow_41 : decode cX9_ofLaidRow 41 = .ok (.if_icmp .ne 7, 3) := by decide +kernel
theorem dX9_ofLaidRow_44 : decode cX9_ofLaidRow 44 = .ok (.iload_n 0, 1) := by decide +kernel
theorem dX9_ofLaidRow_45 : decode cX9_ofLaidRow 45 = .ok (.goto 4, 3) := by decide +kernel
theorem dX9_ofLaidRow_48 : decode cX9_ofLaidRow 48 = .ok (.iload_n 1, 1) := by decide +kernel
theorem dX9_ofLaidRow_49 : decode cX9_ofLaidRow 49 = .ok (.ireturn, 1) := by decide +kernel
theorem dJ6_bitCount_0f7a4_0 : decode cJ6_bitCount_0f7a4 0 = .ok (.iload_n 0, 1) := by decide +kernel
theorem dJ6_bitCount_0f7a4_1 : decode cJ6_bitCount_0f7a4 1 = .ok (.iload_n 0, 1) := by decide +kernel
theorem dJ6_bitCount_0f7a4_2 : decode cJ6_bitCount_0f7a4 2 = .ok (.iconst 1, 1) := by decide +kernel
theorem dJ6_bitCount_0f7a4_3 : decode cJ6_bitCount_0f7a4 3 = .ok (.iushr, 1) := by decide +kernel
theorem dJ6_bitCount_0f7a4_4 : decode cJ6_bitCount_0f7a4 4 = .ok (.ldc_w 265, 3) := by decide +kernel
theorem dJ6_bitCount_0f7a4_7 : decode cJ6_bitCount_0f7a4 7 = .ok (.iand, 1) := by decide +kernel
theorem dJ6_bitCount_0f7a4_8 : decode cJ6_bitCount_0f7a4 8 = .ok (.isub, 1) := by decide +kernel
theorem dJ6_bitCount_0f7a4_9 : decode cJ6_bitCount_0f7a4 9 = .ok (.istore_n 0, 1) := by decide +kernel
theorem dJ6_bitCount_0f7a4_10 : decode cJ6_bitCount_0f7a4 10 = .ok (.iload_n 0, 1) := by decide +kernel
theorem dJ6_bitCount_0f7a4_11 : decode cJ6_bitCount_0f7a4 11 = .ok (.ldc_w 266, 3) := by decide +kernel
theorem dJ6_bitCount_0f7a4_14 : decode cJ6_bitCount_0f7a4 14 = .ok (.iand, 1) := by decide +kernel
theorem dJ6_bitCount_0f7a4_15 : decode cJ6_bitCount_0f7a4 15 = .ok (.iload_n 0, 1) := by decide +kernel
theorem dJ6_bitCount_0f7a4_16 : decode cJ6_bitCount_0f7a4 16 = .ok (.iconst 2, 1) := by decide +kernel
theorem dJ6_bitCount_0f7a4_17 : decode cJ6_bitCount_0f7a4 17 = .ok (.iushr, 1) := by decide +kernel
theorem dJ6_bitCount_0f7a4_18 : decode cJ6_bitCount_0f7a4 18 = .ok (.ldc_w 266, 3) := by decide +kernel
theorem dJ6_bitCount_0f7a4_21 : decode cJ6_bitCount_0f7a4 21 = .ok (.iand, 1) := by decide +kernel
theorem dJ6_bitCount_0f7a4_22 : decode cJ6_bitCount_0f7a4 22 = .ok (.iadd, 1) := by decide +kernel
theorem dJ6_bitCount_0f7a4_23 : decode cJ6_bitCount_0f7a4 23 = .ok (.istore_n 0, 1) := by decide +kernel
theorem dJ6_bitCount_0f7a4_24 : decode cJ6_bitCount_0f7a4 24 = .ok (.iload_n 0, 1) := by decide +kernel
theorem dJ6_bitCount_0f7a4_25 : decode cJ6_bitCount_0f7a4 25 = .ok (.iload_n 0, 1) := by decide +kernel
theorem dJ6_bitCount_0f7a4_26 : decode cJ6_bitCount_0f7a4 26 = .ok (.iconst 4, 1) := by decide +kernel
theorem dJ6_bitCount_0f7a4_27 : decode cJ6_bitCount_0f7a4 27 = .ok (.iushr, 1) := by decide +kernel
theorem dJ6_bitCount_0f7a4_28 : decode cJ6_bitCount_0f7a4 28 = .ok (.iadd, 1) := by decide +kernel
theorem dJ6_bitCount_0f7a4_29 : decode cJ6_bitCount_0f7a4 29 = .ok (.ldc_w 267, 3) := by decide +kernel
theorem dJ6_bitCount_0f7a4_32 : decode cJ6_bitCount_0f7a4 32 = .ok (.iand, 1) := by decide +kernel
theorem dJ6_bitCount_0f7a4_33 : decode cJ6_bitCount_0f7a4 33 = .ok (.istore_n 0, 1) := by decide +kernel
theorem dJ6_bitCount_0f7a4_34 : decode cJ6_bitCount_0f7a4 34 = .ok (.iload_n 0, 1) := by decide +kernel
theorem dJ6_bitCount_0f7a4_35 : decode cJ6_bitCount_0f7a4 35 = .ok (.iload_n 0, 1) := by decide +kernel
theorem dJ6_bitCount_0f7a4_36 : decode cJ6_bitCount_0f7a4 36 = .ok (.bipush 8, 2) := by decide +kernel
theorem dJ6_bitCount_0f7a4_38 : decode cJ6_bitCount_0f7a4 38 = .ok (.iushr, 1) := by decide +kernel
theorem dJ6_bitCount_0f7a4_39 : decode cJ6_bitCount_0f7a4 39 = .ok (.iadd, 1) := by decide +kernel
theorem dJ6_bitCount_0f7a4_40 : decode cJ6_bitCount_0f7a4 40 = .ok (.istore_n 0, 1) := by decide +kernel
theorem dJ6_bitCount_0f7a4_41 : decode cJ6_bitCount_0f7a4 41 = .ok (.iload_n 0, 1) := by decide +kernel
theorem dJ6_bitCount_0f7a4_42 : decode cJ6_bitCount_0f7a4 42 = .ok (.iload_n 0, 1) := by decide +kernel
theorem dJ6_bitCount_0f7a4_43 : decode cJ6_bitCount_0f7a4 43 = .ok (.bipush 16, 2) := by decide +kernel
theorem dJ6_bitCount_0f7a4_45 : decode cJ6_bitCount_0f7a4 45 = .ok (.iushr, 1) := by decide +kernel
theorem dJ6_bitCount_0f7a4_46 : decode cJ6_bitCount_0f7a4 46 = .ok (.iadd, 1) := by decide +kernel
theorem dJ6_bitCount_0f7a4_47 : decode cJ6_bitCount_0f7a4 47 = .ok (.istore_n 0, 1) := by decide +kernel
theorem dJ6_bitCount_0f7a4_48 : decode cJ6_bitCount_0f7a4 48 = .ok (.iload_n 0, 1) := by decide +kernel
theorem dJ6_bitCount_0f7a4_49 : decode cJ6_bitCount_0f7a4 49 = .ok (.bipush 63, 2) := by decide +kernel
theorem dJ6_bitCount_0f7a4_51 : decode cJ6_bitCount_0f7a4 51 = .ok (.iand, 1) := by decide +kernel
theorem dJ6_bitCount_0f7a4_52 : decode cJ6_bitCount_0f7a4 52 = .ok (.ireturn, 1) := by decide +kernel
theorem dJ9_max_7cf53_0 : decode cJ9_max_7cf53 0 = .ok (.iload_n 0, 1) := by decide +kernel
theorem dJ9_max_7cf53_1 : decode cJ9_max_7cf53 1 = .ok (.iload_n 1, 1) := by decide +kernel
theorem dJ9_max_7cf53_2 : decode cJ9_max_7cf53 2 = .ok (.if_icmp .lt 7, 3) := by decide +kernel
theorem dJ9_max_7cf53_5 : decode cJ9_max_7cf53 5 = .ok (.iload_n 0, 1) := by decide +kernel
theorem dJ9_max_7cf53_6 : decode cJ9_max_7cf53 6 = .ok (.goto 4, 3) := by decide +kernel
theorem dJ9_max_7cf53_9 : decode cJ9_max_7cf53 9 = .ok (.iload_n 1, 1) := by decide +kernel
theorem dJ9_max_7cf53_10 : decode cJ9_max_7cf53 10 = .ok (.ireturn, 1) := by decide +kernel
theorem dJ9_min_7cf53_0 : decode cJ9_min_7cf53 0 = .ok (.iload_n 0, 1) := by decide +kernel
theorem dJ9_min_7cf53_1 : decode cJ9_min_7cf53 1 = .ok (.iload_n 1, 1) := by decide +kernel
theorem dJ9_min_7cf53_2 : decode cJ9_min_7cf53 2 = .ok (.if_icmp .gt 7, 3) := by decide +kernel
theorem dJ9_min_7cf53_5 : decode cJ9_min_7cf53 5 = .ok (.iload_n 0, 1) := by decide +kernel
theorem dJ9_min_7cf53_6 : decode cJ9_min_7cf53 6 = .ok (.goto 4, 3) := by decide +kernel
theorem dJ9_min_7cf53_9 : decode cJ9_min_7cf53 9 = .ok (.iload_n 1, 1) := by decide +kernel
theorem dJ9_min_7cf53_10 : decode cJ9_min_7cf53 10 = .ok (.ireturn, 1) := by decide +kernel
end
section
theorem dX10_init_0 : decode cX10_init 0 = .ok (.aload_n 0, 1) := by decide +kernel
theorem dX10_init_1 : decode cX10_init 1 = .ok (.invokespecial 1, 3) := by decide +kernel
theorem dX10_init_4 : decode cX10_init 4 = .ok (.aload_n 0, 1) := by decide +kernel
theorem dX10_init_5 : decode cX10_init 5 = .ok (.bipush 8, 2) := by decide +kernel
theorem dX10_init_7 : decode cX10_init 7 = .ok (.newarray .int, 2) := by decide +kernel
theorem dX10_init_9 : decode cX10_init 9 = .ok (.putfield 7, 3) := by decide +kernel
theorem dX10_init_12 : decode cX10_init 12 = .ok (.aload_n 0, 1) := by decide +kernel
theorem dX10_init_13 : decode cX10_init 13 = .ok (.bipush 16, 2) := by decide +kernel
theorem dX10_init_15 : decode cX10_init 15 = .ok (.newarray .int, 2) := by decide +kernel
theorem dX10_init_17 : decode cX10_init 17 = .ok (.putfield 13, 3) := by decide +kernel
theorem dX10_init_20 : decode cX10_init 20 = .ok (.aload_n 0, 1) := by decide +kernel
theorem dX10_init_21 : decode cX10_init 21 = .ok (.bipush 8, 2) := by decide +kernel
theorem dX10_init_23 : decode cX10_init 23 = .ok (.newarray .int, 2) := by decide +kernel
theorem dX10_init_25 : decode cX10_init 25 = .ok (.putfield 16, 3) := by decide +kernel
theorem dX10_init_28 : decode cX10_init 28 = .ok (.aload_n 0, 1) := by decide +kernel
theorem dX10_init_29 : decode cX10_init 29 = .ok (.bipush 8, 2) := by decide +kernel
theorem dX10_init_31 : decode cX10_init 31 = .ok (.newarray .int, 2) := by decide +kernel
theorem dX10_init_33 : decode cX10_init 33 = .ok (.putfield 19, 3) := by decide +kernel
theorem dX10_init_36 : decode cX10_init 36 = .ok (.aload_n 0, 1) := by decide +kernel
theorem dX10_init_37 : decode cX10_init 37 = .ok (.bipush 16, 2) := by decide +kernel
theorem dX10_init_39 : decode cX10_init 39 = .ok (.newarray .int, 2) := by decide +kernel
theorem dX10_init_41 : decode cX10_init 41 = .ok (.putfield 22, 3) := by decide +kernel
theorem dX10_init_44 : decode cX10_init 44 = .ok (.aload_n 0, 1) := by decide +kernel
theorem dX10_init_45 : decode cX10_init 45 = .ok (.bipush 8, 2) := by decide +kernel
theorem dX10_init_47 : decode cX10_init 47 = .ok (.newarray .int, 2) := by decide +kernel
theorem dX10_init_49 : decode cX10_init 49 = .ok (.putfield 25, 3) := by decide +kernel
theorem dX10_init_52 : decode cX10_init 52 = .ok (.aload_n 0, 1) := by decide +kernel
theorem dX10_init_53 : decode cX10_init 53 = .ok (.iconst 4, 1) := by decide +kernel
theorem dX10_init_54 : decode cX10_init 54 = .ok (.newarray .int, 2) := by decide +kernel
theorem dX10_init_56 : decode cX10_init 56 = .ok (.putfield 28, 3) := by decide +kernel
theorem dX10_init_59 : decode cX10_init 59 = .ok (.aload_n 0, 1) := by decide +kernel
theorem dX10_init_60 : decode cX10_init 60 = .ok (.iconst 4, 1) := by decide +kernel
theorem dX10_init_61 : decode cX10_init 61 = .ok (.newarray .int, 2) := by decide +kernel
theorem dX10_init_63 : decode cX10_init 63 = .ok (.putfield 31, 3) := by decide +kernel
theorem dX10_init_66 : decode cX10_init 66 = .ok (.aload_n 0, 1) := by decide +kernel
theorem dX10_init_67 : decode cX10_init 67 = .ok (.iconst 4, 1) := by decide +kernel
theorem dX10_init_68 : decode cX10_init 68 = .ok (.newarray .int, 2) := by decide +kernel
theorem dX10_init_70 : decode cX10_init 70 = .ok (.putfield 34, 3) := by decide +kernel
theorem dX10_init_73 : decode cX10_init 73 = .ok (.aload_n 0, 1) := by decide +kernel
theorem dX10_init_74 : decode cX10_init 74 = .ok (.iconst 4, 1) := by decide +kernel
theorem dX10_init_75 : decode cX10_init 75 = .ok (.newarray .int, 2) := by decide +kernel
theorem dX10_init_77 : decode cX10_init 77 = .ok (.putfield 37, 3) := by decide +kernel
theorem dX10_init_80 : decode cX10_init 80 = .ok (.aload_n 0, 1) := by decide +kernel
theorem dX10_init_81 : decode cX10_init 81 = .ok (.iconst 4, 1) := by decide +kernel
theorem dX10_init_82 : decode cX10_init 82 = .ok (.newarray .int, 2) := by decide +kernel
theorem dX10_init_84 : decode cX10_init 84 = .ok (.putfield 40, 3) := by decide +kernel
theorem dX10_init_87 : decode cX10_init 87 = .ok (.aload_n 0, 1) := by decide +kernel
theorem dX10_init_88 : decode cX10_init 88 = .ok (.iconst 4, 1) := by decide +kernel
theorem dX10_init_89 : decode cX10_init 89 = .ok (.newarray .int, 2) := by decide +kernel
theorem dX10_init_91 : decode cX10_init 91 = .ok (.putfield 43, 3) := by decide +kernel
theorem dX10_init_94 : decode cX10_init 94 = .ok (.aload_n 0, 1) := by decide +kernel
theorem dX10_init_95 : decode cX10_init 95 = .ok (.iconst 4, 1) := by decide +kernel
theorem dX10_init_96 : decode cX10_init 96 = .ok (.newarray .boolean, 2) := by decide +kernel
theorem dX10_init_98 : decode cX10_init 98 = .ok (.putfield 46, 3) := by decide +kernel
theorem dX10_init_101 : decode cX10_init 101 = .ok (.aload_n 0, 1) := by decide +kernel
theorem dX10_init_102 : decode cX10_init 102 = .ok (.sipush 14406, 3) := by decide +kernel
theorem dX10_init_105 : decode cX10_init 105 = .ok (.newarray .int, 2) := by decide +kernel
theorem dX10_init_107 : decode cX10_init 107 = .ok (.putfield 50, 3) := by decide +kernel
theorem dX10_init_110 : decode cX10_init 110 = .ok (.aload_n 0, 1) := by decide +kernel
theorem dX10_init_111 : decode cX10_init 111 = .ok (.sipush 14406, 3) := by decide +kernel
theorem dX10_init_114 : decode cX10_init 114 = .ok (.newarray .int, 2) := by decide +kernel
theorem dX10_init_116 : decode cX10_init 116 = .ok (.putfield 53, 3) := by decide +kernel
theorem dX10_init_119 : decode cX10_init 119 = .ok (.aload_n 0, 1) := by decide +kernel
theorem dX10_init_120 : decode cX10_init 120 = .ok (.sipush 14406, 3) := by decide +kernel
theorem dX10_init_123 : decode cX10_init 123 = .ok (.newarray .int, 2) := by decide +kernel
theorem dX10_init_125 : decode cX10_init 125 = .ok (.putfield 56, 3) := by decide +kernel
theorem dX10_init_128 : decode cX10_init 128 = .ok (.aload_n 0, 1) := by decide +kernel
theorem dX10_init_129 : decode cX10_init 129 = .ok (.sipush 14406, 3) := by decide +kernel
theorem dX10_init_132 : decode cX10_init 132 = .ok (.newarray .boolean, 2) := by decide +kernel
theorem dX10_init_134 : decode cX10_init 134 = .ok (.putfield 59, 3) := by decide +kernel
theorem dX10_init_137 : decode cX10_init 137 = .ok (.aload_n 0, 1) := by decide +kernel
theorem dX10_init_138 : decode cX10_init 138 = .ok (.sipush 14406, 3) := by decide +kernel
theorem dX10_init_141 : decode cX10_init 141 = .ok (.newarray .int, 2) := by decide +kernel
theorem dX10_init_143 : decode cX10_init 143 = .ok (.putfield 62, 3) := by decide +kernel
theorem dX10_init_146 : decode cX10_init 146 = .ok (.aload_n 0, 1) := by decide +kernel
theorem dX10_init_147 : decode cX10_init 147 = .ok (.iconst 4, 1) := by decide +kernel
theorem dX10_init_148 : decode cX10_init 148 = .ok (.newarray .int, 2) := by decide +kernel
theorem dX10_init_150 : decode cX10_init 150 = .ok (.putfield 65, 3) := by decide +kernel
theorem dX10_init_153 : decode cX10_init 153 = .ok (.aload_n 0, 1) := by decide +kernel
theorem dX10_init_154 : decode cX10_init 154 = .ok (.iconst 4, 1) := by decide +kernel
theorem dX10_init_155 : decode cX10_init 155 = .ok (.newarray .int, 2) := by decide +kernel
theorem dX10_init_157 : decode cX10_init 157 = .ok (.putfield 68, 3) := by decide +kernel
theorem dX10_init_160 : decode cX10_init 160 = .ok (.aload_n 0, 1) := by decide +kernel
theorem dX10_init_161 : decode cX10_init 161 = .ok (.sipush 240, 3) := by decide +kernel
theorem dX10_init_164 : decode cX10_init 164 = .ok (.newarray .int, 2) := by decide +kernel
theorem dX10_init_166 : decode cX10_init 166 = .ok (.putfield 71, 3) := by decide +kernel
theorem dX10_init_169 : decode cX10_init 169 = .ok (.aload_n 0, 1) := by decide +kernel
theorem dX10_init_170 : decode cX10_init 170 = .ok (.bipush 60, 2) := by decide +kernel
theorem dX10_init_172 : decode cX10_init 172 = .ok (.newarray .int, 2) := by decide +kernel
theorem dX10_init_174 : decode cX10_init 174 = .ok (.putfield 74, 3) := by decide +kernel
theorem dX10_init_177 : decode cX10_init 177 = .ok (.iconst 0, 1) := by decide +kernel
theorem dX10_init_178 : decode cX10_init 178 = .ok (.istore_n 1, 1) := by decide +kernel
theorem dX10_init_179 : decode cX10_init 179 = .ok (.iload_n 1, 1) := by decide +kernel
theorem dX10_init_180 : decode cX10_init 180 = .ok (.iconst 4, 1) := by decide +kernel
theorem dX10_init_181 : decode cX10_init 181 = .ok (.if_icmp .ge 16, 3) := by decide +kernel
theorem dX10_init_184 : decode cX10_init 184 = .ok (.aload_n 0, 1) := by decide +kernel
theorem dX10_init_185 : decode cX10_init 185 = .ok (.getfield 65, 3) := by decide +kernel
theorem dX10_init_188 : decode cX10_init 188 = .ok (.iload_n 1, 1) := by decide +kernel
theorem dX10_init_189 : decode cX10_init 189 = .ok (.iconst (-1), 1) := by decide +kernel
theorem dX10_init_190 : decode cX10_init 190 = .ok (.iastore, 1) := by decide +kernel
theorem dX10_init_191 : decode cX10_init 191 = .ok (.iinc 1 1, 3) := by decide +kernel
theorem dX10_init_194 : decode cX10_init 194 = .ok (.goto (-15), 3) := by decide +kernel
theorem dX10_init_197 : decode cX10_init 197 = .ok (.return_, 1) := by decide +kernel
theorem dX10_in_0 : decode cX10_in 0 = .ok (.lload_n 0, 1) := by decide +kernel
theorem dX10_in_1 : decode cX10_in 1 = .ok (.lload_n 2, 1) := by decide +kernel
theorem dX10_in_2 : decode cX10_in 2 = .ok (.lcmp, 1) := by decide +kernel
theorem dX10_in_3 : decode cX10_in 3 = .ok (.ifCond .lt 14, 3) := by decide +kernel
theorem dX10_in_6 : decode cX10_in 6 = .ok (.lload_n 0, 1) := by decide +kernel
theorem dX10_in_7 : decode cX10_in 7 = .ok (.lload 4, 2) := by decide +kernel
theorem dX10_in_9 : decode cX10_in 9 = .ok (.lcmp, 1) := by decide +kernel
theorem dX10_in_10 : decode cX10_in 10 = .ok (.ifCond .gt 7, 3) := by decide +kernel
theorem dX10_in_13 : decode cX10_in 13 = .ok (.iconst 1, 1) := by decide +kernel
theorem dX10_in_14 : decode cX10_in 14 = .ok (.goto 4, 3) := by decide +kernel
theorem dX10_in_17 : decode cX10_in 17 = .ok (.iconst 0, 1) := by decide +kernel
theorem dX10_in_18 : decode cX10_in 18 = .ok (.ireturn, 1) := by decide +kernel
theorem dX10_lost_0 : decode cX10_lost 0 = .ok (.ldc2_w 77, 3) := by decide +kernel
theorem dX10_lost_3 : decode cX10_lost 3 = .ok (.lreturn, 1) := by decide +kernel
theorem dX10_refused_0 : decode cX10_refused 0 = .ok (.aload_n 0, 1) := by decide +kernel
theorem dX10_refused_1 : decode cX10_refused 1 = .ok (.iconst 0, 1) := by decide +kernel
theorem dX10_refused_2 : decode cX10_refused 2 = .ok (.putfield 79, 3) := by decide +kernel
theorem dX10_refused_5 : decode cX10_refused 5 = .ok (.iload_n 1, 1) := by decide +kernel
theorem dX10_refused_6 : decode cX10_refused 6 = .ok (.ireturn, 1) := by decide +kernel
theorem dX10_failed_0 : decode cX10_failed 0 = .ok (.aload_n 0, 1) := by decide +kernel
theorem dX10_failed_1 : decode cX10_failed 1 = .ok (.iload_n 1, 1) := by decide +kernel
theorem dX10_failed_2 : decode cX10_failed 2 = .ok (.putfield 79, 3) := by decide +kernel
theorem dX10_failed_5 : decode cX10_failed 5 = .ok (.bipush (-10), 2) := by decide +kernel
theorem dX10_failed_7 : decode cX10_failed 7 = .ok (.iload_n 1, 1) := by decide +kernel
theorem dX10_failed_8 : decode cX10_failed 8 = .ok (.isub, 1) := by decide +kernel
theorem dX10_failed_9 : decode cX10_failed 9 = .ok (.ireturn, 1) := by decide +kernel
theorem dX10_failedLong_0 : decode cX10_failedLong 0 = .ok (.aload_n 0, 1) := by decide +kernel
theorem dX10_failedLong_1 : decode cX10_failedLong 1 = .ok (.iload_n 1, 1) := by decide +kernel
theorem dX10_failedLong_2 : decode cX10_failedLong 2 = .ok (.putfield 79, 3) := by decide +kernel
theorem dX10_failedLong_5 : decode cX10_failedLong 5 = .ok (.invokestatic 83, 3) := by decide +kernel
theorem dX10_failedLong_8 : decode cX10_failedLong 8 = .ok (.lreturn, 1) := by decide +kernel
theorem dX10_barred_0 : decode cX10_barred 0 = .ok (.iload_n 1, 1) := by decide +kernel
theorem dX10_barred_1 : decode cX10_barred 1 = .ok (.invokestatic 87, 3) := by decide +kernel
theorem dX10_barred_4 : decode cX10_barred 4 = .ok (.ifCond .eq 9, 3) := by decide +kernel
theorem dX10_barred_7 : decode cX10_barred 7 = .ok (.aload_n 0, 1) := by decide +kernel
theorem dX10_barred_8 : decode cX10_barred 8 = .ok (.iconst (-1), 1) := by decide +kernel
theorem dX10_barred_9 : decode cX10_barred 9 = .ok (.invokevirtual 91, 3) := by decide +kernel
theorem dX10_barred_12 : decode cX10_barred 12 = .ok (.ireturn, 1) := by decide +kernel
theorem dX10_barred_13 : decode cX10_barred 13 = .ok (.iload_n 2, 1) := by decide +kernel
theorem dX10_barred_14 : decode cX10_barred 14 = .ok (.i2l, 1) := by decide +kernel
theorem dX10_barred_15 : decode cX10_barred 15 = .ok (.lconst 0, 1) := by decide +kernel
theorem dX10_barred_16 : decode cX10_barred 16 = .ok (.ldc2_w 95, 3) := by decide +kernel
theorem dX10_barred_19 : decode cX10_barred 19 = .ok (.invokestatic 97, 3) := by decide +kernel
theorem dX10_barred_22 : decode cX10_barred 22 = .ok (.ifCond .ne 10, 3) := by decide +kernel
theorem dX10_barred_25 : decode cX10_barred 25 = .ok (.aload_n 0, 1) := by decide +kernel
theorem dX10_barred_26 : decode cX10_barred 26 = .ok (.bipush (-2), 2) := by decide +kernel
theorem dX10_barred_28 : decode cX10_barred 28 = .ok (.invokevirtual 91, 3) := by decide +kernel
theorem dX10_barred_31 : decode cX10_barred 31 = .ok (.ireturn, 1) := by decide +kernel
theorem dX10_barred_32 : decode cX10_barred 32 = .ok (.aload_n 0, 1) := by decide +kernel
theorem dX10_barred_33 : decode cX10_barred 33 = .ok (.getfield 65, 3) := by decide +kernel
theorem dX10_barred_36 : decode cX10_barred 36 = .ok (.iload_n 1, 1) := by decide +kernel
theorem dX10_barred_37 : decode cX10_barred 37 = .ok (.iaload, 1) := by decide +kernel
theorem dX10_barred_38 : decode cX10_barred 38 = .ok (.ifCond .lt 19, 3) := by decide +kernel
theorem dX10_barred_41 : decode cX10_barred 41 = .ok (.aload_n 0, 1) := by decide +kernel
theorem dX10_barred_42 : decode cX10_barred 42 = .ok (.getfield 68, 3) := by decide +kernel
theorem dX10_barred_45 : decode cX10_barred 45 = .ok (.iload_n 1, 1) := by decide +kernel
theorem dX10_barred_46 : decode cX10_barred 46 = .ok (.iaload, 1) := by decide +kernel
theorem dX10_barred_47 : decode cX10_barred 47 = .ok (.iload_n 2, 1) := by decide +kernel
theorem dX10_barred_48 : decode cX10_barred 48 = .ok (.if_icmp .eq 9, 3) := by decide +kernel
theorem dX10_barred_51 : decode cX10_barred 51 = .ok (.aload_n 0, 1) := by decide +kernel
theorem dX10_barred_52 : decode cX10_barred 52 = .ok (.iconst 2, 1) := by decide +kernel
theorem dX10_barred_53 : decode cX10_barred 53 = .ok (.invokevirtual 101, 3) := by decide +kernel
theorem dX10_barred_56 : decode cX10_barred 56 = .ok (.ireturn, 1) := by decide +kernel
theorem dX10_barred_57 : decode cX10_barred 57 = .ok (.aload_n 0, 1) := by decide +kernel
theorem dX10_barred_58 : decode cX10_barred 58 = .ok (.getfield 65, 3) := by decide +kernel
theorem dX10_barred_61 : decode cX10_barred 61 = .ok (.iload_n 1, 1) := by decide +kernel
theorem dX10_barred_62 : decode cX10_barred 62 = .ok (.iaload, 1) := by decide +kernel
theorem dX10_barred_63 : decode cX10_barred 63 = .ok (.ifCond .ge 9, 3) := by decide +kernel
theorem dX10_barred_66 : decode cX10_barred 66 = .ok (.aload_n 0, 1) := by decide +kernel
theorem dX10_barred_67 : decode cX10_barred 67 = .ok (.iconst 1, 1) := by decide +kernel
theorem dX10_barred_68 : decode cX10_barred 68 = .ok (.invokevirtual 101, 3) := by decide +kernel
theorem dX10_barred_71 : decode cX10_barred 71 = .ok (.ireturn, 1) := by decide +kernel
theorem dX10_barred_72 : decode cX10_barred 72 = .ok (.lload 4, 2) := by decide +kernel
theorem dX10_barred_74 : decode cX10_barred 74 = .ok (.lconst 0, 1) := by decide +kernel
theorem dX10_barred_75 : decode cX10_barred 75 = .ok (.lcmp, 1) := by decide +kernel
theorem dX10_barred_76 : decode cX10_barred 76 = .ok (.ifCond .ge 9, 3) := by decide +kernel
theorem dX10_barred_79 : decode cX10_barred 79 = .ok (.aload_n 0, 1) := by decide +kernel
theorem dX10_barred_80 : decode cX10_barred 80 = .ok (.iconst 4, 1) := by decide +kernel
theorem dX10_barred_81 : decode cX10_barred 81 = .ok (.invokevirtual 101, 3) := by decide +kernel
theorem dX10_barred_84 : decode cX10_barred 84 = .ok (.ireturn, 1) := by decide +kernel
theorem dX10_barred_85 : decode cX10_barred 85 = .ok (.iload_n 3, 1) := by decide +kernel
theorem dX10_barred_86 : decode cX10_barred 86 = .ok (.lload 4, 2) := by decide +kernel
theorem dX10_barred_88 : decode cX10_barred 88 = .ok (.aload_n 0, 1) := by decide +kernel
theorem dX10_barred_89 : decode cX10_barred 89 = .ok (.getfield 65, 3) := by decide +kernel
theorem dX10_barred_92 : decode cX10_barred 92 = .ok (.iload_n 1, 1) := by decide +kernel
theorem dX10_barred_93 : decode cX10_barred 93 = .ok (.iaload, 1) := by decide +kernel
theorem dX10_barred_94 : decode cX10_barred 94 = .ok (.invokestatic 104, 3) := by decide +kernel
theorem dX10_barred_97 : decode cX10_barred 97 = .ok (.ifCond .eq 11, 3) := by decide +kernel
theorem dX10_barred_100 : decode cX10_barred 100 = .ok (.aload_n 0, 1) := by decide +kernel
theorem dX10_barred_101 : decode cX10_barred 101 = .ok (.iconst 3, 1) := by decide +kernel
theorem dX10_barred_102 : decode cX10_barred 102 = .ok (.invokevirtual 101, 3) := by decide +kernel
theorem dX10_barred_105 : decode cX10_barred 105 = .ok (.goto 4, 3) := by decide +kernel
theorem dX10_barred_108 : decode cX10_barred 108 = .ok (.iconst 0, 1) := by decide +kernel
theorem dX10_barred_109 : decode cX10_barred 109 = .ok (.ireturn, 1) := by decide +kernel
theorem dX10_noRoom_0 : decode cX10_noRoom 0 = .ok (.iload_n 1, 1) := by decide +kernel
theorem dX10_noRoom_1 : decode cX10_noRoom 1 = .ok (.i2l, 1) := by decide +kernel
theorem dX10_noRoom_2 : decode cX10_noRoom 2 = .ok (.lconst 0, 1) := by decide +kernel
theorem dX10_noRoom_3 : decode cX10_noRoom 3 = .ok (.aload_n 0, 1) := by decide +kernel
theorem dX10_noRoom_4 : decode cX10_noRoom 4 = .ok (.getfield 108, 3) := by decide +kernel
theorem dX10_noRoom_7 : decode cX10_noRoom 7 = .ok (.i2l, 1) := by decide +kernel
theorem dX10_noRoom_8 : decode cX10_noRoom 8 = .ok (.lconst 1, 1) := by decide +kernel
theorem dX10_noRoom_9 : decode cX10_noRoom 9 = .ok (.lsub, 1) := by decide +kernel
theorem dX10_noRoom_10 : decode cX10_noRoom 10 = .ok (.invokestatic 97, 3) := by decide +kernel
theorem dX10_noRoom_13 : decode cX10_noRoom 13 = .ok (.ifCond .ne 7, 3) := by decide +kernel
theorem dX10_noRoom_16 : decode cX10_noRoom 16 = .ok (.iconst 1, 1) := by decide +kernel
theorem dX10_noRoom_17 : decode cX10_noRoom 17 = .ok (.goto 4, 3) := by decide +kernel
theorem dX10_noRoom_20 : decode cX10_noRoom 20 = .ok (.iconst 0, 1) := by decide +kernel
theorem dX10_noRoom_21 : decode cX10_noRoom 21 = .ok (.ireturn, 1) := by decide +kernel
theorem dX10_noDoor_0 : decode cX10_noDoor 0 = .ok (.iload_n 1, 1) := by decide +kernel
theorem dX10_noDoor_1 : decode cX10_noDoor 1 = .ok (.i2l, 1) := by decide +kernel
theorem dX10_noDoor_2 : decode cX10_noDoor 2 = .ok (.lconst 0, 1) := by decide +kernel
theorem dX10_noDoor_3 : decode cX10_noDoor 3 = .ok (.aload_n 0, 1) := by decide +kernel
theorem dX10_noDoor_4 : decode cX10_noDoor 4 = .ok (.getfield 111, 3) := by decide +kernel
theorem dX10_noDoor_7 : decode cX10_noDoor 7 = .ok (.i2l, 1) := by decide +kernel
theorem dX10_noDoor_8 : decode cX10_noDoor 8 = .ok (.lconst 1, 1) := by decide +kernel
theorem dX10_noDoor_9 : decode cX10_noDoor 9 = .ok (.lsub, 1) := by decide +kernel
theorem dX10_noDoor_10 : decode cX10_noDoor 10 = .ok (.invokestatic 97, 3) := by decide +kernel
theorem dX10_noDoor_13 : decode cX10_noDoor 13 = .ok (.ifCond .ne 7, 3) := by decide +kernel
theorem dX10_noDoor_16 : decode cX10_noDoor 16 = .ok (.iconst 1, 1) := by decide +kernel
theorem dX10_noDoor_17 : decode cX10_noDoor 17 = .ok (.goto 4, 3) := by decide +kernel
theorem dX10_noDoor_20 : decode cX10_noDoor 20 = .ok (.iconst 0, 1) := by decide +kernel
theorem dX10_noDoor_21 : decode cX10_noDoor 21 = .ok (.ireturn, 1) := by decide +kernel
theorem dX10_codeAt_0 : decode cX10_codeAt 0 = .ok (.aload_n 0, 1) := by decide +kernel
theorem dX10_codeAt_1 : decode cX10_codeAt 1 = .ok (.getfield 114, 3) := by decide +kernel
theorem dX10_codeAt_4 : decode cX10_codeAt 4 = .ok (.iload_n 2, 1) := by decide +kernel
theorem dX10_codeAt_5 : decode cX10_codeAt 5 = .ok (.if_icmp .ge 17, 3) := by decide +kernel
theorem dX10_codeAt_8 : decode cX10_codeAt 8 = .ok (.aload_n 0, 1) := by decide +kernel
theorem dX10_codeAt_9 : decode cX10_codeAt 9 = .ok (.getfield 71, 3) := by decide +kernel
theorem dX10_codeAt_12 : decode cX10_codeAt 12 = .ok (.iload_n 1, 1) := by decide +kernel
theorem dX10_codeAt_13 : decode cX10_codeAt 13 = .ok (.aload_n 0, 1) := by decide +kernel
theorem dX10_codeAt_14 : decode cX10_codeAt 14 = .ok (.getfield 114, 3) := by decide +kernel
theorem dX10_codeAt_17 : decode cX10_codeAt 17 = .ok (.iadd, 1) := by decide +kernel
theorem dX10_codeAt_18 : decode cX10_codeAt 18 = .ok (.iaload, 1) := by decide +kernel
theorem dX10_codeAt_19 : decode cX10_codeAt 19 = .ok (.goto 5, 3) := by decide +kernel
theorem dX10_codeAt_22 : decode cX10_codeAt 22 = .ok (.bipush (-9), 2) := by decide +kernel
theorem dX10_codeAt_24 : decode cX10_codeAt 24 = .ok (.ireturn, 1) := by decide +kernel
theorem dX10_figure_0 : decode cX10_figure 0 = .ok (.aload_n 0, 1) := by decide +kernel
theorem dX10_figure_1 : decode cX10_figure 1 = .ok (.iload_n 1, 1) := by decide +kernel
theorem dX10_figure_2 : decode cX10_figure 2 = .ok (.iload_n 2, 1) := by decide +kernel
theorem dX10_figure_3 : decode cX10_figure 3 = .ok (.invokevirtual 117, 3) := by decide +kernel
theorem dX10_figure_6 : decode cX10_figure 6 = .ok (.bipush 48, 2) := by decide +kernel
theorem dX10_figure_8 : decode cX10_figure 8 = .ok (.isub, 1) := by decide +kernel
theorem dX10_figure_9 : decode cX10_figure 9 = .ok (.istore 5, 2) := by decide +kernel
theorem dX10_figure_11 : decode cX10_figure 11 = .ok (.iload 5, 2) := by decide +kernel
theorem dX10_figure_13 : decode cX10_figure 13 = .ok (.i2l, 1) := by decide +kernel
theorem dX10_figure_14 : decode cX10_figure 14 = .ok (.iload_n 3, 1) := by decide +kernel
theorem dX10_figure_15 : decode cX10_figure 15 = .ok (.i2l, 1) := by decide +kernel
theorem dX10_figure_16 : decode cX10_figure 16 = .ok (.iload 4, 2) := by decide +kernel
theorem dX10_figure_18 : decode cX10_figure 18 = .ok (.i2l, 1) := by decide +kernel
theorem dX10_figure_19 : decode cX10_figure 19 = .ok (.invokestatic 97, 3) := by decide +kernel
theorem dX10_figure_22 : decode cX10_figure 22 = .ok (.istore 6, 2) := by decide +kernel
theorem dX10_figure_24 : decode cX10_figure 24 = .ok (.aload_n 0, 1) := by decide +kernel
theorem dX10_figure_25 : decode cX10_figure 25 = .ok (.dup, 1) := by decide +kernel
theorem dX10_figure_26 : decode cX10_figure 26 = .ok (.getfield 114, 3) := by decide +kernel
theorem dX10_figure_29 : decode cX10_figure 29 = .ok (.iload 6, 2) := by decide +kernel
theorem dX10_figure_31 : decode cX10_figure 31 = .ok (.ifCond .eq 7, 3) := by decide +kernel
theorem dX10_figure_34 : decode cX10_figure 34 = .ok (.iconst 1, 1) := by decide +kernel
theorem dX10_figure_35 : decode cX10_figure 35 = .ok (.goto 4, 3) := by decide +kernel
theorem dX10_figure_38 : decode cX10_figure 38 = .ok (.iconst 0, 1) := by decide +kernel
theorem dX10_figure_39 : decode cX10_figure 39 = .ok (.iadd, 1) := by decide +kernel
theorem dX10_figure_40 : decode cX10_figure 40 = .ok (.putfield 114, 3) := by decide +kernel
theorem dX10_figure_43 : decode cX10_figure 43 = .ok (.iload 6, 2) := by decide +kernel
theorem dX10_figure_45 : decode cX10_figure 45 = .ok (.ifCond .eq 8, 3) := by decide +kernel
theorem dX10_figure_48 : decode cX10_figure 48 = .ok (.iload 5, 2) := by decide +kernel
theorem dX10_figure_50 : decode cX10_figure 50 = .ok (.goto 5, 3) := by decide +kernel
theorem dX10_figure_53 : decode cX10_figure 53 = .ok (.bipush (-9), 2) := by decide +kernel
theorem dX10_figure_55 : decode cX10_figure 55 = .ok (.ireturn, 1) := by decide +kernel
theorem dX10_readsWeight_0 : decode cX10_readsWeight 0 = .ok (.aload_n 0, 1) := by decide +kernel
theorem dX10_readsWeight_1 : decode cX10_readsWeight 1 = .ok (.iload_n 1, 1) := by decide +kernel
theorem dX10_readsWeight_2 : decode cX10_readsWeight 2 = .ok (.iload_n 2, 1) := by decide +kernel
theorem dX10_readsWeight_3 : decode cX10_readsWeight 3 = .ok (.iconst 0, 1) := by decide +kernel
theorem dX10_readsWeight_4 : decode cX10_readsWeight 4 = .ok (.bipush 9, 2) := by decide +kernel
theorem dX10_readsWeight_6 : decode cX10_readsWeight 6 = .ok (.invokevirtual 121, 3) := by decide +kernel
theorem dX10_readsWeight_9 : decode cX10_readsWeight 9 = .ok (.istore_n 3, 1) := by decide +kernel
theorem dX10_readsWeight_10 : decode cX10_readsWeight 10 = .ok (.iload_n 3, 1) := by decide +kernel
theorem dX10_readsWeight_11 : decode cX10_readsWeight 11 = .ok (.ifCond .ge 8, 3) := by decide +kernel
theorem dX10_readsWeight_14 : decode cX10_readsWeight 14 = .ok (.bipush (-9), 2) := by decide +kernel
theorem dX10_readsWeight_16 : decode cX10_readsWeight 16 = .ok (.goto 12, 3) := by decide +kernel
theorem dX10_readsWeight_19 : decode cX10_readsWeight 19 = .ok (.aload_n 0, 1) := by decide +kernel
theorem dX10_readsWeight_20 : decode cX10_readsWeight 20 = .ok (.iload_n 1, 1) := by decide +kernel
theorem dX10_readsWeight_21 : decode cX10_readsWeight 21 = .ok (.iload_n 2, 1) := by decide +kernel
theorem dX10_readsWeight_22 : decode cX10_readsWeight 22 = .ok (.iconst 0, 1) := by decide +kernel
theorem dX10_readsWeight_23 : decode cX10_readsWeight 23 = .ok (.bipush 9, 2) := by decide +kernel
theorem dX10_readsWeight_25 : decode cX10_readsWeight 25 = .ok (.invokevirtual 121, 3) := by decide +kernel
theorem dX10_readsWeight_28 : decode cX10_readsWeight 28 = .ok (.istore 4, 2) := by decide +kernel
theorem dX10_readsWeight_30 : decode cX10_readsWeight 30 = .ok (.iload 4, 2) := by decide +kernel
theorem dX10_readsWeight_32 : decode cX10_readsWeight 32 = .ok (.ifCond .ge 6, 3) := by decide +kernel
theorem dX10_readsWeight_35 : decode cX10_readsWeight 35 = .ok (.bipush (-9), 2) := by decide +kernel
theorem dX10_readsWeight_37 : decode cX10_readsWeight 37 = .ok (.ireturn, 1) := by decide +kernel
theorem dX10_readsWeight_38 : decode cX10_readsWeight 38 = .ok (.iload_n 3, 1) := by decide +kernel
theorem dX10_readsWeight_39 : decode cX10_readsWeight 39 = .ok (.iload 4, 2) := by decide +kernel
theorem dX10_readsWeight_41 : decode cX10_readsWeight 41 = .ok (.iadd, 1) := by decide +kernel
theorem dX10_readsWeight_42 : decode cX10_readsWeight 42 = .ok (.ifCond .le 7, 3) := by decide +kernel
theorem dX10_readsWeight_45 : decode cX10_readsWeight 45 = .ok (.iconst 1, 1) := by decide +kernel
theorem dX10_readsWeight_46 : decode cX10_readsWeight 46 = .ok (.goto 4, 3) := by decide +kernel
theorem dX10_readsWeight_49 : decode cX10_readsWeight 49 = .ok (.iconst 0, 1) := by decide +kernel
theorem dX10_readsWeight_50 : decode cX10_readsWeight 50 = .ok (.istore 5, 2) := by decide +kernel
theorem dX10_readsWeight_52 : decode cX10_readsWeight 52 = .ok (.aload_n 0, 1) := by decide +kernel
theorem dX10_readsWeight_53 : decode cX10_readsWeight 53 = .ok (.dup, 1) := by decide +kernel
theorem dX10_readsWeight_54 : decode cX10_readsWeight 54 = .ok (.getfield 114, 3) := by decide +kernel
theorem dX10_readsWeight_57 : decode cX10_readsWeight 57 = .ok (.iload 5, 2) := by decide +kernel
theorem dX10_readsWeight_59 : decode cX10_readsWeight 59 = .ok (.ifCond .eq 7, 3) := by decide +kernel
theorem dX10_readsWeight_62 : decode cX10_readsWeight 62 = .ok (.iconst 0, 1) := by decide +kernel
theorem dX10_readsWeight_63 : decode cX10_readsWeight 63 = .ok (.goto 4, 3) := by decide +kernel
theorem dX10_readsWeight_66 : decode cX10_readsWeight 66 = .ok (.iconst 2, 1) := by decide +kernel
theorem dX10_readsWeight_67 : decode cX10_readsWeight 67 = .ok (.isub, 1) := by decide +kernel
theorem dX10_readsWeight_68 : decode cX10_readsWeight 68 = .ok (.putfield 114, 3) := by decide +kernel
theorem dX10_readsWeight_71 : decode cX10_readsWeight 71 = .ok (.iload 5, 2) := by decide +kernel
theorem dX10_readsWeight_73 : decode cX10_readsWeight 73 = .ok (.ifCond .eq 13, 3) := by decide +kernel
theorem dX10_readsWeight_76 : decode cX10_readsWeight 76 = .ok (.bipush 10, 2) := by decide +kernel
theorem dX10_readsWeight_78 : decode cX10_readsWeight 78 = .ok (.iload_n 3, 1) := by decide +kernel
theorem dX10_readsWeight_79 : decode cX10_readsWeight 79 = .ok (.imul, 1) := by decide +kernel
theorem dX10_readsWeight_80 : decode cX10_readsWeight 80 = .ok (.iload 4, 2) := by decide +kernel
theorem dX10_readsWeight_82 : decode cX10_readsWeight 82 = .ok (.iadd, 1) := by decide +kernel
theorem dX10_readsWeight_83 : decode cX10_readsWeight 83 = .ok (.goto 5, 3) := by decide +kernel
theorem dX10_readsWeight_86 : decode cX10_readsWeight 86 = .ok (.bipush (-9), 2) := by decide +kernel
theorem dX10_readsWeight_88 : decode cX10_readsWeight 88 = .ok (.ireturn, 1) := by decide +kernel
theorem dX10_readsDoor_0 : decode cX10_readsDoor 0 = .ok (.aload_n 0, 1) := by decide +kernel
theorem dX10_readsDoor_1 : decode cX10_readsDoor 1 = .ok (.getfield 125, 3) := by decide +kernel
theorem dX10_readsDoor_4 : decode cX10_readsDoor 4 = .ok (.bipush 8, 2) := by decide +kernel
theorem dX10_readsDoor_6 : decode cX10_readsDoor 6 = .ok (.if_icmp .eq 14, 3) := by decide +kernel
theorem dX10_readsDoor_9 : decode cX10_readsDoor 9 = .ok (.aload_n 0, 1) := by decide +kernel
theorem dX10_readsDoor_10 : decode cX10_readsDoor 10 = .ok (.iload_n 1, 1) := by decide +kernel
theorem dX10_readsDoor_11 : decode cX10_readsDoor 11 = .ok (.iload_n 2, 1) := by decide +kernel
theorem dX10_readsDoor_12 : decode cX10_readsDoor 12 = .ok (.invokevirtual 117, 3) := by decide +kernel
theorem dX10_readsDoor_15 : decode cX10_readsDoor 15 = .ok (.bipush 59, 2) := by decide +kernel
theorem dX10_readsDoor_17 : decode cX10_readsDoor 17 = .ok (.if_icmp .eq 5, 3) := by decide +kernel
theorem dX10_readsDoor_20 : decode cX10_readsDoor 20 = .ok (.iconst 0, 1) := by decide +kernel
theorem dX10_readsDoor_21 : decode cX10_readsDoor 21 = .ok (.ireturn, 1) := by decide +kernel
theorem dX10_readsDoor_22 : decode cX10_readsDoor 22 = .ok (.aload_n 0, 1) := by decide +kernel
theorem dX10_readsDoor_23 : decode cX10_readsDoor 23 = .ok (.dup, 1) := by decide +kernel
theorem dX10_readsDoor_24 : decode cX10_readsDoor 24 = .ok (.getfield 114, 3) := by decide +kernel
theorem dX10_readsDoor_27 : decode cX10_readsDoor 27 = .ok (.iconst 1, 1) := by decide +kernel
theorem dX10_readsDoor_28 : decode cX10_readsDoor 28 = .ok (.iadd, 1) := by decide +kernel
theorem dX10_readsDoor_29 : decode cX10_readsDoor 29 = .ok (.putfield 114, 3) := by decide +kernel
theorem dX10_readsDoor_32 : decode cX10_readsDoor 32 = .ok (.aload_n 0, 1) := by decide +kernel
theorem dX10_readsDoor_33 : decode cX10_readsDoor 33 = .ok (.iload_n 1, 1) := by decide +kernel
theorem dX10_readsDoor_34 : decode cX10_readsDoor 34 = .ok (.iload_n 2, 1) := by decide +kernel
theorem dX10_readsDoor_35 : decode cX10_readsDoor 35 = .ok (.invokevirtual 117, 3) := by decide +kernel
theorem dX10_readsDoor_38 : decode cX10_readsDoor 38 = .ok (.istore_n 3, 1) := by decide +kernel
theorem dX10_readsDoor_39 : decode cX10_readsDoor 39 = .ok (.iload_n 3, 1) := by decide +kernel
theorem dX10_readsDoor_40 : decode cX10_readsDoor 40 = .ok (.bipush 115, 2) := by decide +kernel
theorem dX10_readsDoor_42 : decode cX10_readsDoor 42 = .ok (.if_icmp .eq 17, 3) := by decide +kernel
theorem dX10_readsDoor_45 : decode cX10_readsDoor 45 = .ok (.iload_n 3, 1) := by decide +kernel
theorem dX10_readsDoor_46 : decode cX10_readsDoor 46 = .ok (.bipush 116, 2) := by decide +kernel
theorem dX10_readsDoor_48 : decode cX10_readsDoor 48 = .ok (.if_icmp .eq 11, 3) := by decide +kernel
theorem dX10_readsDoor_51 : decode cX10_readsDoor 51 = .ok (.iload_n 3, 1) := by decide +kernel
theorem dX10_readsDoor_52 : decode cX10_readsDoor 52 = .ok (.bipush 119, 2) := by decide +kernel
theorem dX10_readsDoor_54 : decode cX10_readsDoor 54 = .ok (.if_icmp .eq 5, 3) := by decide +kernel
theorem dX10_readsDoor_57 : decode cX10_readsDoor 57 = .ok (.iconst 0, 1) := by decide +kernel
theorem dX10_readsDoor_58 : decode cX10_readsDoor 58 = .ok (.ireturn, 1) := by decide +kernel
theorem dX10_readsDoor_59 : decode cX10_readsDoor 59 = .ok (.aload_n 0, 1) := by decide +kernel
theorem dX10_readsDoor_60 : decode cX10_readsDoor 60 = .ok (.dup, 1) := by decide +kernel
theorem dX10_readsDoor_61 : decode cX10_readsDoor 61 = .ok (.getfield 114, 3) := by decide +kernel
theorem dX10_readsDoor_64 : decode cX10_readsDoor 64 = .ok (.iconst 1, 1) := by decide +kernel
theorem dX10_readsDoor_65 : decode cX10_readsDoor 65 = .ok (.iadd, 1) := by decide +kernel
theorem dX10_readsDoor_66 : decode cX10_readsDoor 66 = .ok (.putfield 114, 3) := by decide +kernel
theorem dX10_readsDoor_69 : decode cX10_readsDoor 69 = .ok (.aload_n 0, 1) := by decide +kernel
theorem dX10_readsDoor_70 : decode cX10_readsDoor 70 = .ok (.iload_n 1, 1) := by decide +kernel
theorem dX10_readsDoor_71 : decode cX10_readsDoor 71 = .ok (.iload_n 2, 1) := by decide +kernel
theorem dX10_readsDoor_72 : decode cX10_readsDoor 72 = .ok (.iconst 0, 1) := by decide +kernel
theorem dX10_readsDoor_73 : decode cX10_readsDoor 73 = .ok (.aload_n 0, 1) := by decide +kernel
theorem dX10_readsDoor_74 : decode cX10_readsDoor 74 = .ok (.getfield 128, 3) := by decide +kernel
theorem dX10_readsDoor_77 : decode cX10_readsDoor 77 = .ok (.iconst 1, 1) := by decide +kernel
theorem dX10_readsDoor_78 : decode cX10_readsDoor 78 = .ok (.isub, 1) := by decide +kernel
theorem dX10_readsDoor_79 : decode cX10_readsDoor 79 = .ok (.invokevirtual 121, 3) := by decide +kernel
theorem dX10_readsDoor_82 : decode cX10_readsDoor 82 = .ok (.istore 4, 2) := by decide +kernel
theorem dX10_readsDoor_84 : decode cX10_readsDoor 84 = .ok (.iload 4, 2) := by decide +kernel
theorem dX10_readsDoor_86 : decode cX10_readsDoor 86 = .ok (.ifCond .lt 17, 3) := by decide +kernel
theorem dX10_readsDoor_89 : decode cX10_readsDoor 89 = .ok (.aload_n 0, 1) := by decide +kernel
theorem dX10_readsDoor_90 : decode cX10_readsDoor 90 = .ok (.iload_n 1, 1) := by decide +kernel
theorem dX10_readsDoor_91 : decode cX10_readsDoor 91 = .ok (.iload_n 2, 1) := by decide +kernel
theorem dX10_readsDoor_92 : decode cX10_readsDoor 92 = .ok (.invokevirtual 117, 3) := by decide +kernel
theorem dX10_readsDoor_95 : decode cX10_readsDoor 95 = .ok (.bipush 48, 2) := by decide +kernel
theorem dX10_readsDoor_97 : decode cX10_readsDoor 97 = .ok (.iload 4, 2) := by decide +kernel
theorem dX10_readsDoor_99 : decode cX10_readsDoor 99 = .ok (.iadd, 1) := by decide +kernel
theorem dX10_readsDoor_100 : decode cX10_readsDoor 100 = .ok (.if_icmp .ne 5, 3) := by decide +kernel
theorem dX10_readsDoor_103 : decode cX10_readsDoor 103 = .ok (.iconst 0, 1) := by decide +kernel
theorem dX10_readsDoor_104 : decode cX10_readsDoor 104 = .ok (.ireturn, 1) := by decide +kernel
theorem dX10_readsDoor_105 : decode cX10_readsDoor 105 = .ok (.aload_n 0, 1) := by decide +kernel
theorem dX10_readsDoor_106 : decode cX10_readsDoor 106 = .ok (.iload_n 1, 1) := by decide +kernel
theorem dX10_readsDoor_107 : decode cX10_readsDoor 107 = .ok (.iload_n 2, 1) := by decide +kernel
theorem dX10_readsDoor_108 : decode cX10_readsDoor 108 = .ok (.iconst 0, 1) := by decide +kernel
theorem dX10_readsDoor_109 : decode cX10_readsDoor 109 = .ok (.aload_n 0, 1) := by decide +kernel
theorem dX10_readsDoor_110 : decode cX10_readsDoor 110 = .ok (.getfield 128, 3) := by decide +kernel
theorem dX10_readsDoor_113 : decode cX10_readsDoor 113 = .ok (.iconst 1, 1) := by decide +kernel
theorem dX10_readsDoor_114 : decode cX10_readsDoor 114 = .ok (.isub, 1) := by decide +kernel
theorem dX10_readsDoor_115 : decode cX10_readsDoor 115 = .ok (.invokevirtual 121, 3) := by decide +kernel
theorem dX10_readsDoor_118 : decode cX10_readsDoor 118 = .ok (.istore 5, 2) := by decide +kernel
theorem dX10_readsDoor_120 : decode cX10_readsDoor 120 = .ok (.iload 5, 2) := by decide +kernel
theorem dX10_readsDoor_122 : decode cX10_readsDoor 122 = .ok (.ifCond .ge 8, 3) := by decide +kernel
theorem dX10_readsDoor_125 : decode cX10_readsDoor 125 = .ok (.bipush (-9), 2) := by decide +kernel
theorem dX10_readsDoor_127 : decode cX10_readsDoor 127 = .ok (.goto 9, 3) := by decide +kernel
theorem dX10_readsDoor_130 : decode cX10_readsDoor 130 = .ok (.aload_n 0, 1) := by decide +kernel
theorem dX10_readsDoor_131 : decode cX10_readsDoor 131 = .ok (.iload_n 1, 1) := by decide +kernel
theorem dX10_readsDoor_132 : decode cX10_readsDoor 132 = .ok (.iload_n 2, 1) := by decide +kernel
theorem dX10_readsDoor_133 : decode cX10_readsDoor 133 = .ok (.invokevirtual 131, 3) := by decide +kernel
theorem dX10_readsDoor_136 : decode cX10_readsDoor 136 = .ok (.istore 6, 2) := by decide +kernel
theorem dX10_readsDoor_138 : decode cX10_readsDoor 138 = .ok (.iload 6, 2) := by decide +kernel
theorem dX10_readsDoor_140 : decode cX10_readsDoor 140 = .ok (.ifCond .ge 5, 3) := by decide +kernel
theorem dX10_readsDoor_143 : decode cX10_readsDoor 143 = .ok (.iconst 0, 1) := by decide +kernel
theorem dX10_readsDoor_144 : decode cX10_readsDoor 144 = .ok (.ireturn, 1) := by decide +kernel
theorem dX10_readsDoor_145 : decode cX10_readsDoor 145 = .ok (.aload_n 0, 1) := by decide +kernel
theorem dX10_readsDoor_146 : decode cX10_readsDoor 146 = .ok (.getfield 19, 3) := by decide +kernel
theorem dX10_readsDoor_149 : decode cX10_readsDoor 149 = .ok (.aload_n 0, 1) := by decide +kernel
theorem dX10_readsDoor_150 : decode cX10_readsDoor 150 = .ok (.getfield 125, 3) := by decide +kernel
theorem dX10_readsDoor_153 : decode cX10_readsDoor 153 = .ok (.iload_n 3, 1) := by decide +kernel
theorem dX10_readsDoor_154 : decode cX10_readsDoor 154 = .ok (.bipush 115, 2) := by decide +kernel
theorem dX10_readsDoor_156 : decode cX10_readsDoor 156 = .ok (.if_icmp .ne 7, 3) := by decide +kernel
theorem dX10_readsDoor_159 : decode cX10_readsDoor 159 = .ok (.iconst 0, 1) := by decide +kernel
theorem dX10_readsDoor_160 : decode cX10_readsDoor 160 = .ok (.goto 14, 3) := by decide +kernel
theorem dX10_readsDoor_163 : decode cX10_readsDoor 163 = .ok (.iload_n 3, 1) := by decide +kernel
theorem dX10_readsDoor_164 : decode cX10_readsDoor 164 = .ok (.bipush 116, 2) := by decide +kernel
theorem dX10_readsDoor_166 : decode cX10_readsDoor 166 = .ok (.if_icmp .ne 7, 3) := by decide +kernel
theorem dX10_readsDoor_169 : decode cX10_readsDoor 169 = .ok (.iconst 1, 1) := by decide +kernel
theorem dX10_readsDoor_170 : decode cX10_readsDoor 170 = .ok (.goto 4, 3) := by decide +kernel
theorem dX10_readsDoor_173 : decode cX10_readsDoor 173 = .ok (.iconst 2, 1) := by decide +kernel
theorem dX10_readsDoor_174 : decode cX10_readsDoor 174 = .ok (.iastore, 1) := by decide +kernel
theorem dX10_readsDoor_175 : decode cX10_readsDoor 175 = .ok (.aload_n 0, 1) := by decide +kernel
theorem dX10_readsDoor_176 : decode cX10_readsDoor 176 = .ok (.getfield 22, 3) := by decide +kernel
theorem dX10_readsDoor_179 : decode cX10_readsDoor 179 = .ok (.iconst 2, 1) := by decide +kernel
theorem dX10_readsDoor_180 : decode cX10_readsDoor 180 = .ok (.aload_n 0, 1) := by decide +kernel
theorem dX10_readsDoor_181 : decode cX10_readsDoor 181 = .ok (.getfield 125, 3) := by decide +kernel
theorem dX10_readsDoor_184 : decode cX10_readsDoor 184 = .ok (.imul, 1) := by decide +kernel
theorem dX10_readsDoor_185 : decode cX10_readsDoor 185 = .ok (.iload 4, 2) := by decide +kernel
theorem dX10_readsDoor_187 : decode cX10_readsDoor 187 = .ok (.iastore, 1) := by decide +kernel
theorem dX10_readsDoor_188 : decode cX10_readsDoor 188 = .ok (.aload_n 0, 1) := by decide +kernel
theorem dX10_readsDoor_189 : decode cX10_readsDoor 189 = .ok (.getfield 22, 3) := by decide +kernel
theorem dX10_readsDoor_192 : decode cX10_readsDoor 192 = .ok (.iconst 2, 1) := by decide +kernel
theorem dX10_readsDoor_193 : decode cX10_readsDoor 193 = .ok (.aload_n 0, 1) := by decide +kernel
theorem dX10_readsDoor_194 : decode cX10_readsDoor 194 = .ok (.getfield 125, 3) := by decide +kernel
theorem dX10_readsDoor_197 : decode cX10_readsDoor 197 = .ok (.imul, 1) := by decide +kernel
theorem dX10_readsDoor_198 : decode cX10_readsDoor 198 = .ok (.iconst 1, 1) := by decide +kernel
theorem dX10_readsDoor_199 : decode cX10_readsDoor 199 = .ok (.iadd, 1) := by decide +kernel
theorem dX10_readsDoor_200 : decode cX10_readsDoor 200 = .ok (.iload 5, 2) := by decide +kernel
theorem dX10_readsDoor_202 : decode cX10_readsDoor 202 = .ok (.iastore, 1) := by decide +kernel
theorem dX10_readsDoor_203 : decode cX10_readsDoor 203 = .ok (.aload_n 0, 1) := by decide +kernel
theorem dX10_readsDoor_204 : decode cX10_readsDoor 204 = .ok (.getfield 25, 3) := by decide +kernel
theorem dX10_readsDoor_207 : decode cX10_readsDoor 207 = .ok (.aload_n 0, 1) := by decide +kernel
theorem dX10_readsDoor_208 : decode cX10_readsDoor 208 = .ok (.getfield 125, 3) := by decide +kernel
theorem dX10_readsDoor_211 : decode cX10_readsDoor 211 = .ok (.iload 6, 2) := by decide +kernel
theorem dX10_readsDoor_213 : decode cX10_readsDoor 213 = .ok (.iastore, 1) := by decide +kernel
theorem dX10_readsDoor_214 : decode cX10_readsDoor 214 = .ok (.aload_n 0, 1) := by decide +kernel
theorem dX10_readsDoor_215 : decode cX10_readsDoor 215 = .ok (.dup, 1) := by decide +kernel
theorem dX10_readsDoor_216 : decode cX10_readsDoor 216 = .ok (.getfield 125, 3) := by decide +kernel
theorem dX10_readsDoor_219 : decode cX10_readsDoor 219 = .ok (.iconst 1, 1) := by decide +kernel
theorem dX10_readsDoor_220 : decode cX10_readsDoor 220 = .ok (.iadd, 1) := by decide +kernel
theorem dX10_readsDoor_221 : decode cX10_readsDoor 221 = .ok (.putfield 125, 3) := by decide +kernel
theorem dX10_readsDoor_224 : decode cX10_readsDoor 224 = .ok (.iconst 1, 1) := by decide +kernel
theorem dX10_readsDoor_225 : decode cX10_readsDoor 225 = .ok (.ireturn, 1) := by decide +kernel
theorem dX10_readsHouse_0 : decode cX10_readsHouse 0 = .ok (.aload_n 0, 1) := by decide +kernel
theorem dX10_readsHouse_1 : decode cX10_readsHouse 1 = .ok (.iconst 0, 1) := by decide +kernel
theorem dX10_readsHouse_2 : decode cX10_readsHouse 2 = .ok (.putfield 114, 3) := by decide +kernel
theorem dX10_readsHouse_5 : decode cX10_readsHouse 5 = .ok (.aload_n 0, 1) := by decide +kernel
theorem dX10_readsHouse_6 : decode cX10_readsHouse 6 = .ok (.iconst 0, 1) := by decide +kernel
theorem dX10_readsHouse_7 : decode cX10_readsHouse 7 = .ok (.putfield 125, 3) := by decide +kernel
theorem dX10_readsHouse_10 : decode cX10_readsHouse 10 = .ok (.aload_n 0, 1) := by decide +kernel
theorem dX10_readsHouse_11 : decode cX10_readsHouse 11 = .ok (.iload_n 1, 1) := by decide +kernel
theorem dX10_readsHouse_12 : decode cX10_readsHouse 12 = .ok (.iload_n 2, 1) := by decide +kernel
theorem dX10_readsHouse_13 : decode cX10_readsHouse 13 = .ok (.invokevirtual 117, 3) := by decide +kernel
theorem dX10_readsHouse_16 : decode cX10_readsHouse 16 = .ok (.bipush 104, 2) := by decide +kernel
theorem dX10_readsHouse_18 : decode cX10_readsHouse 18 = .ok (.if_icmp .ne 7, 3) := by decide +kernel
theorem dX10_readsHouse_21 : decode cX10_readsHouse 21 = .ok (.iconst 1, 1) := by decide +kernel
theorem dX10_readsHouse_22 : decode cX10_readsHouse 22 = .ok (.goto 4, 3) := by decide +kernel
theorem dX10_readsHouse_25 : decode cX10_readsHouse 25 = .ok (.iconst 0, 1) := by decide +kernel
theorem dX10_readsHouse_26 : decode cX10_readsHouse 26 = .ok (.istore_n 3, 1) := by decide +kernel
theorem dX10_readsHouse_27 : decode cX10_readsHouse 27 = .ok (.aload_n 0, 1) := by decide +kernel
theorem dX10_readsHouse_28 : decode cX10_readsHouse 28 = .ok (.dup, 1) := by decide +kernel
theorem dX10_readsHouse_29 : decode cX10_readsHouse 29 = .ok (.getfield 114, 3) := by decide +kernel
theorem dX10_readsHouse_32 : decode cX10_readsHouse 32 = .ok (.iload_n 3, 1) := by decide +kernel
theorem dX10_readsHouse_33 : decode cX10_readsHouse 33 = .ok (.ifCond .eq 7, 3) := by decide +kernel
theorem dX10_readsHouse_36 : decode cX10_readsHouse 36 = .ok (.iconst 1, 1) := by decide +kernel
theorem dX10_readsHouse_37 : decode cX10_readsHouse 37 = .ok (.goto 4, 3) := by decide +kernel
theorem dX10_readsHouse_40 : decode cX10_readsHouse 40 = .ok (.iconst 0, 1) := by decide +kernel
theorem dX10_readsHouse_41 : decode cX10_readsHouse 41 = .ok (.iadd, 1) := by decide +kernel
theorem dX10_readsHouse_42 : decode cX10_readsHouse 42 = .ok (.putfield 114, 3) := by decide +kernel
theorem dX10_readsHouse_45 : decode cX10_readsHouse 45 = .ok (.aload_n 0, 1) := by decide +kernel
theorem dX10_readsHouse_46 : decode cX10_readsHouse 46 = .ok (.iload_n 3, 1) := by decide +kernel
theorem dX10_readsHouse_47 : decode cX10_readsHouse 47 = .ok (.ifCond .eq 15, 3) := by decide +kernel
theorem dX10_readsHouse_50 : decode cX10_readsHouse 50 = .ok (.aload_n 0, 1) := by decide +kernel
theorem dX10_readsHouse_51 : decode cX10_readsHouse 51 = .ok (.iload_n 1, 1) := by decide +kernel
theorem dX10_readsHouse_52 : decode cX10_readsHouse 52 = .ok (.iload_n 2, 1) := by decide +kernel
theorem dX10_readsHouse_53 : decode cX10_readsHouse 53 = .ok (.iconst 2, 1) := by decide +kernel
theorem dX10_readsHouse_54 : decode cX10_readsHouse 54 = .ok (.bipush 6, 2) := by decide +kernel
theorem dX10_readsHouse_56 : decode cX10_readsHouse 56 = .ok (.invokevirtual 121, 3) := by decide +kernel
theorem dX10_readsHouse_59 : decode cX10_readsHouse 59 = .ok (.goto 5, 3) := by decide +kernel
theorem dX10_readsHouse_62 : decode cX10_readsHouse 62 = .ok (.bipush (-9), 2) := by decide +kernel
theorem dX10_readsHouse_64 : decode cX10_readsHouse 64 = .ok (.putfield 128, 3) := by decide +kernel
theorem dX10_readsHouse_67 : decode cX10_readsHouse 67 = .ok (.aload_n 0, 1) := by decide +kernel
theorem dX10_readsHouse_68 : decode cX10_readsHouse 68 = .ok (.getfield 128, 3) := by decide +kernel
theorem dX10_readsHouse_71 : decode cX10_readsHouse 71 = .ok (.ifCond .le 7, 3) := by decide +kernel
theorem dX10_readsHouse_74 : decode cX10_readsHouse 74 = .ok (.iconst 1, 1) := by decide +kernel
theorem dX10_readsHouse_75 : decode cX10_readsHouse 75 = .ok (.goto 4, 3) := by decide +kernel
theorem dX10_readsHouse_78 : decode cX10_readsHouse 78 = .ok (.iconst 0, 1) := by decide +kernel
theorem dX10_readsHouse_79 : decode cX10_readsHouse 79 = .ok (.istore_n 3, 1) := by decide +kernel
theorem dX10_readsHouse_80 : decode cX10_readsHouse 80 = .ok (.iload_n 3, 1) := by decide +kernel
theorem dX10_readsHouse_81 : decode cX10_readsHouse 81 = .ok (.ifCond .eq 29, 3) := by decide +kernel
theorem dX10_readsHouse_84 : decode cX10_readsHouse 84 = .ok (.aload_n 0, 1) := by decide +kernel
theorem dX10_readsHouse_85 : decode cX10_readsHouse 85 = .ok (.getfield 125, 3) := by decide +kernel
theorem dX10_readsHouse_88 : decode cX10_readsHouse 88 = .ok (.iconst 1, 1) := by decide +kernel
theorem dX10_readsHouse_89 : decode cX10_readsHouse 89 = .ok (.if_icmp .lt 11, 3) := by decide +kernel
theorem dX10_readsHouse_92 : decode cX10_readsHouse 92 = .ok (.aload_n 0, 1) := by decide +kernel
theorem dX10_readsHouse_93 : decode cX10_readsHouse 93 = .ok (.getfield 114, 3) := by decide +kernel
theorem dX10_readsHouse_96 : decode cX10_readsHouse 96 = .ok (.iload_n 2, 1) := by decide +kernel
theorem dX10_readsHouse_97 : decode cX10_readsHouse 97 = .ok (.if_icmp .ge 13, 3) := by decide +kernel
theorem dX10_readsHouse_100 : decode cX10_readsHouse 100 = .ok (.aload_n 0, 1) := by decide +kernel
theorem dX10_readsHouse_101 : decode cX10_readsHouse 101 = .ok (.iload_n 1, 1) := by decide +kernel
theorem dX10_readsHouse_102 : decode cX10_readsHouse 102 = .ok (.iload_n 2, 1) := by decide +kernel
theorem dX10_readsHouse_103 : decode cX10_readsHouse 103 = .ok (.invokevirtual 134, 3) := by decide +kernel
theorem dX10_readsHouse_106 : decode cX10_readsHouse 106 = .ok (.istore_n 3, 1) := by decide +kernel
theorem dX10_readsHouse_107 : decode cX10_readsHouse 107 = .ok (.goto (-27), 3) := by decide +kernel
theorem dX10_readsHouse_110 : decode cX10_readsHouse 110 = .ok (.iload_n 3, 1) := by decide +kernel
theorem dX10_readsHouse_111 : decode cX10_readsHouse 111 = .ok (.ireturn, 1) := by decide +kernel
theorem dX10_house_0 : decode cX10_house 0 = .ok (.aload_n 0, 1) := by decide +kernel
theorem dX10_house_1 : decode cX10_house 1 = .ok (.iload_n 1, 1) := by decide +kernel
theorem dX10_house_2 : decode cX10_house 2 = .ok (.iload_n 2, 1) := by decide +kernel
theorem dX10_house_3 : decode cX10_house 3 = .ok (.iload_n 3, 1) := by decide +kernel
theorem dX10_house_4 : decode cX10_house 4 = .ok (.iload 4, 2) := by decide +kernel
theorem dX10_house_6 : decode cX10_house 6 = .ok (.i2l, 1) := by decide +kernel
theorem dX10_house_7 : decode cX10_house 7 = .ok (.invokevirtual 138, 3) := by decide +kernel
theorem dX10_house_10 : decode cX10_house 10 = .ok (.istore 5, 2) := by decide +kernel
theorem dX10_house_12 : decode cX10_house 12 = .ok (.iload 5, 2) := by decide +kernel
theorem dX10_house_14 : decode cX10_house 14 = .ok (.ifCond .ge 6, 3) := by decide +kernel
theorem dX10_house_17 : decode cX10_house 17 = .ok (.iload 5, 2) := by decide +kernel
theorem dX10_house_19 : decode cX10_house 19 = .ok (.ireturn, 1) := by decide +kernel
theorem dX10_house_20 : decode cX10_house 20 = .ok (.aload_n 0, 1) := by decide +kernel
theorem dX10_house_21 : decode cX10_house 21 = .ok (.bipush 60, 2) := by decide +kernel
theorem dX10_house_23 : decode cX10_house 23 = .ok (.iload_n 1, 1) := by decide +kernel
theorem dX10_house_24 : decode cX10_house 24 = .ok (.imul, 1) := by decide +kernel
theorem dX10_house_25 : decode cX10_house 25 = .ok (.iload_n 3, 1) := by decide +kernel
theorem dX10_house_26 : decode cX10_house 26 = .ok (.iadd, 1) := by decide +kernel
theorem dX10_house_27 : decode cX10_house 27 = .ok (.iload 4, 2) := by decide +kernel
theorem dX10_house_29 : decode cX10_house 29 = .ok (.invokevirtual 142, 3) := by decide +kernel
theorem dX10_house_32 : decode cX10_house 32 = .ok (.ifCond .ne 15, 3) := by decide +kernel
theorem dX10_house_35 : decode cX10_house 35 = .ok (.aload_n 0, 1) := by decide +kernel
theorem dX10_house_36 : decode cX10_house 36 = .ok (.bipush (-100), 2) := by decide +kernel
theorem dX10_house_38 : decode cX10_house 38 = .ok (.aload_n 0, 1) := by decide +kernel
theorem dX10_house_39 : decode cX10_house 39 = .ok (.getfield 114, 3) := by decide +kernel
theorem dX10_house_42 : decode cX10_house 42 = .ok (.isub, 1) := by decide +kernel
theorem dX10_house_43 : decode cX10_house 43 = .ok (.invokevirtual 91, 3) := by decide +kernel
theorem dX10_house_46 : decode cX10_house 46 = .ok (.ireturn, 1) := by decide +kernel
theorem dX10_house_47 : decode cX10_house 47 = .ok (.aload_n 0, 1) := by decide +kernel
theorem dX10_house_48 : decode cX10_house 48 = .ok (.aload_n 0, 1) := by decide +kernel
theorem dX10_house_49 : decode cX10_house 49 = .ok (.getfield 128, 3) := by decide +kernel
theorem dX10_house_52 : decode cX10_house 52 = .ok (.putfield 108, 3) := by decide +kernel
theorem dX10_house_55 : decode cX10_house 55 = .ok (.aload_n 0, 1) := by decide +kernel
theorem dX10_house_56 : decode cX10_house 56 = .ok (.aload_n 0, 1) := by decide +kernel
theorem dX10_house_57 : decode cX10_house 57 = .ok (.getfield 125, 3) := by decide +kernel
theorem dX10_house_60 : decode cX10_house 60 = .ok (.putfield 111, 3) := by decide +kernel
theorem dX10_house_63 : decode cX10_house 63 = .ok (.iconst 0, 1) := by decide +kernel
theorem dX10_house_64 : decode cX10_house 64 = .ok (.istore 6, 2) := by decide +kernel
theorem dX10_house_66 : decode cX10_house 66 = .ok (.iload 6, 2) := by decide +kernel
theorem dX10_house_68 : decode cX10_house 68 = .ok (.aload_n 0, 1) := by decide +kernel
theorem dX10_house_69 : decode cX10_house 69 = .ok (.getfield 111, 3) := by decide +kernel
theorem dX10_house_72 : decode cX10_house 72 = .ok (.if_icmp .ge 77, 3) := by decide +kernel
theorem dX10_house_75 : decode cX10_house 75 = .ok (.aload_n 0, 1) := by decide +kernel
theorem dX10_house_76 : decode cX10_house 76 = .ok (.getfield 7, 3) := by decide +kernel
theorem dX10_house_79 : decode cX10_house 79 = .ok (.iload 6, 2) := by decide +kernel
theorem dX10_house_81 : decode cX10_house 81 = .ok (.aload_n 0, 1) := by decide +kernel
theorem dX10_house_82 : decode cX10_house 82 = .ok (.getfield 19, 3) := by decide +kernel
theorem dX10_house_85 : decode cX10_house 85 = .ok (.iload 6, 2) := by decide +kernel
theorem dX10_house_87 : decode cX10_house 87 = .ok (.iaload, 1) := by decide +kernel
theorem dX10_house_88 : decode cX10_house 88 = .ok (.iastore, 1) := by decide +kernel
theorem dX10_house_89 : decode cX10_house 89 = .ok (.aload_n 0, 1) := by decide +kernel
theorem dX10_house_90 : decode cX10_house 90 = .ok (.getfield 13, 3) := by decide +kernel
theorem dX10_house_93 : decode cX10_house 93 = .ok (.iconst 2, 1) := by decide +kernel
theorem dX10_house_94 : decode cX10_house 94 = .ok (.iload 6, 2) := by decide +kernel
theorem dX10_house_96 : decode cX10_house 96 = .ok (.imul, 1) := by decide +kernel
theorem dX10_house_97 : decode cX10_house 97 = .ok (.aload_n 0, 1) := by decide +kernel
theorem dX10_house_98 : decode cX10_house 98 = .ok (.getfield 22, 3) := by decide +kernel
theorem dX10_house_101 : decode cX10_house 101 = .ok (.iconst 2, 1) := by decide +kernel
theorem dX10_house_102 : decode cX10_house 102 = .ok (.iload 6, 2) := by decide +kernel
theorem dX10_house_104 : decode cX10_house 104 = .ok (.imul, 1) := by decide +kernel
theorem dX10_house_105 : decode cX10_house 105 = .ok (.iaload, 1) := by decide +kernel
theorem dX10_house_106 : decode cX10_house 106 = .ok (.iastore, 1) := by decide +kernel
theorem dX10_house_107 : decode cX10_house 107 = .ok (.aload_n 0, 1) := by decide +kernel
theorem dX10_house_108 : decode cX10_house 108 = .ok (.getfield 13, 3) := by decide +kernel
theorem dX10_house_111 : decode cX10_house 111 = .ok (.iconst 2, 1) := by decide +kernel
theorem dX10_house_112 : decode cX10_house 112 = .ok (.iload 6, 2) := by decide +kernel
theorem dX10_house_114 : decode cX10_house 114 = .ok (.imul, 1) := by decide +kernel
theorem dX10_house_115 : decode cX10_house 115 = .ok (.iconst 1, 1) := by decide +kernel
theorem dX10_house_116 : decode cX10_house 116 = .ok (.iadd, 1) := by decide +kernel
theorem dX10_house_117 : decode cX10_house 117 = .ok (.aload_n 0, 1) := by decide +kernel
theorem dX10_house_118 : decode cX10_house 118 = .ok (.getfield 22, 3) := by decide +kernel
theorem dX10_house_121 : decode cX10_house 121 = .ok (.iconst 2, 1) := by decide +kernel
theorem dX10_house_122 : decode cX10_house 122 = .ok (.iload 6, 2) := by decide +kernel
theorem dX10_house_124 : decode cX10_house 124 = .ok (.imul, 1) := by decide +kernel
theorem dX10_house_125 : decode cX10_house 125 = .ok (.iconst 1, 1) := by decide +kernel
theorem dX10_house_126 : decode cX10_house 126 = .ok (.iadd, 1) := by decide +kernel
theorem dX10_house_127 : decode cX10_house 127 = .ok (.iaload, 1) := by decide +kernel
theorem dX10_house_128 : decode cX10_house 128 = .ok (.iastore, 1) := by decide +kernel
theorem dX10_house_129 : decode cX10_house 129 = .ok (.aload_n 0, 1) := by decide +kernel
theorem dX10_house_130 : decode cX10_house 130 = .ok (.getfield 16, 3) := by decide +kernel
theorem dX10_house_133 : decode cX10_house 133 = .ok (.iload 6, 2) := by decide +kernel
theorem dX10_house_135 : decode cX10_house 135 = .ok (.aload_n 0, 1) := by decide +kernel
theorem dX10_house_136 : decode cX10_house 136 = .ok (.getfield 25, 3) := by decide +kernel
theorem dX10_house_139 : decode cX10_house 139 = .ok (.iload 6, 2) := by decide +kernel
theorem dX10_house_141 : decode cX10_house 141 = .ok (.iaload, 1) := by decide +kernel
theorem dX10_house_142 : decode cX10_house 142 = .ok (.iastore, 1) := by decide +kernel
theorem dX10_house_143 : decode cX10_house 143 = .ok (.iinc 6 1, 3) := by decide +kernel
theorem dX10_house_146 : decode cX10_house 146 = .ok (.goto (-80), 3) := by decide +kernel
theorem dX10_house_149 : decode cX10_house 149 = .ok (.aload_n 0, 1) := by decide +kernel
theorem dX10_house_150 : decode cX10_house 150 = .ok (.iconst 0, 1) := by decide +kernel
theorem dX10_house_151 : decode cX10_house 151 = .ok (.putfield 145, 3) := by decide +kernel
theorem dX10_house_154 : decode cX10_house 154 = .ok (.aload_n 0, 1) := by decide +kernel
theorem dX10_house_155 : decode cX10_house 155 = .ok (.iconst 0, 1) := by decide +kernel
theorem dX10_house_156 : decode cX10_house 156 = .ok (.putfield 148, 3) := by decide +kernel
theorem dX10_house_159 : decode cX10_house 159 = .ok (.aload_n 0, 1) := by decide +kernel
theorem dX10_house_160 : decode cX10_house 160 = .ok (.aload_n 0, 1) := by decide +kernel
theorem dX10_house_161 : decode cX10_house 161 = .ok (.getfield 111, 3) := by decide +kernel
theorem dX10_house_164 : decode cX10_house 164 = .ok (.invokevirtual 91, 3) := by decide +kernel
theorem dX10_house_167 : decode cX10_house 167 = .ok (.ireturn, 1) := by decide +kernel
theorem dX10_slackOf_0 : decode cX10_slackOf 0 = .ok (.aload_n 0, 1) := by decide +kernel
theorem dX10_slackOf_1 : decode cX10_slackOf 1 = .ok (.getfield 7, 3) := by decide +kernel
theorem dX10_slackOf_4 : decode cX10_slackOf 4 = .ok (.iload_n 1, 1) := by decide +kernel
theorem dX10_slackOf_5 : decode cX10_slackOf 5 = .ok (.iaload, 1) := by decide +kernel
theorem dX10_slackOf_6 : decode cX10_slackOf 6 = .ok (.iconst 2, 1) := by decide +kernel
theorem dX10_slackOf_7 : decode cX10_slackOf 7 = .ok (.if_icmp .ne 7, 3) := by decide +kernel
theorem dX10_slackOf_10 : decode cX10_slackOf 10 = .ok (.iconst 5, 1) := by decide +kernel
theorem dX10_slackOf_11 : decode cX10_slackOf 11 = .ok (.goto 4, 3) := by decide +kernel
theorem dX10_slackOf_14 : decode cX10_slackOf 14 = .ok (.iconst 2, 1) := by decide +kernel
theorem dX10_slackOf_15 : decode cX10_slackOf 15 = .ok (.ireturn, 1) := by decide +kernel
theorem dX10_asks_0 : decode cX10_asks 0 = .ok (.iload_n 2, 1) := by decide +kernel
theorem dX10_asks_1 : decode cX10_asks 1 = .ok (.iconst 1, 1) := by decide +kernel
theorem dX10_asks_2 : decode cX10_asks 2 = .ok (.if_icmp .ne 24, 3) := by decide +kernel
theorem dX10_asks_5 : decode cX10_asks 5 = .ok (.aload_n 0, 1) := by decide +kernel
theorem dX10_asks_6 : decode cX10_asks 6 = .ok (.getfield 7, 3) := by decide +kernel
theorem dX10_asks_9 : decode cX10_asks 9 = .ok (.iload_n 1, 1) := by decide +kernel
theorem dX10_asks_10 : decode cX10_asks 10 = .ok (.iaload, 1) := by decide +kernel
theorem dX10_asks_11 : decode cX10_asks 11 = .ok (.ifCond .le 15, 3) := by decide +kernel
theorem dX10_asks_14 : decode cX10_asks 14 = .ok (.aload_n 0, 1) := by decide +kernel
theorem dX10_asks_15 : decode cX10_asks 15 = .ok (.getfield 16, 3) := by decide +kernel
theorem dX10_asks_18 : decode cX10_asks 18 = .ok (.iload_n 1, 1) := by decide +kernel
theorem dX10_asks_19 : decode cX10_asks 19 = .ok (.iaload, 1) := by decide +kernel
theorem dX10_asks_20 : decode cX10_asks 20 = .ok (.bipush 10, 2) := by decide +kernel
theorem dX10_asks_22 : decode cX10_asks 22 = .ok (.iadd, 1) := by decide +kernel
theorem dX10_asks_23 : decode cX10_asks 23 = .ok (.goto 9, 3) := by decide +kernel
theorem dX10_asks_26 : decode cX10_asks 26 = .ok (.aload_n 0, 1) := by decide +kernel
theorem dX10_asks_27 : decode cX10_asks 27 = .ok (.getfield 16, 3) := by decide +kernel
theorem dX10_asks_30 : decode cX10_asks 30 = .ok (.iload_n 1, 1) := by decide +kernel
theorem dX10_asks_31 : decode cX10_asks 31 = .ok (.iaload, 1) := by decide +kernel
theorem dX10_asks_32 : decode cX10_asks 32 = .ok (.ireturn, 1) := by decide +kernel
theorem dX10_isOpen_0 : decode cX10_isOpen 0 = .ok (.iload_n 3, 1) := by decide +kernel
theorem dX10_isOpen_1 : decode cX10_isOpen 1 = .ok (.i2l, 1) := by decide +kernel
theorem dX10_isOpen_2 : decode cX10_isOpen 2 = .ok (.aload_n 0, 1) := by decide +kernel
theorem dX10_isOpen_3 : decode cX10_isOpen 3 = .ok (.iload_n 1, 1) := by decide +kernel
theorem dX10_isOpen_4 : decode cX10_isOpen 4 = .ok (.iload_n 2, 1) := by decide +kernel
theorem dX10_isOpen_5 : decode cX10_isOpen 5 = .ok (.invokevirtual 151, 3) := by decide +kernel
theorem dX10_isOpen_8 : decode cX10_isOpen 8 = .ok (.aload_n 0, 1) := by decide +kernel
theorem dX10_isOpen_9 : decode cX10_isOpen 9 = .ok (.iload_n 1, 1) := by decide +kernel
theorem dX10_isOpen_10 : decode cX10_isOpen 10 = .ok (.invokevirtual 154, 3) := by decide +kernel
theorem dX10_isOpen_13 : decode cX10_isOpen 13 = .ok (.isub, 1) := by decide +kernel
theorem dX10_isOpen_14 : decode cX10_isOpen 14 = .ok (.i2l, 1) := by decide +kernel
theorem dX10_isOpen_15 : decode cX10_isOpen 15 = .ok (.aload_n 0, 1) := by decide +kernel
theorem dX10_isOpen_16 : decode cX10_isOpen 16 = .ok (.iload_n 1, 1) := by decide +kernel
theorem dX10_isOpen_17 : decode cX10_isOpen 17 = .ok (.iload_n 2, 1) := by decide +kernel
theorem dX10_isOpen_18 : decode cX10_isOpen 18 = .ok (.invokevirtual 151, 3) := by decide +kernel
theorem dX10_isOpen_21 : decode cX10_isOpen 21 = .ok (.aload_n 0, 1) := by decide +kernel
theorem dX10_isOpen_22 : decode cX10_isOpen 22 = .ok (.iload_n 1, 1) := by decide +kernel
theorem dX10_isOpen_23 : decode cX10_isOpen 23 = .ok (.invokevirtual 154, 3) := by decide +kernel
theorem dX10_isOpen_26 : decode cX10_isOpen 26 = .ok (.iadd, 1) := by decide +kernel
theorem dX10_isOpen_27 : decode cX10_isOpen 27 = .ok (.i2l, 1) := by decide +kernel
theorem dX10_isOpen_28 : decode cX10_isOpen 28 = .ok (.invokestatic 97, 3) := by decide +kernel
theorem dX10_isOpen_31 : decode cX10_isOpen 31 = .ok (.ireturn, 1) := by decide +kernel
theorem dX10_sideIn_0 : decode cX10_sideIn 0 = .ok (.aload_n 0, 1) := by decide +kernel
theorem dX10_sideIn_1 : decode cX10_sideIn 1 = .ok (.getfield 13, 3) := by decide +kernel
theorem dX10_sideIn_4 : decode cX10_sideIn 4 = .ok (.iconst 2, 1) := by decide +kernel
theorem dX10_sideIn_5 : decode cX10_sideIn 5 = .ok (.iload_n 1, 1) := by decide +kernel
theorem dX10_sideIn_6 : decode cX10_sideIn 6 = .ok (.imul, 1) := by decide +kernel
theorem dX10_sideIn_7 : decode cX10_sideIn 7 = .ok (.iaload, 1) := by decide +kernel
theorem dX10_sideIn_8 : decode cX10_sideIn 8 = .ok (.iload_n 2, 1) := by decide +kernel
theorem dX10_sideIn_9 : decode cX10_sideIn 9 = .ok (.if_icmp .ne 7, 3) := by decide +kernel
theorem dX10_sideIn_12 : decode cX10_sideIn 12 = .ok (.iconst 0, 1) := by decide +kernel
theorem dX10_sideIn_13 : decode cX10_sideIn 13 = .ok (.goto 23, 3) := by decide +kernel
theorem dX10_sideIn_16 : decode cX10_sideIn 16 = .ok (.aload_n 0, 1) := by decide +kernel
theorem dX10_sideIn_17 : decode cX10_sideIn 17 = .ok (.getfield 13, 3) := by decide +kernel
theorem dX10_sideIn_20 : decode cX10_sideIn 20 = .ok (.iconst 2, 1) := by decide +kernel
theorem dX10_sideIn_21 : decode cX10_sideIn 21 = .ok (.iload_n 1, 1) := by decide +kernel
theorem dX10_sideIn_22 : decode cX10_sideIn 22 = .ok (.imul, 1) := by decide +kernel
theorem dX10_sideIn_23 : decode cX10_sideIn 23 = .ok (.iconst 1, 1) := by decide +kernel
theorem dX10_sideIn_24 : decode cX10_sideIn 24 = .ok (.iadd, 1) := by decide +kernel
theorem dX10_sideIn_25 : decode cX10_sideIn 25 = .ok (.iaload, 1) := by decide +kernel
theorem dX10_sideIn_26 : decode cX10_sideIn 26 = .ok (.iload_n 2, 1) := by decide +kernel
theorem dX10_sideIn_27 : decode cX10_sideIn 27 = .ok (.if_icmp .ne 7, 3) := by decide +kernel
theorem dX10_sideIn_30 : decode cX10_sideIn 30 = .ok (.iconst 1, 1) := by decide +kernel
theorem dX10_sideIn_31 : decode cX10_sideIn 31 = .ok (.goto 5, 3) := by decide +kernel
theorem dX10_sideIn_34 : decode cX10_sideIn 34 = .ok (.bipush (-9), 2) := by decide +kernel
theorem dX10_sideIn_36 : decode cX10_sideIn 36 = .ok (.ireturn, 1) := by decide +kernel
theorem dX10_throughTo_0 : decode cX10_throughTo 0 = .ok (.aload_n 0, 1) := by decide +kernel
theorem dX10_throughTo_1 : decode cX10_throughTo 1 = .ok (.iload_n 1, 1) := by decide +kernel
theorem dX10_throughTo_2 : decode cX10_throughTo 2 = .ok (.iload_n 2, 1) := by decide +kernel
theorem dX10_throughTo_3 : decode cX10_throughTo 3 = .ok (.invokevirtual 157, 3) := by decide +kernel
theorem dX10_throughTo_6 : decode cX10_throughTo 6 = .ok (.istore 4, 2) := by decide +kernel
theorem dX10_throughTo_8 : decode cX10_throughTo 8 = .ok (.iload 4, 2) := by decide +kernel
theorem dX10_throughTo_10 : decode cX10_throughTo 10 = .ok (.ifCond .lt 30, 3) := by decide +kernel
theorem dX10_throughTo_13 : decode cX10_throughTo 13 = .ok (.aload_n 0, 1) := by decide +kernel
theorem dX10_throughTo_14 : decode cX10_throughTo 14 = .ok (.iload_n 1, 1) := by decide +kernel
theorem dX10_throughTo_15 : decode cX10_throughTo 15 = .ok (.iload 4, 2) := by decide +kernel
theorem dX10_throughTo_17 : decode cX10_throughTo 17 = .ok (.iload_n 3, 1) := by decide +kernel
theorem dX10_throughTo_18 : decode cX10_throughTo 18 = .ok (.invokevirtual 160, 3) := by decide +kernel
theorem dX10_throughTo_21 : decode cX10_throughTo 21 = .ok (.ifCond .eq 19, 3) := by decide +kernel
theorem dX10_throughTo_24 : decode cX10_throughTo 24 = .ok (.aload_n 0, 1) := by decide +kernel
theorem dX10_throughTo_25 : decode cX10_throughTo 25 = .ok (.getfield 13, 3) := by decide +kernel
theorem dX10_throughTo_28 : decode cX10_throughTo 28 = .ok (.iconst 2, 1) := by decide +kernel
theorem dX10_throughTo_29 : decode cX10_throughTo 29 = .ok (.iload_n 1, 1) := by decide +kernel
theorem dX10_throughTo_30 : decode cX10_throughTo 30 = .ok (.imul, 1) := by decide +kernel
theorem dX10_throughTo_31 : decode cX10_throughTo 31 = .ok (.iconst 1, 1) := by decide +kernel
theorem dX10_throughTo_32 : decode cX10_throughTo 32 = .ok (.iadd, 1) := by decide +kernel
theorem dX10_throughTo_33 : decode cX10_throughTo 33 = .ok (.iload 4, 2) := by decide +kernel
theorem dX10_throughTo_35 : decode cX10_throughTo 35 = .ok (.isub, 1) := by decide +kernel
theorem dX10_throughTo_36 : decode cX10_throughTo 36 = .ok (.iaload, 1) := by decide +kernel
theorem dX10_throughTo_37 : decode cX10_throughTo 37 = .ok (.goto 5, 3) := by decide +kernel
theorem dX10_throughTo_40 : decode cX10_throughTo 40 = .ok (.bipush (-9), 2) := by decide +kernel
theorem dX10_throughTo_42 : decode cX10_throughTo 42 = .ok (.ireturn, 1) := by decide +kernel
theorem dX10_ofDoor_0 : decode cX10_ofDoor 0 = .ok (.aload_n 0, 1) := by decide +kernel
theorem dX10_ofDoor_1 : decode cX10_ofDoor 1 = .ok (.iload_n 1, 1) := by decide +kernel
theorem dX10_ofDoor_2 : decode cX10_ofDoor 2 = .ok (.invokevirtual 164, 3) := by decide +kernel
theorem dX10_ofDoor_5 : decode cX10_ofDoor 5 = .ok (.ifCond .eq 5, 3) := by decide +kernel
theorem dX10_ofDoor_8 : decode cX10_ofDoor 8 = .ok (.iconst (-1), 1) := by decide +kernel
theorem dX10_ofDoor_9 : decode cX10_ofDoor 9 = .ok (.ireturn, 1) := by decide +kernel
theorem dX10_ofDoor_10 : decode cX10_ofDoor 10 = .ok (.iconst 0, 1) := by decide +kernel
theorem dX10_ofDoor_11 : decode cX10_ofDoor 11 = .ok (.istore_n 3, 1) := by decide +kernel
theorem dX10_ofDoor_12 : decode cX10_ofDoor 12 = .ok (.iload_n 2, 1) := by decide +kernel
theorem dX10_ofDoor_13 : decode cX10_ofDoor 13 = .ok (.tableswitch 118 0 7 #[47, 54, 54, 67, 74, 101, 74, 101], 47) := by decide +kernel
theorem dX10_ofDoor_60 : decode cX10_ofDoor 60 = .ok (.aload_n 0, 1) := by decide +kernel
theorem dX10_ofDoor_61 : decode cX10_ofDoor 61 = .ok (.getfield 7, 3) := by decide +kernel
theorem dX10_ofDoor_64 : decode cX10_ofDoor 64 = .ok (.iload_n 1, 1) := by decide +kernel
theorem dX10_ofDoor_65 : decode cX10_ofDoor 65 = .ok (.iaload, 1) := by decide +kernel
theorem dX10_ofDoor_66 : decode cX10_ofDoor 66 = .ok (.ireturn, 1) := by decide +kernel
theorem dX10_ofDoor_67 : decode cX10_ofDoor 67 = .ok (.aload_n 0, 1) := by decide +kernel
theorem dX10_ofDoor_68 : decode cX10_ofDoor 68 = .ok (.getfield 13, 3) := by decide +kernel
theorem dX10_ofDoor_71 : decode cX10_ofDoor 71 = .ok (.iconst 2, 1) := by decide +kernel
theorem dX10_ofDoor_72 : decode cX10_ofDoor 72 = .ok (.iload_n 1, 1) := by decide +kernel
theorem dX10_ofDoor_73 : decode cX10_ofDoor 73 = .ok (.imul, 1) := by decide +kernel
theorem dX10_ofDoor_74 : decode cX10_ofDoor 74 = .ok (.iload_n 2, 1) := by decide +kernel
theorem dX10_ofDoor_75 : decode cX10_ofDoor 75 = .ok (.iadd, 1) := by decide +kernel
theorem dX10_ofDoor_76 : decode cX10_ofDoor 76 = .ok (.iconst 1, 1) := by decide +kernel
theorem dX10_ofDoor_77 : decode cX10_ofDoor 77 = .ok (.isub, 1) := by decide +kernel
theorem dX10_ofDoor_78 : decode cX10_ofDoor 78 = .ok (.iaload, 1) := by decide +kernel
theorem dX10_ofDoor_79 : decode cX10_ofDoor 79 = .ok (.ireturn, 1) := by decide +kernel
theorem dX10_ofDoor_80 : decode cX10_ofDoor 80 = .ok (.aload_n 0, 1) := by decide +kernel
theorem dX10_ofDoor_81 : decode cX10_ofDoor 81 = .ok (.getfield 16, 3) := by decide +kernel
theorem dX10_ofDoor_84 : decode cX10_ofDoor 84 = .ok (.iload_n 1, 1) := by decide +kernel
theorem dX10_ofDoor_85 : decode cX10_ofDoor 85 = .ok (.iaload, 1) := by decide +kernel
theorem dX10_ofDoor_86 : decode cX10_ofDoor 86 = .ok (.ireturn, 1) := by decide +kernel
theorem dX10_ofDoor_87 : decode cX10_ofDoor 87 = .ok (.aload_n 0, 1) := by decide +kernel
theorem dX10_ofDoor_88 : decode cX10_ofDoor 88 = .ok (.iload_n 1, 1) := by decide +kernel
theorem dX10_ofDoor_89 : decode cX10_ofDoor 89 = .ok (.iload_n 2, 1) := by decide +kernel
theorem dX10_ofDoor_90 : decode cX10_ofDoor 90 = .ok (.iconst 2, 1) := by decide +kernel
theorem dX10_ofDoor_91 : decode cX10_ofDoor 91 = .ok (.idiv, 1) := by decide +kernel
theorem dX10_ofDoor_92 : decode cX10_ofDoor 92 = .ok (.iconst 2, 1) := by decide +kernel
theorem dX10_ofDoor_93 : decode cX10_ofDoor 93 = .ok (.isub, 1) := by decide +kernel
theorem dX10_ofDoor_94 : decode cX10_ofDoor 94 = .ok (.invokevirtual 151, 3) := by decide +kernel
theorem dX10_ofDoor_97 : decode cX10_ofDoor 97 = .ok (.aload_n 0, 1) := by decide +kernel
theorem dX10_ofDoor_98 : decode cX10_ofDoor 98 = .ok (.iload_n 1, 1) := by decide +kernel
theorem dX10_ofDoor_99 : decode cX10_ofDoor 99 = .ok (.invokevirtual 154, 3) := by decide +kernel
theorem dX10_ofDoor_102 : decode cX10_ofDoor 102 = .ok (.isub, 1) := by decide +kernel
theorem dX10_ofDoor_103 : decode cX10_ofDoor 103 = .ok (.istore_n 3, 1) := by decide +kernel
theorem dX10_ofDoor_104 : decode cX10_ofDoor 104 = .ok (.iload_n 3, 1) := by decide +kernel
theorem dX10_ofDoor_105 : decode cX10_ofDoor 105 = .ok (.ifCond .ge 7, 3) := by decide +kernel
theorem dX10_ofDoor_108 : decode cX10_ofDoor 108 = .ok (.iconst 0, 1) := by decide +kernel
theorem dX10_ofDoor_109 : decode cX10_ofDoor 109 = .ok (.goto 4, 3) := by decide +kernel
theorem dX10_ofDoor_112 : decode cX10_ofDoor 112 = .ok (.iload_n 3, 1) := by decide +kernel
theorem dX10_ofDoor_113 : decode cX10_ofDoor 113 = .ok (.ireturn, 1) := by decide +kernel
theorem dX10_ofDoor_114 : decode cX10_ofDoor 114 = .ok (.aload_n 0, 1) := by decide +kernel
theorem dX10_ofDoor_115 : decode cX10_ofDoor 115 = .ok (.iload_n 1, 1) := by decide +kernel
theorem dX10_ofDoor_116 : decode cX10_ofDoor 116 = .ok (.iload_n 2, 1) := by decide +kernel
theorem dX10_ofDoor_117 : decode cX10_ofDoor 117 = .ok (.iconst 2, 1) := by decide +kernel
theorem dX10_ofDoor_118 : decode cX10_ofDoor 118 = .ok (.idiv, 1) := by decide +kernel
theorem dX10_ofDoor_119 : decode cX10_ofDoor 119 = .ok (.iconst 2, 1) := by decide +kernel
theorem dX10_ofDoor_120 : decode cX10_ofDoor 120 = .ok (.isub, 1) := by decide +kernel
theorem dX10_ofDoor_121 : decode cX10_ofDoor 121 = .ok (.invokevirtual 151, 3) := by decide +kernel
theorem dX10_ofDoor_124 : decode cX10_ofDoor 124 = .ok (.aload_n 0, 1) := by decide +kernel
theorem dX10_ofDoor_125 : decode cX10_ofDoor 125 = .ok (.iload_n 1, 1) := by decide +kernel
theorem dX10_ofDoor_126 : decode cX10_ofDoor 126 = .ok (.invokevirtual 154, 3) := by decide +kernel
theorem dX10_ofDoor_129 : decode cX10_ofDoor 129 = .ok (.iadd, 1) := by decide +kernel
theorem dX10_ofDoor_130 : decode cX10_ofDoor 130 = .ok (.ireturn, 1) := by decide +kernel
theorem dX10_ofDoor_131 : decode cX10_ofDoor 131 = .ok (.bipush (-2), 2) := by decide +kernel
theorem dX10_ofDoor_133 : decode cX10_ofDoor 133 = .ok (.ireturn, 1) := by decide +kernel
theorem dX10_noPerson_0 : decode cX10_noPerson 0 = .ok (.iload_n 1, 1) := by decide +kernel
theorem dX10_noPerson_1 : decode cX10_noPerson 1 = .ok (.i2l, 1) := by decide +kernel
theorem dX10_noPerson_2 : decode cX10_noPerson 2 = .ok (.lconst 0, 1) := by decide +kernel
theorem dX10_noPerson_3 : decode cX10_noPerson 3 = .ok (.aload_n 0, 1) := by decide +kernel
theorem dX10_noPerson_4 : decode cX10_noPerson 4 = .ok (.getfield 145, 3) := by decide +kernel
theorem dX10_noPerson_7 : decode cX10_noPerson 7 = .ok (.i2l, 1) := by decide +kernel
theorem dX10_noPerson_8 : decode cX10_noPerson 8 = .ok (.lconst 1, 1) := by decide +kernel
theorem dX10_noPerson_9 : decode cX10_noPerson 9 = .ok (.lsub, 1) := by decide +kernel
theorem dX10_noPerson_10 : decode cX10_noPerson 10 = .ok (.invokestatic 97, 3) := by decide +kernel
theorem dX10_noPerson_13 : decode cX10_noPerson 13 = .ok (.ifCond .ne 7, 3) := by decide +kernel
theorem dX10_noPerson_16 : decode cX10_noPerson 16 = .ok (.iconst 1, 1) := by decide +kernel
theorem dX10_noPerson_17 : decode cX10_noPerson 17 = .ok (.goto 4, 3) := by decide +kernel
theorem dX10_noPerson_20 : decode cX10_noPerson 20 = .ok (.iconst 0, 1) := by decide +kernel
theorem dX10_noPerson_21 : decode cX10_noPerson 21 = .ok (.ireturn, 1) := by decide +kernel
theorem dX10_noStone_0 : decode cX10_noStone 0 = .ok (.iload_n 1, 1) := by decide +kernel
theorem dX10_noStone_1 : decode cX10_noStone 1 = .ok (.i2l, 1) := by decide +kernel
theorem dX10_noStone_2 : decode cX10_noStone 2 = .ok (.lconst 0, 1) := by decide +kernel
theorem dX10_noStone_3 : decode cX10_noStone 3 = .ok (.aload_n 0, 1) := by decide +kernel
theorem dX10_noStone_4 : decode cX10_noStone 4 = .ok (.getfield 148, 3) := by decide +kernel
theorem dX10_noStone_7 : decode cX10_noStone 7 = .ok (.i2l, 1) := by decide +kernel
theorem dX10_noStone_8 : decode cX10_noStone 8 = .ok (.lconst 1, 1) := by decide +kernel
theorem dX10_noStone_9 : decode cX10_noStone 9 = .ok (.lsub, 1) := by decide +kernel
theorem dX10_noStone_10 : decode cX10_noStone 10 = .ok (.invokestatic 97, 3) := by decide +kernel
theorem dX10_noStone_13 : decode cX10_noStone 13 = .ok (.ifCond .ne 7, 3) := by decide +kernel
theorem dX10_noStone_16 : decode cX10_noStone 16 = .ok (.iconst 1, 1) := by decide +kernel
theorem dX10_noStone_17 : decode cX10_noStone 17 = .ok (.goto 4, 3) := by decide +kernel
theorem dX10_noStone_20 : decode cX10_noStone 20 = .ok (.iconst 0, 1) := by decide +kernel
theorem dX10_noStone_21 : decode cX10_noStone 21 = .ok (.ireturn, 1) := by decide +kernel
theorem dX10_person_0 : decode cX10_person 0 = .ok (.aload_n 0, 1) := by decide +kernel
theorem dX10_person_1 : decode cX10_person 1 = .ok (.iload_n 2, 1) := by decide +kernel
theorem dX10_person_2 : decode cX10_person 2 = .ok (.invokevirtual 167, 3) := by decide +kernel
theorem dX10_person_5 : decode cX10_person 5 = .ok (.ifCond .eq 5, 3) := by decide +kernel
theorem dX10_person_8 : decode cX10_person 8 = .ok (.iconst (-1), 1) := by decide +kernel
theorem dX10_person_9 : decode cX10_person 9 = .ok (.ireturn, 1) := by decide +kernel
theorem dX10_person_10 : decode cX10_person 10 = .ok (.iload_n 1, 1) := by decide +kernel
theorem dX10_person_11 : decode cX10_person 11 = .ok (.i2l, 1) := by decide +kernel
theorem dX10_person_12 : decode cX10_person 12 = .ok (.ldc2_w 170, 3) := by decide +kernel
theorem dX10_person_15 : decode cX10_person 15 = .ok (.ldc2_w 172, 3) := by decide +kernel
theorem dX10_person_18 : decode cX10_person 18 = .ok (.invokestatic 97, 3) := by decide +kernel
theorem dX10_person_21 : decode cX10_person 21 = .ok (.ifCond .ne 6, 3) := by decide +kernel
theorem dX10_person_24 : decode cX10_person 24 = .ok (.bipush (-2), 2) := by decide +kernel
theorem dX10_person_26 : decode cX10_person 26 = .ok (.ireturn, 1) := by decide +kernel
theorem dX10_person_27 : decode cX10_person 27 = .ok (.aload_n 0, 1) := by decide +kernel
theorem dX10_person_28 : decode cX10_person 28 = .ok (.getfield 145, 3) := by decide +kernel
theorem dX10_person_31 : decode cX10_person 31 = .ok (.iconst 4, 1) := by decide +kernel
theorem dX10_person_32 : decode cX10_person 32 = .ok (.if_icmp .ne 6, 3) := by decide +kernel
theorem dX10_person_35 : decode cX10_person 35 = .ok (.bipush (-4), 2) := by decide +kernel
theorem dX10_person_37 : decode cX10_person 37 = .ok (.ireturn, 1) := by decide +kernel
theorem dX10_person_38 : decode cX10_person 38 = .ok (.aload_n 0, 1) := by decide +kernel
theorem dX10_person_39 : decode cX10_person 39 = .ok (.getfield 28, 3) := by decide +kernel
theorem dX10_person_42 : decode cX10_person 42 = .ok (.aload_n 0, 1) := by decide +kernel
theorem dX10_person_43 : decode cX10_person 43 = .ok (.getfield 145, 3) := by decide +kernel
theorem dX10_person_46 : decode cX10_person 46 = .ok (.iload_n 1, 1) := by decide +kernel
theorem dX10_person_47 : decode cX10_person 47 = .ok (.iastore, 1) := by decide +kernel
theorem dX10_person_48 : decode cX10_person 48 = .ok (.aload_n 0, 1) := by decide +kernel
theorem dX10_person_49 : decode cX10_person 49 = .ok (.getfield 31, 3) := by decide +kernel
theorem dX10_person_52 : decode cX10_person 52 = .ok (.aload_n 0, 1) := by decide +kernel
theorem dX10_person_53 : decode cX10_person 53 = .ok (.getfield 145, 3) := by decide +kernel
theorem dX10_person_56 : decode cX10_person 56 = .ok (.iload_n 2, 1) := by decide +kernel
theorem dX10_person_57 : decode cX10_person 57 = .ok (.iastore, 1) := by decide +kernel
theorem dX10_person_58 : decode cX10_person 58 = .ok (.aload_n 0, 1) := by decide +kernel
theorem dX10_person_59 : decode cX10_person 59 = .ok (.dup, 1) := by decide +kernel
theorem dX10_person_60 : decode cX10_person 60 = .ok (.getfield 145, 3) := by decide +kernel
theorem dX10_person_63 : decode cX10_person 63 = .ok (.iconst 1, 1) := by decide +kernel
theorem dX10_person_64 : decode cX10_person 64 = .ok (.iadd, 1) := by decide +kernel
theorem dX10_person_65 : decode cX10_person 65 = .ok (.putfield 145, 3) := by decide +kernel
theorem dX10_person_68 : decode cX10_person 68 = .ok (.aload_n 0, 1) := by decide +kernel
theorem dX10_person_69 : decode cX10_person 69 = .ok (.getfield 145, 3) := by decide +kernel
theorem dX10_person_72 : decode cX10_person 72 = .ok (.iconst 1, 1) := by decide +kernel
theorem dX10_person_73 : decode cX10_person 73 = .ok (.isub, 1) := by decide +kernel
theorem dX10_person_74 : decode cX10_person 74 = .ok (.ireturn, 1) := by decide +kernel
theorem dX10_stone_0 : decode cX10_stone 0 = .ok (.aload_n 0, 1) := by decide +kernel
theorem dX10_stone_1 : decode cX10_stone 1 = .ok (.iload_n 2, 1) := by decide +kernel
theorem dX10_stone_2 : decode cX10_stone 2 = .ok (.invokevirtual 167, 3) := by decide +kernel
theorem dX10_stone_5 : decode cX10_stone 5 = .ok (.ifCond .eq 5, 3) := by decide +kernel
theorem dX10_stone_8 : decode cX10_stone 8 = .ok (.iconst (-1), 1) := by decide +kernel
theorem dX10_stone_9 : decode cX10_stone 9 = .ok (.ireturn, 1) := by decide +kernel
theorem dX10_stone_10 : decode cX10_stone 10 = .ok (.iload_n 1, 1) := by decide +kernel
theorem dX10_stone_11 : decode cX10_stone 11 = .ok (.i2l, 1) := by decide +kernel
theorem dX10_stone_12 : decode cX10_stone 12 = .ok (.lconst 1, 1) := by decide +kernel
theorem dX10_stone_13 : decode cX10_stone 13 = .ok (.ldc2_w 174, 3) := by decide +kernel
theorem dX10_stone_16 : decode cX10_stone 16 = .ok (.invokestatic 97, 3) := by decide +kernel
theorem dX10_stone_19 : decode cX10_stone 19 = .ok (.ifCond .ne 6, 3) := by decide +kernel
theorem dX10_stone_22 : decode cX10_stone 22 = .ok (.bipush (-2), 2) := by decide +kernel
theorem dX10_stone_24 : decode cX10_stone 24 = .ok (.ireturn, 1) := by decide +kernel
theorem dX10_stone_25 : decode cX10_stone 25 = .ok (.aload_n 0, 1) := by decide +kernel
theorem dX10_stone_26 : decode cX10_stone 26 = .ok (.getfield 148, 3) := by decide +kernel
theorem dX10_stone_29 : decode cX10_stone 29 = .ok (.iconst 4, 1) := by decide +kernel
theorem dX10_stone_30 : decode cX10_stone 30 = .ok (.if_icmp .ne 6, 3) := by decide +kernel
theorem dX10_stone_33 : decode cX10_stone 33 = .ok (.bipush (-4), 2) := by decide +kernel
theorem dX10_stone_35 : decode cX10_stone 35 = .ok (.ireturn, 1) := by decide +kernel
theorem dX10_stone_36 : decode cX10_stone 36 = .ok (.aload_n 0, 1) := by decide +kernel
theorem dX10_stone_37 : decode cX10_stone 37 = .ok (.getfield 34, 3) := by decide +kernel
theorem dX10_stone_40 : decode cX10_stone 40 = .ok (.aload_n 0, 1) := by decide +kernel
theorem dX10_stone_41 : decode cX10_stone 41 = .ok (.getfield 148, 3) := by decide +kernel
theorem dX10_stone_44 : decode cX10_stone 44 = .ok (.iload_n 1, 1) := by decide +kernel
theorem dX10_stone_45 : decode cX10_stone 45 = .ok (.iastore, 1) := by decide +kernel
theorem dX10_stone_46 : decode cX10_stone 46 = .ok (.aload_n 0, 1) := by decide +kernel
theorem dX10_stone_47 : decode cX10_stone 47 = .ok (.getfield 37, 3) := by decide +kernel
theorem dX10_stone_50 : decode cX10_stone 50 = .ok (.aload_n 0, 1) := by decide +kernel
theorem dX10_stone_51 : decode cX10_stone 51 = .ok (.getfield 148, 3) := by decide +kernel
theorem dX10_stone_54 : decode cX10_stone 54 = .ok (.iload_n 2, 1) := by decide +kernel
theorem dX10_stone_55 : decode cX10_stone 55 = .ok (.iastore, 1) := by decide +kernel
theorem dX10_stone_56 : decode cX10_stone 56 = .ok (.aload_n 0, 1) := by decide +kernel
theorem dX10_stone_57 : decode cX10_stone 57 = .ok (.dup, 1) := by decide +kernel
theorem dX10_stone_58 : decode cX10_stone 58 = .ok (.getfield 148, 3) := by decide +kernel
theorem dX10_stone_61 : decode cX10_stone 61 = .ok (.iconst 1, 1) := by decide +kernel
theorem dX10_stone_62 : decode cX10_stone 62 = .ok (.iadd, 1) := by decide +kernel
theorem dX10_stone_63 : decode cX10_stone 63 = .ok (.putfield 148, 3) := by decide +kernel
theorem dX10_stone_66 : decode cX10_stone 66 = .ok (.aload_n 0, 1) := by decide +kernel
theorem dX10_stone_67 : decode cX10_stone 67 = .ok (.getfield 148, 3) := by decide +kernel
theorem dX10_stone_70 : decode cX10_stone 70 = .ok (.iconst 1, 1) := by decide +kernel
theorem dX10_stone_71 : decode cX10_stone 71 = .ok (.isub, 1) := by decide +kernel
theorem dX10_stone_72 : decode cX10_stone 72 = .ok (.ireturn, 1) := by decide +kernel
theorem dX10_carriedBy_0 : decode cX10_carriedBy 0 = .ok (.iconst 0, 1) := by decide +kernel
theorem dX10_carriedBy_1 : decode cX10_carriedBy 1 = .ok (.istore_n 2, 1) := by decide +kernel
theorem dX10_carriedBy_2 : decode cX10_carriedBy 2 = .ok (.iconst 0, 1) := by decide +kernel
theorem dX10_carriedBy_3 : decode cX10_carriedBy 3 = .ok (.istore_n 3, 1) := by decide +kernel
theorem dX10_carriedBy_4 : decode cX10_carriedBy 4 = .ok (.iload_n 3, 1) := by decide +kernel
theorem dX10_carriedBy_5 : decode cX10_carriedBy 5 = .ok (.aload_n 0, 1) := by decide +kernel
theorem dX10_carriedBy_6 : decode cX10_carriedBy 6 = .ok (.getfield 148, 3) := by decide +kernel
theorem dX10_carriedBy_9 : decode cX10_carriedBy 9 = .ok (.if_icmp .ge 32, 3) := by decide +kernel
theorem dX10_carriedBy_12 : decode cX10_carriedBy 12 = .ok (.iload_n 2, 1) := by decide +kernel
theorem dX10_carriedBy_13 : decode cX10_carriedBy 13 = .ok (.aload_n 0, 1) := by decide +kernel
theorem dX10_carriedBy_14 : decode cX10_carriedBy 14 = .ok (.getfield 37, 3) := by decide +kernel
theorem dX10_carriedBy_17 : decode cX10_carriedBy 17 = .ok (.iload_n 3, 1) := by decide +kernel
theorem dX10_carriedBy_18 : decode cX10_carriedBy 18 = .ok (.iaload, 1) := by decide +kernel
theorem dX10_carriedBy_19 : decode cX10_carriedBy 19 = .ok (.bipush 20, 2) := by decide +kernel
theorem dX10_carriedBy_21 : decode cX10_carriedBy 21 = .ok (.iload_n 1, 1) := by decide +kernel
theorem dX10_carriedBy_22 : decode cX10_carriedBy 22 = .ok (.iadd, 1) := by decide +kernel
theorem dX10_carriedBy_23 : decode cX10_carriedBy 23 = .ok (.if_icmp .ne 9, 3) := by decide +kernel
theorem dX10_carriedBy_26 : decode cX10_carriedBy 26 = .ok (.iconst 1, 1) := by decide +kernel
theorem dX10_carriedBy_27 : decode cX10_carriedBy 27 = .ok (.iload_n 3, 1) := by decide +kernel
theorem dX10_carriedBy_28 : decode cX10_carriedBy 28 = .ok (.ishl, 1) := by decide +kernel
theorem dX10_carriedBy_29 : decode cX10_carriedBy 29 = .ok (.goto 4, 3) := by decide +kernel
theorem dX10_carriedBy_32 : decode cX10_carriedBy 32 = .ok (.iconst 0, 1) := by decide +kernel
theorem dX10_carriedBy_33 : decode cX10_carriedBy 33 = .ok (.ior, 1) := by decide +kernel
theorem dX10_carriedBy_34 : decode cX10_carriedBy 34 = .ok (.istore_n 2, 1) := by decide +kernel
theorem dX10_carriedBy_35 : decode cX10_carriedBy 35 = .ok (.iinc 3 1, 3) := by decide +kernel
theorem dX10_carriedBy_38 : decode cX10_carriedBy 38 = .ok (.goto (-34), 3) := by decide +kernel
theorem dX10_carriedBy_41 : decode cX10_carriedBy 41 = .ok (.iload_n 2, 1) := by decide +kernel
theorem dX10_carriedBy_42 : decode cX10_carriedBy 42 = .ok (.ireturn, 1) := by decide +kernel
theorem dX10_bits_0 : decode cX10_bits 0 = .ok (.iconst 0, 1) := by decide +kernel
theorem dX10_bits_1 : decode cX10_bits 1 = .ok (.istore_n 1, 1) := by decide +kernel
theorem dX10_bits_2 : decode cX10_bits 2 = .ok (.iload_n 0, 1) := by decide +kernel
theorem dX10_bits_3 : decode cX10_bits 3 = .ok (.istore_n 2, 1) := by decide +kernel
theorem dX10_bits_4 : decode cX10_bits 4 = .ok (.iload_n 2, 1) := by decide +kernel
theorem dX10_bits_5 : decode cX10_bits 5 = .ok (.ifCond .le 16, 3) := by decide +kernel
theorem dX10_bits_8 : decode cX10_bits 8 = .ok (.iload_n 1, 1) := by decide +kernel
theorem dX10_bits_9 : decode cX10_bits 9 = .ok (.iload_n 2, 1) := by decide +kernel
theorem dX10_bits_10 : decode cX10_bits 10 = .ok (.iconst 1, 1) := by decide +kernel
theorem dX10_bits_11 : decode cX10_bits 11 = .ok (.iand, 1) := by decide +kernel
theorem dX10_bits_12 : decode cX10_bits 12 = .ok (.iadd, 1) := by decide +kernel
theorem dX10_bits_13 : decode cX10_bits 13 = .ok (.istore_n 1, 1) := by decide +kernel
theorem dX10_bits_14 : decode cX10_bits 14 = .ok (.iload_n 2, 1) := by decide +kernel
theorem dX10_bits_15 : decode cX10_bits 15 = .ok (.iconst 1, 1) := by decide +kernel
theorem dX10_bits_16 : decode cX10_bits 16 = .ok (.ishr, 1) := by decide +kernel
theorem dX10_bits_17 : decode cX10_bits 17 = .ok (.istore_n 2, 1) := by decide +kernel
theorem dX10_bits_18 : decode cX10_bits 18 = .ok (.goto (-14), 3) := by decide +kernel
theorem dX10_bits_21 : decode cX10_bits 21 = .ok (.iload_n 1, 1) := by decide +kernel
theorem dX10_bits_22 : decode cX10_bits 22 = .ok (.ireturn, 1) := by decide +kernel
theorem dX10_withStones_0 : decode cX10_withStones 0 = .ok (.aload_n 0, 1) := by decide +kernel
theorem dX10_withStones_1 : decode cX10_withStones 1 = .ok (.getfield 28, 3) := by decide +kernel
theorem dX10_withStones_4 : decode cX10_withStones 4 = .ok (.iload_n 1, 1) := by decide +kernel
theorem dX10_withStones_5 : decode cX10_withStones 5 = .ok (.iaload, 1) := by decide +kernel
theorem dX10_withStones_6 : decode cX10_withStones 6 = .ok (.istore_n 2, 1) := by decide +kernel
theorem dX10_withStones_7 : decode cX10_withStones 7 = .ok (.iconst 0, 1) := by decide +kernel
theorem dX10_withStones_8 : decode cX10_withStones 8 = .ok (.istore_n 3, 1) := by decide +kernel
theorem dX10_withStones_9 : decode cX10_withStones 9 = .ok (.iload_n 3, 1) := by decide +kernel
theorem dX10_withStones_10 : decode cX10_withStones 10 = .ok (.aload_n 0, 1) := by decide +kernel
theorem dX10_withStones_11 : decode cX10_withStones 11 = .ok (.getfield 148, 3) := by decide +kernel
theorem dX10_withStones_14 : decode cX10_withStones 14 = .ok (.if_icmp .ge 35, 3) := by decide +kernel
theorem dX10_withStones_17 : decode cX10_withStones 17 = .ok (.iload_n 2, 1) := by decide +kernel
theorem dX10_withStones_18 : decode cX10_withStones 18 = .ok (.aload_n 0, 1) := by decide +kernel
theorem dX10_withStones_19 : decode cX10_withStones 19 = .ok (.getfield 37, 3) := by decide +kernel
theorem dX10_withStones_22 : decode cX10_withStones 22 = .ok (.iload_n 3, 1) := by decide +kernel
theorem dX10_withStones_23 : decode cX10_withStones 23 = .ok (.iaload, 1) := by decide +kernel
theorem dX10_withStones_24 : decode cX10_withStones 24 = .ok (.bipush 20, 2) := by decide +kernel
theorem dX10_withStones_26 : decode cX10_withStones 26 = .ok (.iload_n 1, 1) := by decide +kernel
theorem dX10_withStones_27 : decode cX10_withStones 27 = .ok (.iadd, 1) := by decide +kernel
theorem dX10_withStones_28 : decode cX10_withStones 28 = .ok (.if_icmp .ne 12, 3) := by decide +kernel
theorem dX10_withStones_31 : decode cX10_withStones 31 = .ok (.aload_n 0, 1) := by decide +kernel
theorem dX10_withStones_32 : decode cX10_withStones 32 = .ok (.getfield 34, 3) := by decide +kernel
theorem dX10_withStones_35 : decode cX10_withStones 35 = .ok (.iload_n 3, 1) := by decide +kernel
theorem dX10_withStones_36 : decode cX10_withStones 36 = .ok (.iaload, 1) := by decide +kernel
theorem dX10_withStones_37 : decode cX10_withStones 37 = .ok (.goto 4, 3) := by decide +kernel
theorem dX10_withStones_40 : decode cX10_withStones 40 = .ok (.iconst 0, 1) := by decide +kernel
theorem dX10_withStones_41 : decode cX10_withStones 41 = .ok (.iadd, 1) := by decide +kernel
theorem dX10_withStones_42 : decode cX10_withStones 42 = .ok (.istore_n 2, 1) := by decide +kernel
theorem dX10_withStones_43 : decode cX10_withStones 43 = .ok (.iinc 3 1, 3) := by decide +kernel
theorem dX10_withStones_46 : decode cX10_withStones 46 = .ok (.goto (-37), 3) := by decide +kernel
theorem dX10_withStones_49 : decode cX10_withStones 49 = .ok (.iload_n 2, 1) := by decide +kernel
theorem dX10_withStones_50 : decode cX10_withStones 50 = .ok (.ireturn, 1) := by decide +kernel
theorem dX10_ofPerson_0 : decode cX10_ofPerson 0 = .ok (.aload_n 0, 1) := by decide +kernel
theorem dX10_ofPerson_1 : decode cX10_ofPerson 1 = .ok (.iload_n 1, 1) := by decide +kernel
theorem dX10_ofPerson_2 : decode cX10_ofPerson 2 = .ok (.invokevirtual 176, 3) := by decide +kernel
theorem dX10_ofPerson_5 : decode cX10_ofPerson 5 = .ok (.ifCond .eq 5, 3) := by decide +kernel
theorem dX10_ofPerson_8 : decode cX10_ofPerson 8 = .ok (.iconst (-1), 1) := by decide +kernel
theorem dX10_ofPerson_9 : decode cX10_ofPerson 9 = .ok (.ireturn, 1) := by decide +kernel
theorem dX10_ofPerson_10 : decode cX10_ofPerson 10 = .ok (.iload_n 2, 1) := by decide +kernel
theorem dX10_ofPerson_11 : decode cX10_ofPerson 11 = .ok (.tableswitch 55 0 3 #[29, 36, 43, 49], 29) := by decide +kernel
theorem dX10_ofPerson_40 : decode cX10_ofPerson 40 = .ok (.aload_n 0, 1) := by decide +kernel
theorem dX10_ofPerson_41 : decode cX10_ofPerson 41 = .ok (.getfield 28, 3) := by decide +kernel
theorem dX10_ofPerson_44 : decode cX10_ofPerson 44 = .ok (.iload_n 1, 1) := by decide +kernel
theorem dX10_ofPerson_45 : decode cX10_ofPerson 45 = .ok (.iaload, 1) := by decide +kernel
theorem dX10_ofPerson_46 : decode cX10_ofPerson 46 = .ok (.ireturn, 1) := by decide +kernel
theorem dX10_ofPerson_47 : decode cX10_ofPerson 47 = .ok (.aload_n 0, 1) := by decide +kernel
theorem dX10_ofPerson_48 : decode cX10_ofPerson 48 = .ok (.getfield 31, 3) := by decide +kernel
theorem dX10_ofPerson_51 : decode cX10_ofPerson 51 = .ok (.iload_n 1, 1) := by decide +kernel
theorem dX10_ofPerson_52 : decode cX10_ofPerson 52 = .ok (.iaload, 1) := by decide +kernel
theorem dX10_ofPerson_53 : decode cX10_ofPerson 53 = .ok (.ireturn, 1) := by decide +kernel
theorem dX10_ofPerson_54 : decode cX10_ofPerson 54 = .ok (.aload_n 0, 1) := by decide +kernel
theorem dX10_ofPerson_55 : decode cX10_ofPerson 55 = .ok (.iload_n 1, 1) := by decide +kernel
theorem dX10_ofPerson_56 : decode cX10_ofPerson 56 = .ok (.invokevirtual 179, 3) := by decide +kernel
theorem dX10_ofPerson_59 : decode cX10_ofPerson 59 = .ok (.ireturn, 1) := by decide +kernel
theorem dX10_ofPerson_60 : decode cX10_ofPerson 60 = .ok (.aload_n 0, 1) := by decide +kernel
theorem dX10_ofPerson_61 : decode cX10_ofPerson 61 = .ok (.iload_n 1, 1) := by decide +kernel
theorem dX10_ofPerson_62 : decode cX10_ofPerson 62 = .ok (.invokevirtual 182, 3) := by decide +kernel
theorem dX10_ofPerson_65 : decode cX10_ofPerson 65 = .ok (.ireturn, 1) := by decide +kernel
theorem dX10_ofPerson_66 : decode cX10_ofPerson 66 = .ok (.bipush (-2), 2) := by decide +kernel
theorem dX10_ofPerson_68 : decode cX10_ofPerson 68 = .ok (.ireturn, 1) := by decide +kernel
theorem dX10_ofStone_0 : decode cX10_ofStone 0 = .ok (.aload_n 0, 1) := by decide +kernel
theorem dX10_ofStone_1 : decode cX10_ofStone 1 = .ok (.iload_n 1, 1) := by decide +kernel
theorem dX10_ofStone_2 : decode cX10_ofStone 2 = .ok (.invokevirtual 185, 3) := by decide +kernel
theorem dX10_ofStone_5 : decode cX10_ofStone 5 = .ok (.ifCond .eq 5, 3) := by decide +kernel
theorem dX10_ofStone_8 : decode cX10_ofStone 8 = .ok (.iconst (-1), 1) := by decide +kernel
theorem dX10_ofStone_9 : decode cX10_ofStone 9 = .ok (.ireturn, 1) := by decide +kernel
theorem dX10_ofStone_10 : decode cX10_ofStone 10 = .ok (.iload_n 2, 1) := by decide +kernel
theorem dX10_ofStone_11 : decode cX10_ofStone 11 = .ok (.ifCond .ne 12, 3) := by decide +kernel
theorem dX10_ofStone_14 : decode cX10_ofStone 14 = .ok (.aload_n 0, 1) := by decide +kernel
theorem dX10_ofStone_15 : decode cX10_ofStone 15 = .ok (.getfield 34, 3) := by decide +kernel
theorem dX10_ofStone_18 : decode cX10_ofStone 18 = .ok (.iload_n 1, 1) := by decide +kernel
theorem dX10_ofStone_19 : decode cX10_ofStone 19 = .ok (.iaload, 1) := by decide +kernel
theorem dX10_ofStone_20 : decode cX10_ofStone 20 = .ok (.goto 40, 3) := by decide +kernel
theorem dX10_ofStone_23 : decode cX10_ofStone 23 = .ok (.iload_n 2, 1) := by decide +kernel
theorem dX10_ofStone_24 : decode cX10_ofStone 24 = .ok (.iconst 1, 1) := by decide +kernel
theorem dX10_ofStone_25 : decode cX10_ofStone 25 = .ok (.if_icmp .ne 33, 3) := by decide +kernel
theorem dX10_ofStone_28 : decode cX10_ofStone 28 = .ok (.aload_n 0, 1) := by decide +kernel
theorem dX10_ofStone_29 : decode cX10_ofStone 29 = .ok (.getfield 37, 3) := by decide +kernel
theorem dX10_ofStone_32 : decode cX10_ofStone 32 = .ok (.iload_n 1, 1) := by decide +kernel
theorem dX10_ofStone_33 : decode cX10_ofStone 33 = .ok (.iaload, 1) := by decide +kernel
theorem dX10_ofStone_34 : decode cX10_ofStone 34 = .ok (.bipush 20, 2) := by decide +kernel
theorem dX10_ofStone_36 : decode cX10_ofStone 36 = .ok (.if_icmp .ge 12, 3) := by decide +kernel
theorem dX10_ofStone_39 : decode cX10_ofStone 39 = .ok (.aload_n 0, 1) := by decide +kernel
theorem dX10_ofStone_40 : decode cX10_ofStone 40 = .ok (.getfield 37, 3) := by decide +kernel
theorem dX10_ofStone_43 : decode cX10_ofStone 43 = .ok (.iload_n 1, 1) := by decide +kernel
theorem dX10_ofStone_44 : decode cX10_ofStone 44 = .ok (.iaload, 1) := by decide +kernel
theorem dX10_ofStone_45 : decode cX10_ofStone 45 = .ok (.goto 15, 3) := by decide +kernel
theorem dX10_ofStone_48 : decode cX10_ofStone 48 = .ok (.aload_n 0, 1) := by decide +kernel
theorem dX10_ofStone_49 : decode cX10_ofStone 49 = .ok (.getfield 37, 3) := by decide +kernel
theorem dX10_ofStone_52 : decode cX10_ofStone 52 = .ok (.iload_n 1, 1) := by decide +kernel
theorem dX10_ofStone_53 : decode cX10_ofStone 53 = .ok (.iaload, 1) := by decide +kernel
theorem dX10_ofStone_54 : decode cX10_ofStone 54 = .ok (.ineg, 1) := by decide +kernel
theorem dX10_ofStone_55 : decode cX10_ofStone 55 = .ok (.goto 5, 3) := by decide +kernel
theorem dX10_ofStone_58 : decode cX10_ofStone 58 = .ok (.bipush (-2), 2) := by decide +kernel
theorem dX10_ofStone_60 : decode cX10_ofStone 60 = .ok (.ireturn, 1) := by decide +kernel
theorem dX10_take_0 : decode cX10_take 0 = .ok (.aload_n 0, 1) := by decide +kernel
theorem dX10_take_1 : decode cX10_take 1 = .ok (.iload_n 1, 1) := by decide +kernel
theorem dX10_take_2 : decode cX10_take 2 = .ok (.invokevirtual 176, 3) := by decide +kernel
theorem dX10_take_5 : decode cX10_take 5 = .ok (.ifCond .ne 11, 3) := by decide +kernel
theorem dX10_take_8 : decode cX10_take 8 = .ok (.aload_n 0, 1) := by decide +kernel
theorem dX10_take_9 : decode cX10_take 9 = .ok (.iload_n 2, 1) := by decide +kernel
theorem dX10_take_10 : decode cX10_take 10 = .ok (.invokevirtual 185, 3) := by decide +kernel
theorem dX10_take_13 : decode cX10_take 13 = .ok (.ifCond .eq 5, 3) := by decide +kernel
theorem dX10_take_16 : decode cX10_take 16 = .ok (.iconst (-1), 1) := by decide +kernel
theorem dX10_take_17 : decode cX10_take 17 = .ok (.ireturn, 1) := by decide +kernel
theorem dX10_take_18 : decode cX10_take 18 = .ok (.aload_n 0, 1) := by decide +kernel
theorem dX10_take_19 : decode cX10_take 19 = .ok (.getfield 37, 3) := by decide +kernel
theorem dX10_take_22 : decode cX10_take 22 = .ok (.iload_n 2, 1) := by decide +kernel
theorem dX10_take_23 : decode cX10_take 23 = .ok (.iaload, 1) := by decide +kernel
theorem dX10_take_24 : decode cX10_take 24 = .ok (.aload_n 0, 1) := by decide +kernel
theorem dX10_take_25 : decode cX10_take 25 = .ok (.getfield 31, 3) := by decide +kernel
theorem dX10_take_28 : decode cX10_take 28 = .ok (.iload_n 1, 1) := by decide +kernel
theorem dX10_take_29 : decode cX10_take 29 = .ok (.iaload, 1) := by decide +kernel
theorem dX10_take_30 : decode cX10_take 30 = .ok (.if_icmp .eq 6, 3) := by decide +kernel
theorem dX10_take_33 : decode cX10_take 33 = .ok (.bipush (-3), 2) := by decide +kernel
theorem dX10_take_35 : decode cX10_take 35 = .ok (.ireturn, 1) := by decide +kernel
theorem dX10_take_36 : decode cX10_take 36 = .ok (.aload_n 0, 1) := by decide +kernel
theorem dX10_take_37 : decode cX10_take 37 = .ok (.iload_n 1, 1) := by decide +kernel
theorem dX10_take_38 : decode cX10_take 38 = .ok (.invokevirtual 179, 3) := by decide +kernel
theorem dX10_take_41 : decode cX10_take 41 = .ok (.invokestatic 188, 3) := by decide +kernel
theorem dX10_take_44 : decode cX10_take 44 = .ok (.iconst 2, 1) := by decide +kernel
theorem dX10_take_45 : decode cX10_take 45 = .ok (.if_icmp .ne 6, 3) := by decide +kernel
theorem dX10_take_48 : decode cX10_take 48 = .ok (.bipush (-4), 2) := by decide +kernel
theorem dX10_take_50 : decode cX10_take 50 = .ok (.ireturn, 1) := by decide +kernel
theorem dX10_take_51 : decode cX10_take 51 = .ok (.aload_n 0, 1) := by decide +kernel
theorem dX10_take_52 : decode cX10_take 52 = .ok (.getfield 37, 3) := by decide +kernel
theorem dX10_take_55 : decode cX10_take 55 = .ok (.iload_n 2, 1) := by decide +kernel
theorem dX10_take_56 : decode cX10_take 56 = .ok (.bipush 20, 2) := by decide +kernel
theorem dX10_take_58 : decode cX10_take 58 = .ok (.iload_n 1, 1) := by decide +kernel
theorem dX10_take_59 : decode cX10_take 59 = .ok (.iadd, 1) := by decide +kernel
theorem dX10_take_60 : decode cX10_take 60 = .ok (.iastore, 1) := by decide +kernel
theorem dX10_take_61 : decode cX10_take 61 = .ok (.aload_n 0, 1) := by decide +kernel
theorem dX10_take_62 : decode cX10_take 62 = .ok (.iload_n 1, 1) := by decide +kernel
theorem dX10_take_63 : decode cX10_take 63 = .ok (.invokevirtual 179, 3) := by decide +kernel
theorem dX10_take_66 : decode cX10_take 66 = .ok (.invokestatic 188, 3) := by decide +kernel
theorem dX10_take_69 : decode cX10_take 69 = .ok (.ireturn, 1) := by decide +kernel
theorem dX10_lay_0 : decode cX10_lay 0 = .ok (.aload_n 0, 1) := by decide +kernel
theorem dX10_lay_1 : decode cX10_lay 1 = .ok (.iload_n 1, 1) := by decide +kernel
theorem dX10_lay_2 : decode cX10_lay 2 = .ok (.invokevirtual 176, 3) := by decide +kernel
theorem dX10_lay_5 : decode cX10_lay 5 = .ok (.ifCond .ne 11, 3) := by decide +kernel
theorem dX10_lay_8 : decode cX10_lay 8 = .ok (.aload_n 0, 1) := by decide +kernel
theorem dX10_lay_9 : decode cX10_lay 9 = .ok (.iload_n 2, 1) := by decide +kernel
theorem dX10_lay_10 : decode cX10_lay 10 = .ok (.invokevirtual 185, 3) := by decide +kernel
theorem dX10_lay_13 : decode cX10_lay 13 = .ok (.ifCond .eq 5, 3) := by decide +kernel
theorem dX10_lay_16 : decode cX10_lay 16 = .ok (.iconst (-1), 1) := by decide +kernel
theorem dX10_lay_17 : decode cX10_lay 17 = .ok (.ireturn, 1) := by decide +kernel
theorem dX10_lay_18 : decode cX10_lay 18 = .ok (.aload_n 0, 1) := by decide +kernel
theorem dX10_lay_19 : decode cX10_lay 19 = .ok (.getfield 37, 3) := by decide +kernel
theorem dX10_lay_22 : decode cX10_lay 22 = .ok (.iload_n 2, 1) := by decide +kernel
theorem dX10_lay_23 : decode cX10_lay 23 = .ok (.iaload, 1) := by decide +kernel
theorem dX10_lay_24 : decode cX10_lay 24 = .ok (.bipush 20, 2) := by decide +kernel
theorem dX10_lay_26 : decode cX10_lay 26 = .ok (.iload_n 1, 1) := by decide +kernel
theorem dX10_lay_27 : decode cX10_lay 27 = .ok (.iadd, 1) := by decide +kernel
theorem dX10_lay_28 : decode cX10_lay 28 = .ok (.if_icmp .eq 6, 3) := by decide +kernel
theorem dX10_lay_31 : decode cX10_lay 31 = .ok (.bipush (-3), 2) := by decide +kernel
theorem dX10_lay_33 : decode cX10_lay 33 = .ok (.ireturn, 1) := by decide +kernel
theorem dX10_lay_34 : decode cX10_lay 34 = .ok (.aload_n 0, 1) := by decide +kernel
theorem dX10_lay_35 : decode cX10_lay 35 = .ok (.getfield 37, 3) := by decide +kernel
theorem dX10_lay_38 : decode cX10_lay 38 = .ok (.iload_n 2, 1) := by decide +kernel
theorem dX10_lay_39 : decode cX10_lay 39 = .ok (.aload_n 0, 1) := by decide +kernel
theorem dX10_lay_40 : decode cX10_lay 40 = .ok (.getfield 31, 3) := by decide +kernel
theorem dX10_lay_43 : decode cX10_lay 43 = .ok (.iload_n 1, 1) := by decide +kernel
theorem dX10_lay_44 : decode cX10_lay 44 = .ok (.iaload, 1) := by decide +kernel
theorem dX10_lay_45 : decode cX10_lay 45 = .ok (.iastore, 1) := by decide +kernel
theorem dX10_lay_46 : decode cX10_lay 46 = .ok (.aload_n 0, 1) := by decide +kernel
theorem dX10_lay_47 : decode cX10_lay 47 = .ok (.iload_n 1, 1) := by decide +kernel
theorem dX10_lay_48 : decode cX10_lay 48 = .ok (.invokevirtual 179, 3) := by decide +kernel
theorem dX10_lay_51 : decode cX10_lay 51 = .ok (.invokestatic 188, 3) := by decide +kernel
theorem dX10_lay_54 : decode cX10_lay 54 = .ok (.ireturn, 1) := by decide +kernel
theorem dX10_roomOf_0 : decode cX10_roomOf 0 = .ok (.bipush (-9), 2) := by decide +kernel
theorem dX10_roomOf_2 : decode cX10_roomOf 2 = .ok (.istore_n 2, 1) := by decide +kernel
theorem dX10_roomOf_3 : decode cX10_roomOf 3 = .ok (.iconst 1, 1) := by decide +kernel
theorem dX10_roomOf_4 : decode cX10_roomOf 4 = .ok (.istore_n 3, 1) := by decide +kernel
theorem dX10_roomOf_5 : decode cX10_roomOf 5 = .ok (.iconst 0, 1) := by decide +kernel
theorem dX10_roomOf_6 : decode cX10_roomOf 6 = .ok (.istore 4, 2) := by decide +kernel
theorem dX10_roomOf_8 : decode cX10_roomOf 8 = .ok (.iload 4, 2) := by decide +kernel
theorem dX10_roomOf_10 : decode cX10_roomOf 10 = .ok (.aload_n 0, 1) := by decide +kernel
theorem dX10_roomOf_11 : decode cX10_roomOf 11 = .ok (.getfield 145, 3) := by decide +kernel
theorem dX10_roomOf_14 : decode cX10_roomOf 14 = .ok (.if_icmp .ge 52, 3) := by decide +kernel
theorem dX10_roomOf_17 : decode cX10_roomOf 17 = .ok (.iload_n 1, 1) := by decide +kernel
theorem dX10_roomOf_18 : decode cX10_roomOf 18 = .ok (.iload 4, 2) := by decide +kernel
theorem dX10_roomOf_20 : decode cX10_roomOf 20 = .ok (.ishr, 1) := by decide +kernel
theorem dX10_roomOf_21 : decode cX10_roomOf 21 = .ok (.iconst 1, 1) := by decide +kernel
theorem dX10_roomOf_22 : decode cX10_roomOf 22 = .ok (.iand, 1) := by decide +kernel
theorem dX10_roomOf_23 : decode cX10_roomOf 23 = .ok (.iconst 1, 1) := by decide +kernel
theorem dX10_roomOf_24 : decode cX10_roomOf 24 = .ok (.if_icmp .ne 36, 3) := by decide +kernel
theorem dX10_roomOf_27 : decode cX10_roomOf 27 = .ok (.iload_n 3, 1) := by decide +kernel
theorem dX10_roomOf_28 : decode cX10_roomOf 28 = .ok (.ifCond .eq 22, 3) := by decide +kernel
theorem dX10_roomOf_31 : decode cX10_roomOf 31 = .ok (.iload_n 2, 1) := by decide +kernel
theorem dX10_roomOf_32 : decode cX10_roomOf 32 = .ok (.ifCond .lt 14, 3) := by decide +kernel
theorem dX10_roomOf_35 : decode cX10_roomOf 35 = .ok (.iload_n 2, 1) := by decide +kernel
theorem dX10_roomOf_36 : decode cX10_roomOf 36 = .ok (.aload_n 0, 1) := by decide +kernel
theorem dX10_roomOf_37 : decode cX10_roomOf 37 = .ok (.getfield 31, 3) := by decide +kernel
theorem dX10_roomOf_40 : decode cX10_roomOf 40 = .ok (.iload 4, 2) := by decide +kernel
theorem dX10_roomOf_42 : decode cX10_roomOf 42 = .ok (.iaload, 1) := by decide +kernel
theorem dX10_roomOf_43 : decode cX10_roomOf 43 = .ok (.if_icmp .ne 7, 3) := by decide +kernel
theorem dX10_roomOf_46 : decode cX10_roomOf 46 = .ok (.iconst 1, 1) := by decide +kernel
theorem dX10_roomOf_47 : decode cX10_roomOf 47 = .ok (.goto 4, 3) := by decide +kernel
theorem dX10_roomOf_50 : decode cX10_roomOf 50 = .ok (.iconst 0, 1) := by decide +kernel
theorem dX10_roomOf_51 : decode cX10_roomOf 51 = .ok (.istore_n 3, 1) := by decide +kernel
theorem dX10_roomOf_52 : decode cX10_roomOf 52 = .ok (.aload_n 0, 1) := by decide +kernel
theorem dX10_roomOf_53 : decode cX10_roomOf 53 = .ok (.getfield 31, 3) := by decide +kernel
theorem dX10_roomOf_56 : decode cX10_roomOf 56 = .ok (.iload 4, 2) := by decide +kernel
theorem dX10_roomOf_58 : decode cX10_roomOf 58 = .ok (.iaload, 1) := by decide +kernel
theorem dX10_roomOf_59 : decode cX10_roomOf 59 = .ok (.istore_n 2, 1) := by decide +kernel
theorem dX10_roomOf_60 : decode cX10_roomOf 60 = .ok (.iinc 4 1, 3) := by decide +kernel
theorem dX10_roomOf_63 : decode cX10_roomOf 63 = .ok (.goto (-55), 3) := by decide +kernel
theorem dX10_roomOf_66 : decode cX10_roomOf 66 = .ok (.iload_n 3, 1) := by decide +kernel
theorem dX10_roomOf_67 : decode cX10_roomOf 67 = .ok (.ifCond .eq 7, 3) := by decide +kernel
theorem dX10_roomOf_70 : decode cX10_roomOf 70 = .ok (.iload_n 2, 1) := by decide +kernel
theorem dX10_roomOf_71 : decode cX10_roomOf 71 = .ok (.goto 5, 3) := by decide +kernel
theorem dX10_roomOf_74 : decode cX10_roomOf 74 = .ok (.bipush (-9), 2) := by decide +kernel
theorem dX10_roomOf_76 : decode cX10_roomOf 76 = .ok (.ireturn, 1) := by decide +kernel
theorem dX10_weightOfAll_0 : decode cX10_weightOfAll 0 = .ok (.iconst 0, 1) := by decide +kernel
theorem dX10_weightOfAll_1 : decode cX10_weightOfAll 1 = .ok (.istore_n 2, 1) := by decide +kernel
theorem dX10_weightOfAll_2 : decode cX10_weightOfAll 2 = .ok (.iconst 0, 1) := by decide +kernel
theorem dX10_weightOfAll_3 : decode cX10_weightOfAll 3 = .ok (.istore_n 3, 1) := by decide +kernel
theorem dX10_weightOfAll_4 : decode cX10_weightOfAll 4 = .ok (.iload_n 3, 1) := by decide +kernel
theorem dX10_weightOfAll_5 : decode cX10_weightOfAll 5 = .ok (.aload_n 0, 1) := by decide +kernel
theorem dX10_weightOfAll_6 : decode cX10_weightOfAll 6 = .ok (.getfield 145, 3) := by decide +kernel
theorem dX10_weightOfAll_9 : decode cX10_weightOfAll 9 = .ok (.if_icmp .ge 30, 3) := by decide +kernel
theorem dX10_weightOfAll_12 : decode cX10_weightOfAll 12 = .ok (.iload_n 2, 1) := by decide +kernel
theorem dX10_weightOfAll_13 : decode cX10_weightOfAll 13 = .ok (.iload_n 1, 1) := by decide +kernel
theorem dX10_weightOfAll_14 : decode cX10_weightOfAll 14 = .ok (.iload_n 3, 1) := by decide +kernel
theorem dX10_weightOfAll_15 : decode cX10_weightOfAll 15 = .ok (.ishr, 1) := by decide +kernel
theorem dX10_weightOfAll_16 : decode cX10_weightOfAll 16 = .ok (.iconst 1, 1) := by decide +kernel
theorem dX10_weightOfAll_17 : decode cX10_weightOfAll 17 = .ok (.iand, 1) := by decide +kernel
theorem dX10_weightOfAll_18 : decode cX10_weightOfAll 18 = .ok (.iconst 1, 1) := by decide +kernel
theorem dX10_weightOfAll_19 : decode cX10_weightOfAll 19 = .ok (.if_icmp .ne 11, 3) := by decide +kernel
theorem dX10_weightOfAll_22 : decode cX10_weightOfAll 22 = .ok (.aload_n 0, 1) := by decide +kernel
theorem dX10_weightOfAll_23 : decode cX10_weightOfAll 23 = .ok (.iload_n 3, 1) := by decide +kernel
theorem dX10_weightOfAll_24 : decode cX10_weightOfAll 24 = .ok (.invokevirtual 182, 3) := by decide +kernel
theorem dX10_weightOfAll_27 : decode cX10_weightOfAll 27 = .ok (.goto 4, 3) := by decide +kernel
theorem dX10_weightOfAll_30 : decode cX10_weightOfAll 30 = .ok (.iconst 0, 1) := by decide +kernel
theorem dX10_weightOfAll_31 : decode cX10_weightOfAll 31 = .ok (.iadd, 1) := by decide +kernel
theorem dX10_weightOfAll_32 : decode cX10_weightOfAll 32 = .ok (.istore_n 2, 1) := by decide +kernel
theorem dX10_weightOfAll_33 : decode cX10_weightOfAll 33 = .ok (.iinc 3 1, 3) := by decide +kernel
theorem dX10_weightOfAll_36 : decode cX10_weightOfAll 36 = .ok (.goto (-32), 3) := by decide +kernel
theorem dX10_weightOfAll_39 : decode cX10_weightOfAll 39 = .ok (.iload_n 2, 1) := by decide +kernel
theorem dX10_weightOfAll_40 : decode cX10_weightOfAll 40 = .ok (.ireturn, 1) := by decide +kernel
theorem dX10_partyBarred_0 : decode cX10_partyBarred 0 = .ok (.iload_n 1, 1) := by decide +kernel
theorem dX10_partyBarred_1 : decode cX10_partyBarred 1 = .ok (.iconst 1, 1) := by decide +kernel
theorem dX10_partyBarred_2 : decode cX10_partyBarred 2 = .ok (.if_icmp .lt 12, 3) := by decide +kernel
theorem dX10_partyBarred_5 : decode cX10_partyBarred 5 = .ok (.iload_n 1, 1) := by decide +kernel
theorem dX10_partyBarred_6 : decode cX10_partyBarred 6 = .ok (.aload_n 0, 1) := by decide +kernel
theorem dX10_partyBarred_7 : decode cX10_partyBarred 7 = .ok (.getfield 145, 3) := by decide +kernel
theorem dX10_partyBarred_10 : decode cX10_partyBarred 10 = .ok (.ishr, 1) := by decide +kernel
theorem dX10_partyBarred_11 : decode cX10_partyBarred 11 = .ok (.ifCond .eq 6, 3) := by decide +kernel
theorem dX10_partyBarred_14 : decode cX10_partyBarred 14 = .ok (.bipush (-2), 2) := by decide +kernel
theorem dX10_partyBarred_16 : decode cX10_partyBarred 16 = .ok (.ireturn, 1) := by decide +kernel
theorem dX10_partyBarred_17 : decode cX10_partyBarred 17 = .ok (.aload_n 0, 1) := by decide +kernel
theorem dX10_partyBarred_18 : decode cX10_partyBarred 18 = .ok (.iload_n 2, 1) := by decide +kernel
theorem dX10_partyBarred_19 : decode cX10_partyBarred 19 = .ok (.invokevirtual 164, 3) := by decide +kernel
theorem dX10_partyBarred_22 : decode cX10_partyBarred 22 = .ok (.ifCond .eq 5, 3) := by decide +kernel
theorem dX10_partyBarred_25 : decode cX10_partyBarred 25 = .ok (.iconst (-1), 1) := by decide +kernel
theorem dX10_partyBarred_26 : decode cX10_partyBarred 26 = .ok (.ireturn, 1) := by decide +kernel
theorem dX10_partyBarred_27 : decode cX10_partyBarred 27 = .ok (.aload_n 0, 1) := by decide +kernel
theorem dX10_partyBarred_28 : decode cX10_partyBarred 28 = .ok (.iload_n 1, 1) := by decide +kernel
theorem dX10_partyBarred_29 : decode cX10_partyBarred 29 = .ok (.invokevirtual 191, 3) := by decide +kernel
theorem dX10_partyBarred_32 : decode cX10_partyBarred 32 = .ok (.istore_n 3, 1) := by decide +kernel
theorem dX10_partyBarred_33 : decode cX10_partyBarred 33 = .ok (.iload_n 3, 1) := by decide +kernel
theorem dX10_partyBarred_34 : decode cX10_partyBarred 34 = .ok (.ifCond .lt 12, 3) := by decide +kernel
theorem dX10_partyBarred_37 : decode cX10_partyBarred 37 = .ok (.aload_n 0, 1) := by decide +kernel
theorem dX10_partyBarred_38 : decode cX10_partyBarred 38 = .ok (.iload_n 2, 1) := by decide +kernel
theorem dX10_partyBarred_39 : decode cX10_partyBarred 39 = .ok (.iload_n 3, 1) := by decide +kernel
theorem dX10_partyBarred_40 : decode cX10_partyBarred 40 = .ok (.invokevirtual 157, 3) := by decide +kernel
theorem dX10_partyBarred_43 : decode cX10_partyBarred 43 = .ok (.ifCond .ge 8, 3) := by decide +kernel
theorem dX10_partyBarred_46 : decode cX10_partyBarred 46 = .ok (.bipush (-3), 2) := by decide +kernel
theorem dX10_partyBarred_48 : decode cX10_partyBarred 48 = .ok (.goto 4, 3) := by decide +kernel
theorem dX10_partyBarred_51 : decode cX10_partyBarred 51 = .ok (.iconst 0, 1) := by decide +kernel
theorem dX10_partyBarred_52 : decode cX10_partyBarred 52 = .ok (.ireturn, 1) := by decide +kernel
theorem dX10_opens_0 : decode cX10_opens 0 = .ok (.aload_n 0, 1) := by decide +kernel
theorem dX10_opens_1 : decode cX10_opens 1 = .ok (.iload_n 1, 1) := by decide +kernel
theorem dX10_opens_2 : decode cX10_opens 2 = .ok (.iload_n 2, 1) := by decide +kernel
theorem dX10_opens_3 : decode cX10_opens 3 = .ok (.invokevirtual 194, 3) := by decide +kernel
theorem dX10_opens_6 : decode cX10_opens 6 = .ok (.istore_n 3, 1) := by decide +kernel
theorem dX10_opens_7 : decode cX10_opens 7 = .ok (.iload_n 3, 1) := by decide +kernel
theorem dX10_opens_8 : decode cX10_opens 8 = .ok (.ifCond .ge 5, 3) := by decide +kernel
theorem dX10_opens_11 : decode cX10_opens 11 = .ok (.iload_n 3, 1) := by decide +kernel
theorem dX10_opens_12 : decode cX10_opens 12 = .ok (.ireturn, 1) := by decide +kernel
theorem dX10_opens_13 : decode cX10_opens 13 = .ok (.aload_n 0, 1) := by decide +kernel
theorem dX10_opens_14 : decode cX10_opens 14 = .ok (.iload_n 2, 1) := by decide +kernel
theorem dX10_opens_15 : decode cX10_opens 15 = .ok (.aload_n 0, 1) := by decide +kernel
theorem dX10_opens_16 : decode cX10_opens 16 = .ok (.iload_n 1, 1) := by decide +kernel
theorem dX10_opens_17 : decode cX10_opens 17 = .ok (.invokevirtual 191, 3) := by decide +kernel
theorem dX10_opens_20 : decode cX10_opens 20 = .ok (.aload_n 0, 1) := by decide +kernel
theorem dX10_opens_21 : decode cX10_opens 21 = .ok (.iload_n 1, 1) := by decide +kernel
theorem dX10_opens_22 : decode cX10_opens 22 = .ok (.invokevirtual 197, 3) := by decide +kernel
theorem dX10_opens_25 : decode cX10_opens 25 = .ok (.invokevirtual 200, 3) := by decide +kernel
theorem dX10_opens_28 : decode cX10_opens 28 = .ok (.ifCond .ge 7, 3) := by decide +kernel
theorem dX10_opens_31 : decode cX10_opens 31 = .ok (.iconst 0, 1) := by decide +kernel
theorem dX10_opens_32 : decode cX10_opens 32 = .ok (.goto 4, 3) := by decide +kernel
theorem dX10_opens_35 : decode cX10_opens 35 = .ok (.iconst 1, 1) := by decide +kernel
theorem dX10_opens_36 : decode cX10_opens 36 = .ok (.ireturn, 1) := by decide +kernel
theorem dX10_pass_0 : decode cX10_pass 0 = .ok (.aload_n 0, 1) := by decide +kernel
theorem dX10_pass_1 : decode cX10_pass 1 = .ok (.iload_n 1, 1) := by decide +kernel
theorem dX10_pass_2 : decode cX10_pass 2 = .ok (.iload_n 2, 1) := by decide +kernel
theorem dX10_pass_3 : decode cX10_pass 3 = .ok (.invokevirtual 194, 3) := by decide +kernel
theorem dX10_pass_6 : decode cX10_pass 6 = .ok (.istore_n 3, 1) := by decide +kernel
theorem dX10_pass_7 : decode cX10_pass 7 = .ok (.iload_n 3, 1) := by decide +kernel
theorem dX10_pass_8 : decode cX10_pass 8 = .ok (.ifCond .ge 5, 3) := by decide +kernel
theorem dX10_pass_11 : decode cX10_pass 11 = .ok (.iload_n 3, 1) := by decide +kernel
theorem dX10_pass_12 : decode cX10_pass 12 = .ok (.ireturn, 1) := by decide +kernel
theorem dX10_pass_13 : decode cX10_pass 13 = .ok (.aload_n 0, 1) := by decide +kernel
theorem dX10_pass_14 : decode cX10_pass 14 = .ok (.iload_n 2, 1) := by decide +kernel
theorem dX10_pass_15 : decode cX10_pass 15 = .ok (.aload_n 0, 1) := by decide +kernel
theorem dX10_pass_16 : decode cX10_pass 16 = .ok (.iload_n 1, 1) := by decide +kernel
theorem dX10_pass_17 : decode cX10_pass 17 = .ok (.invokevirtual 191, 3) := by decide +kernel
theorem dX10_pass_20 : decode cX10_pass 20 = .ok (.aload_n 0, 1) := by decide +kernel
theorem dX10_pass_21 : decode cX10_pass 21 = .ok (.iload_n 1, 1) := by decide +kernel
theorem dX10_pass_22 : decode cX10_pass 22 = .ok (.invokevirtual 197, 3) := by decide +kernel
theorem dX10_pass_25 : decode cX10_pass 25 = .ok (.invokevirtual 200, 3) := by decide +kernel
theorem dX10_pass_28 : decode cX10_pass 28 = .ok (.istore 4, 2) := by decide +kernel
theorem dX10_pass_30 : decode cX10_pass 30 = .ok (.iload 4, 2) := by decide +kernel
theorem dX10_pass_32 : decode cX10_pass 32 = .ok (.ifCond .ge 6, 3) := by decide +kernel
theorem dX10_pass_35 : decode cX10_pass 35 = .ok (.bipush (-3), 2) := by decide +kernel
theorem dX10_pass_37 : decode cX10_pass 37 = .ok (.ireturn, 1) := by decide +kernel
theorem dX10_pass_38 : decode cX10_pass 38 = .ok (.iconst 0, 1) := by decide +kernel
theorem dX10_pass_39 : decode cX10_pass 39 = .ok (.istore 5, 2) := by decide +kernel
theorem dX10_pass_41 : decode cX10_pass 41 = .ok (.iload 5, 2) := by decide +kernel
theorem dX10_pass_43 : decode cX10_pass 43 = .ok (.aload_n 0, 1) := by decide +kernel
theorem dX10_pass_44 : decode cX10_pass 44 = .ok (.getfield 145, 3) := by decide +kernel
theorem dX10_pass_47 : decode cX10_pass 47 = .ok (.if_icmp .ge 38, 3) := by decide +kernel
theorem dX10_pass_50 : decode cX10_pass 50 = .ok (.aload_n 0, 1) := by decide +kernel
theorem dX10_pass_51 : decode cX10_pass 51 = .ok (.getfield 31, 3) := by decide +kernel
theorem dX10_pass_54 : decode cX10_pass 54 = .ok (.iload 5, 2) := by decide +kernel
theorem dX10_pass_56 : decode cX10_pass 56 = .ok (.iload_n 1, 1) := by decide +kernel
theorem dX10_pass_57 : decode cX10_pass 57 = .ok (.iload 5, 2) := by decide +kernel
theorem dX10_pass_59 : decode cX10_pass 59 = .ok (.ishr, 1) := by decide +kernel
theorem dX10_pass_60 : decode cX10_pass 60 = .ok (.iconst 1, 1) := by decide +kernel
theorem dX10_pass_61 : decode cX10_pass 61 = .ok (.iand, 1) := by decide +kernel
theorem dX10_pass_62 : decode cX10_pass 62 = .ok (.iconst 1, 1) := by decide +kernel
theorem dX10_pass_63 : decode cX10_pass 63 = .ok (.if_icmp .ne 8, 3) := by decide +kernel
theorem dX10_pass_66 : decode cX10_pass 66 = .ok (.iload 4, 2) := by decide +kernel
theorem dX10_pass_68 : decode cX10_pass 68 = .ok (.goto 10, 3) := by decide +kernel
theorem dX10_pass_71 : decode cX10_pass 71 = .ok (.aload_n 0, 1) := by decide +kernel
theorem dX10_pass_72 : decode cX10_pass 72 = .ok (.getfield 31, 3) := by decide +kernel
theorem dX10_pass_75 : decode cX10_pass 75 = .ok (.iload 5, 2) := by decide +kernel
theorem dX10_pass_77 : decode cX10_pass 77 = .ok (.iaload, 1) := by decide +kernel
theorem dX10_pass_78 : decode cX10_pass 78 = .ok (.iastore, 1) := by decide +kernel
theorem dX10_pass_79 : decode cX10_pass 79 = .ok (.iinc 5 1, 3) := by decide +kernel
theorem dX10_pass_82 : decode cX10_pass 82 = .ok (.goto (-41), 3) := by decide +kernel
theorem dX10_pass_85 : decode cX10_pass 85 = .ok (.iload 4, 2) := by decide +kernel
theorem dX10_pass_87 : decode cX10_pass 87 = .ok (.ireturn, 1) := by decide +kernel
theorem dX10_weigh_0 : decode cX10_weigh 0 = .ok (.aload_n 0, 1) := by decide +kernel
theorem dX10_weigh_1 : decode cX10_weigh 1 = .ok (.iload_n 1, 1) := by decide +kernel
theorem dX10_weigh_2 : decode cX10_weigh 2 = .ok (.invokevirtual 176, 3) := by decide +kernel
theorem dX10_weigh_5 : decode cX10_weigh 5 = .ok (.ifCond .eq 5, 3) := by decide +kernel
theorem dX10_weigh_8 : decode cX10_weigh 8 = .ok (.iconst (-1), 1) := by decide +kernel
theorem dX10_weigh_9 : decode cX10_weigh 9 = .ok (.ireturn, 1) := by decide +kernel
theorem dX10_weigh_10 : decode cX10_weigh 10 = .ok (.iload_n 2, 1) := by decide +kernel
theorem dX10_weigh_11 : decode cX10_weigh 11 = .ok (.i2l, 1) := by decide +kernel
theorem dX10_weigh_12 : decode cX10_weigh 12 = .ok (.ldc2_w 170, 3) := by decide +kernel
theorem dX10_weigh_15 : decode cX10_weigh 15 = .ok (.ldc2_w 172, 3) := by decide +kernel
theorem dX10_weigh_18 : decode cX10_weigh 18 = .ok (.invokestatic 97, 3) := by decide +kernel
theorem dX10_weigh_21 : decode cX10_weigh 21 = .ok (.ifCond .ne 6, 3) := by decide +kernel
theorem dX10_weigh_24 : decode cX10_weigh 24 = .ok (.bipush (-2), 2) := by decide +kernel
theorem dX10_weigh_26 : decode cX10_weigh 26 = .ok (.ireturn, 1) := by decide +kernel
theorem dX10_weigh_27 : decode cX10_weigh 27 = .ok (.aload_n 0, 1) := by decide +kernel
theorem dX10_weigh_28 : decode cX10_weigh 28 = .ok (.getfield 28, 3) := by decide +kernel
theorem dX10_weigh_31 : decode cX10_weigh 31 = .ok (.iload_n 1, 1) := by decide +kernel
theorem dX10_weigh_32 : decode cX10_weigh 32 = .ok (.iaload, 1) := by decide +kernel
theorem dX10_weigh_33 : decode cX10_weigh 33 = .ok (.istore_n 3, 1) := by decide +kernel
theorem dX10_weigh_34 : decode cX10_weigh 34 = .ok (.aload_n 0, 1) := by decide +kernel
theorem dX10_weigh_35 : decode cX10_weigh 35 = .ok (.getfield 28, 3) := by decide +kernel
theorem dX10_weigh_38 : decode cX10_weigh 38 = .ok (.iload_n 1, 1) := by decide +kernel
theorem dX10_weigh_39 : decode cX10_weigh 39 = .ok (.iload_n 2, 1) := by decide +kernel
theorem dX10_weigh_40 : decode cX10_weigh 40 = .ok (.iastore, 1) := by decide +kernel
theorem dX10_weigh_41 : decode cX10_weigh 41 = .ok (.iload_n 3, 1) := by decide +kernel
theorem dX10_weigh_42 : decode cX10_weigh 42 = .ok (.ireturn, 1) := by decide +kernel
theorem dX10_stateNow_0 : decode cX10_stateNow 0 = .ok (.iconst 0, 1) := by decide +kernel
theorem dX10_stateNow_1 : decode cX10_stateNow 1 = .ok (.istore_n 1, 1) := by decide +kernel
theorem dX10_stateNow_2 : decode cX10_stateNow 2 = .ok (.iconst 3, 1) := by decide +kernel
theorem dX10_stateNow_3 : decode cX10_stateNow 3 = .ok (.istore_n 2, 1) := by decide +kernel
theorem dX10_stateNow_4 : decode cX10_stateNow 4 = .ok (.iload_n 2, 1) := by decide +kernel
theorem dX10_stateNow_5 : decode cX10_stateNow 5 = .ok (.ifCond .lt 42, 3) := by decide +kernel
theorem dX10_stateNow_8 : decode cX10_stateNow 8 = .ok (.iload_n 1, 1) := by decide +kernel
theorem dX10_stateNow_9 : decode cX10_stateNow 9 = .ok (.bipush 7, 2) := by decide +kernel
theorem dX10_stateNow_11 : decode cX10_stateNow 11 = .ok (.imul, 1) := by decide +kernel
theorem dX10_stateNow_12 : decode cX10_stateNow 12 = .ok (.iload_n 2, 1) := by decide +kernel
theorem dX10_stateNow_13 : decode cX10_stateNow 13 = .ok (.aload_n 0, 1) := by decide +kernel
theorem dX10_stateNow_14 : decode cX10_stateNow 14 = .ok (.getfield 204, 3) := by decide +kernel
theorem dX10_stateNow_17 : decode cX10_stateNow 17 = .ok (.if_icmp .ge 21, 3) := by decide +kernel
theorem dX10_stateNow_20 : decode cX10_stateNow 20 = .ok (.aload_n 0, 1) := by decide +kernel
theorem dX10_stateNow_21 : decode cX10_stateNow 21 = .ok (.getfield 46, 3) := by decide +kernel
theorem dX10_stateNow_24 : decode cX10_stateNow 24 = .ok (.iload_n 2, 1) := by decide +kernel
theorem dX10_stateNow_25 : decode cX10_stateNow 25 = .ok (.baload, 1) := by decide +kernel
theorem dX10_stateNow_26 : decode cX10_stateNow 26 = .ok (.ifCond .eq 12, 3) := by decide +kernel
theorem dX10_stateNow_29 : decode cX10_stateNow 29 = .ok (.aload_n 0, 1) := by decide +kernel
theorem dX10_stateNow_30 : decode cX10_stateNow 30 = .ok (.getfield 40, 3) := by decide +kernel
theorem dX10_stateNow_33 : decode cX10_stateNow 33 = .ok (.iload_n 2, 1) := by decide +kernel
theorem dX10_stateNow_34 : decode cX10_stateNow 34 = .ok (.iaload, 1) := by decide +kernel
theorem dX10_stateNow_35 : decode cX10_stateNow 35 = .ok (.goto 4, 3) := by decide +kernel
theorem dX10_stateNow_38 : decode cX10_stateNow 38 = .ok (.iconst 0, 1) := by decide +kernel
theorem dX10_stateNow_39 : decode cX10_stateNow 39 = .ok (.iadd, 1) := by decide +kernel
theorem dX10_stateNow_40 : decode cX10_stateNow 40 = .ok (.istore_n 1, 1) := by decide +kernel
theorem dX10_stateNow_41 : decode cX10_stateNow 41 = .ok (.iinc 2 (-1), 3) := by decide +kernel
theorem dX10_stateNow_44 : decode cX10_stateNow 44 = .ok (.goto (-40), 3) := by decide +kernel
theorem dX10_stateNow_47 : decode cX10_stateNow 47 = .ok (.iload_n 1, 1) := by decide +kernel
theorem dX10_stateNow_48 : decode cX10_stateNow 48 = .ok (.bipush 6, 2) := by decide +kernel
theorem dX10_stateNow_50 : decode cX10_stateNow 50 = .ok (.imul, 1) := by decide +kernel
theorem dX10_stateNow_51 : decode cX10_stateNow 51 = .ok (.aload_n 0, 1) := by decide +kernel
theorem dX10_stateNow_52 : decode cX10_stateNow 52 = .ok (.getfield 207, 3) := by decide +kernel
theorem dX10_stateNow_55 : decode cX10_stateNow 55 = .ok (.iadd, 1) := by decide +kernel
theorem dX10_stateNow_56 : decode cX10_stateNow 56 = .ok (.ireturn, 1) := by decide +kernel
theorem dX10_takeState_0 : decode cX10_takeState 0 = .ok (.aload_n 0, 1) := by decide +kernel
theorem dX10_takeState_1 : decode cX10_takeState 1 = .ok (.iload_n 1, 1) := by decide +kernel
theorem dX10_takeState_2 : decode cX10_takeState 2 = .ok (.bipush 6, 2) := by decide +kernel
theorem dX10_takeState_4 : decode cX10_takeState 4 = .ok (.irem, 1) := by decide +kernel
theorem dX10_takeState_5 : decode cX10_takeState 5 = .ok (.putfield 207, 3) := by decide +kernel
theorem dX10_takeState_8 : decode cX10_takeState 8 = .ok (.iload_n 1, 1) := by decide +kernel
theorem dX10_takeState_9 : decode cX10_takeState 9 = .ok (.bipush 6, 2) := by decide +kernel
theorem dX10_takeState_11 : decode cX10_takeState 11 = .ok (.idiv, 1) := by decide +kernel
theorem dX10_takeState_12 : decode cX10_takeState 12 = .ok (.istore_n 2, 1) := by decide +kernel
theorem dX10_takeState_13 : decode cX10_takeState 13 = .ok (.iconst 0, 1) := by decide +kernel
theorem dX10_takeState_14 : decode cX10_takeState 14 = .ok (.istore_n 3, 1) := by decide +kernel
theorem dX10_takeState_15 : decode cX10_takeState 15 = .ok (.iload_n 3, 1) := by decide +kernel
theorem dX10_takeState_16 : decode cX10_takeState 16 = .ok (.iconst 4, 1) := by decide +kernel
theorem dX10_takeState_17 : decode cX10_takeState 17 = .ok (.if_icmp .ge 41, 3) := by decide +kernel
theorem dX10_takeState_20 : decode cX10_takeState 20 = .ok (.iload_n 3, 1) := by decide +kernel
theorem dX10_takeState_21 : decode cX10_takeState 21 = .ok (.aload_n 0, 1) := by decide +kernel
theorem dX10_takeState_22 : decode cX10_takeState 22 = .ok (.getfield 204, 3) := by decide +kernel
theorem dX10_takeState_25 : decode cX10_takeState 25 = .ok (.if_icmp .ge 22, 3) := by decide +kernel
theorem dX10_takeState_28 : decode cX10_takeState 28 = .ok (.aload_n 0, 1) := by decide +kernel
theorem dX10_takeState_29 : decode cX10_takeState 29 = .ok (.getfield 46, 3) := by decide +kernel
theorem dX10_takeState_32 : decode cX10_takeState 32 = .ok (.iload_n 3, 1) := by decide +kernel
theorem dX10_takeState_33 : decode cX10_takeState 33 = .ok (.baload, 1) := by decide +kernel
theorem dX10_takeState_34 : decode cX10_takeState 34 = .ok (.ifCond .eq 13, 3) := by decide +kernel
theorem dX10_takeState_37 : decode cX10_takeState 37 = .ok (.aload_n 0, 1) := by decide +kernel
theorem dX10_takeState_38 : decode cX10_takeState 38 = .ok (.getfield 40, 3) := by decide +kernel
theorem dX10_takeState_41 : decode cX10_takeState 41 = .ok (.iload_n 3, 1) := by decide +kernel
theorem dX10_takeState_42 : decode cX10_takeState 42 = .ok (.iload_n 2, 1) := by decide +kernel
theorem dX10_takeState_43 : decode cX10_takeState 43 = .ok (.bipush 7, 2) := by decide +kernel
theorem dX10_takeState_45 : decode cX10_takeState 45 = .ok (.irem, 1) := by decide +kernel
theorem dX10_takeState_46 : decode cX10_takeState 46 = .ok (.iastore, 1) := by decide +kernel
theorem dX10_takeState_47 : decode cX10_takeState 47 = .ok (.iload_n 2, 1) := by decide +kernel
theorem dX10_takeState_48 : decode cX10_takeState 48 = .ok (.bipush 7, 2) := by decide +kernel
theorem dX10_takeState_50 : decode cX10_takeState 50 = .ok (.idiv, 1) := by decide +kernel
theorem dX10_takeState_51 : decode cX10_takeState 51 = .ok (.istore_n 2, 1) := by decide +kernel
theorem dX10_takeState_52 : decode cX10_takeState 52 = .ok (.iinc 3 1, 3) := by decide +kernel
theorem dX10_takeState_55 : decode cX10_takeState 55 = .ok (.goto (-40), 3) := by decide +kernel
theorem dX10_takeState_58 : decode cX10_takeState 58 = .ok (.return_, 1) := by decide +kernel
theorem dX10_add_0 : decode cX10_add 0 = .ok (.aload_n 0, 1) := by decide +kernel
theorem dX10_add_1 : decode cX10_add 1 = .ok (.invokevirtual 210, 3) := by decide +kernel
theorem dX10_add_4 : decode cX10_add 4 = .ok (.istore_n 3, 1) := by decide +kernel
theorem dX10_add_5 : decode cX10_add 5 = .ok (.aload_n 0, 1) := by decide +kernel
theorem dX10_add_6 : decode cX10_add 6 = .ok (.getfield 59, 3) := by decide +kernel
theorem dX10_add_9 : decode cX10_add 9 = .ok (.iload_n 3, 1) := by decide +kernel
theorem dX10_add_10 : decode cX10_add 10 = .ok (.baload, 1) := by decide +kernel
theorem dX10_add_11 : decode cX10_add 11 = .ok (.ifCond .ne 50, 3) := by decide +kernel
theorem dX10_add_14 : decode cX10_add 14 = .ok (.aload_n 0, 1) := by decide +kernel
theorem dX10_add_15 : decode cX10_add 15 = .ok (.getfield 59, 3) := by decide +kernel
theorem dX10_add_18 : decode cX10_add 18 = .ok (.iload_n 3, 1) := by decide +kernel
theorem dX10_add_19 : decode cX10_add 19 = .ok (.iconst 1, 1) := by decide +kernel
theorem dX10_add_20 : decode cX10_add 20 = .ok (.bastore, 1) := by decide +kernel
theorem dX10_add_21 : decode cX10_add 21 = .ok (.aload_n 0, 1) := by decide +kernel
theorem dX10_add_22 : decode cX10_add 22 = .ok (.getfield 50, 3) := by decide +kernel
theorem dX10_add_25 : decode cX10_add 25 = .ok (.aload_n 0, 1) := by decide +kernel
theorem dX10_add_26 : decode cX10_add 26 = .ok (.getfield 214, 3) := by decide +kernel
theorem dX10_add_29 : decode cX10_add 29 = .ok (.iload_n 3, 1) := by decide +kernel
theorem dX10_add_30 : decode cX10_add 30 = .ok (.iastore, 1) := by decide +kernel
theorem dX10_add_31 : decode cX10_add 31 = .ok (.aload_n 0, 1) := by decide +kernel
theorem dX10_add_32 : decode cX10_add 32 = .ok (.getfield 53, 3) := by decide +kernel
theorem dX10_add_35 : decode cX10_add 35 = .ok (.aload_n 0, 1) := by decide +kernel
theorem dX10_add_36 : decode cX10_add 36 = .ok (.getfield 214, 3) := by decide +kernel
end
section
theorem dX10_add_39 : decode cX10_add 39 = .ok (.iload_n 1, 1) := by decide +kernel
theorem dX10_add_40 : decode cX10_add 40 = .ok (.iastore, 1) := by decide +kernel
theorem dX10_add_41 : decode cX10_add 41 = .ok (.aload_n 0, 1) := by decide +kernel
theorem dX10_add_42 : decode cX10_add 42 = .ok (.getfield 56, 3) := by decide +kernel
theorem dX10_add_45 : decode cX10_add 45 = .ok (.aload_n 0, 1) := by decide +kernel
theorem dX10_add_46 : decode cX10_add 46 = .ok (.getfield 214, 3) := by decide +kernel
theorem dX10_add_49 : decode cX10_add 49 = .ok (.iload_n 2, 1) := by decide +kernel
theorem dX10_add_50 : decode cX10_add 50 = .ok (.iastore, 1) := by decide +kernel
theorem dX10_add_51 : decode cX10_add 51 = .ok (.aload_n 0, 1) := by decide +kernel
theorem dX10_add_52 : decode cX10_add 52 = .ok (.dup, 1) := by decide +kernel
theorem dX10_add_53 : decode cX10_add 53 = .ok (.getfield 214, 3) := by decide +kernel
theorem dX10_add_56 : decode cX10_add 56 = .ok (.iconst 1, 1) := by decide +kernel
theorem dX10_add_57 : decode cX10_add 57 = .ok (.iadd, 1) := by decide +kernel
theorem dX10_add_58 : decode cX10_add 58 = .ok (.putfield 214, 3) := by decide +kernel
theorem dX10_add_61 : decode cX10_add 61 = .ok (.return_, 1) := by decide +kernel
theorem dX10_carriedNow_0 : decode cX10_carriedNow 0 = .ok (.iconst 0, 1) := by decide +kernel
theorem dX10_carriedNow_1 : decode cX10_carriedNow 1 = .ok (.istore_n 1, 1) := by decide +kernel
theorem dX10_carriedNow_2 : decode cX10_carriedNow 2 = .ok (.iconst 0, 1) := by decide +kernel
theorem dX10_carriedNow_3 : decode cX10_carriedNow 3 = .ok (.istore_n 2, 1) := by decide +kernel
theorem dX10_carriedNow_4 : decode cX10_carriedNow 4 = .ok (.iload_n 2, 1) := by decide +kernel
theorem dX10_carriedNow_5 : decode cX10_carriedNow 5 = .ok (.aload_n 0, 1) := by decide +kernel
theorem dX10_carriedNow_6 : decode cX10_carriedNow 6 = .ok (.getfield 204, 3) := by decide +kernel
theorem dX10_carriedNow_9 : decode cX10_carriedNow 9 = .ok (.if_icmp .ge 37, 3) := by decide +kernel
theorem dX10_carriedNow_12 : decode cX10_carriedNow 12 = .ok (.iload_n 1, 1) := by decide +kernel
theorem dX10_carriedNow_13 : decode cX10_carriedNow 13 = .ok (.aload_n 0, 1) := by decide +kernel
theorem dX10_carriedNow_14 : decode cX10_carriedNow 14 = .ok (.getfield 46, 3) := by decide +kernel
theorem dX10_carriedNow_17 : decode cX10_carriedNow 17 = .ok (.iload_n 2, 1) := by decide +kernel
theorem dX10_carriedNow_18 : decode cX10_carriedNow 18 = .ok (.baload, 1) := by decide +kernel
theorem dX10_carriedNow_19 : decode cX10_carriedNow 19 = .ok (.ifCond .eq 18, 3) := by decide +kernel
theorem dX10_carriedNow_22 : decode cX10_carriedNow 22 = .ok (.aload_n 0, 1) := by decide +kernel
theorem dX10_carriedNow_23 : decode cX10_carriedNow 23 = .ok (.getfield 40, 3) := by decide +kernel
theorem dX10_carriedNow_26 : decode cX10_carriedNow 26 = .ok (.iload_n 2, 1) := by decide +kernel
theorem dX10_carriedNow_27 : decode cX10_carriedNow 27 = .ok (.iaload, 1) := by decide +kernel
theorem dX10_carriedNow_28 : decode cX10_carriedNow 28 = .ok (.bipush 6, 2) := by decide +kernel
theorem dX10_carriedNow_30 : decode cX10_carriedNow 30 = .ok (.if_icmp .ne 7, 3) := by decide +kernel
theorem dX10_carriedNow_33 : decode cX10_carriedNow 33 = .ok (.iconst 1, 1) := by decide +kernel
theorem dX10_carriedNow_34 : decode cX10_carriedNow 34 = .ok (.goto 4, 3) := by decide +kernel
theorem dX10_carriedNow_37 : decode cX10_carriedNow 37 = .ok (.iconst 0, 1) := by decide +kernel
theorem dX10_carriedNow_38 : decode cX10_carriedNow 38 = .ok (.iadd, 1) := by decide +kernel
theorem dX10_carriedNow_39 : decode cX10_carriedNow 39 = .ok (.istore_n 1, 1) := by decide +kernel
theorem dX10_carriedNow_40 : decode cX10_carriedNow 40 = .ok (.iinc 2 1, 3) := by decide +kernel
theorem dX10_carriedNow_43 : decode cX10_carriedNow 43 = .ok (.goto (-39), 3) := by decide +kernel
theorem dX10_carriedNow_46 : decode cX10_carriedNow 46 = .ok (.iload_n 1, 1) := by decide +kernel
theorem dX10_carriedNow_47 : decode cX10_carriedNow 47 = .ok (.ireturn, 1) := by decide +kernel
theorem dX10_weightNow_0 : decode cX10_weightNow 0 = .ok (.aload_n 0, 1) := by decide +kernel
theorem dX10_weightNow_1 : decode cX10_weightNow 1 = .ok (.getfield 217, 3) := by decide +kernel
theorem dX10_weightNow_4 : decode cX10_weightNow 4 = .ok (.istore_n 1, 1) := by decide +kernel
theorem dX10_weightNow_5 : decode cX10_weightNow 5 = .ok (.iconst 0, 1) := by decide +kernel
theorem dX10_weightNow_6 : decode cX10_weightNow 6 = .ok (.istore_n 2, 1) := by decide +kernel
theorem dX10_weightNow_7 : decode cX10_weightNow 7 = .ok (.iload_n 2, 1) := by decide +kernel
theorem dX10_weightNow_8 : decode cX10_weightNow 8 = .ok (.aload_n 0, 1) := by decide +kernel
theorem dX10_weightNow_9 : decode cX10_weightNow 9 = .ok (.getfield 204, 3) := by decide +kernel
theorem dX10_weightNow_12 : decode cX10_weightNow 12 = .ok (.if_icmp .ge 42, 3) := by decide +kernel
theorem dX10_weightNow_15 : decode cX10_weightNow 15 = .ok (.iload_n 1, 1) := by decide +kernel
theorem dX10_weightNow_16 : decode cX10_weightNow 16 = .ok (.aload_n 0, 1) := by decide +kernel
theorem dX10_weightNow_17 : decode cX10_weightNow 17 = .ok (.getfield 46, 3) := by decide +kernel
theorem dX10_weightNow_20 : decode cX10_weightNow 20 = .ok (.iload_n 2, 1) := by decide +kernel
theorem dX10_weightNow_21 : decode cX10_weightNow 21 = .ok (.baload, 1) := by decide +kernel
theorem dX10_weightNow_22 : decode cX10_weightNow 22 = .ok (.ifCond .eq 23, 3) := by decide +kernel
theorem dX10_weightNow_25 : decode cX10_weightNow 25 = .ok (.aload_n 0, 1) := by decide +kernel
theorem dX10_weightNow_26 : decode cX10_weightNow 26 = .ok (.getfield 40, 3) := by decide +kernel
theorem dX10_weightNow_29 : decode cX10_weightNow 29 = .ok (.iload_n 2, 1) := by decide +kernel
theorem dX10_weightNow_30 : decode cX10_weightNow 30 = .ok (.iaload, 1) := by decide +kernel
theorem dX10_weightNow_31 : decode cX10_weightNow 31 = .ok (.bipush 6, 2) := by decide +kernel
theorem dX10_weightNow_33 : decode cX10_weightNow 33 = .ok (.if_icmp .ne 12, 3) := by decide +kernel
theorem dX10_weightNow_36 : decode cX10_weightNow 36 = .ok (.aload_n 0, 1) := by decide +kernel
theorem dX10_weightNow_37 : decode cX10_weightNow 37 = .ok (.getfield 43, 3) := by decide +kernel
theorem dX10_weightNow_40 : decode cX10_weightNow 40 = .ok (.iload_n 2, 1) := by decide +kernel
theorem dX10_weightNow_41 : decode cX10_weightNow 41 = .ok (.iaload, 1) := by decide +kernel
theorem dX10_weightNow_42 : decode cX10_weightNow 42 = .ok (.goto 4, 3) := by decide +kernel
theorem dX10_weightNow_45 : decode cX10_weightNow 45 = .ok (.iconst 0, 1) := by decide +kernel
theorem dX10_weightNow_46 : decode cX10_weightNow 46 = .ok (.iadd, 1) := by decide +kernel
theorem dX10_weightNow_47 : decode cX10_weightNow 47 = .ok (.istore_n 1, 1) := by decide +kernel
theorem dX10_weightNow_48 : decode cX10_weightNow 48 = .ok (.iinc 2 1, 3) := by decide +kernel
theorem dX10_weightNow_51 : decode cX10_weightNow 51 = .ok (.goto (-44), 3) := by decide +kernel
theorem dX10_weightNow_54 : decode cX10_weightNow 54 = .ok (.iload_n 1, 1) := by decide +kernel
theorem dX10_weightNow_55 : decode cX10_weightNow 55 = .ok (.ireturn, 1) := by decide +kernel
theorem dX10_spread_0 : decode cX10_spread 0 = .ok (.aload_n 0, 1) := by decide +kernel
theorem dX10_spread_1 : decode cX10_spread 1 = .ok (.getfield 50, 3) := by decide +kernel
theorem dX10_spread_4 : decode cX10_spread 4 = .ok (.iload_n 1, 1) := by decide +kernel
theorem dX10_spread_5 : decode cX10_spread 5 = .ok (.iaload, 1) := by decide +kernel
theorem dX10_spread_6 : decode cX10_spread 6 = .ok (.istore_n 2, 1) := by decide +kernel
theorem dX10_spread_7 : decode cX10_spread 7 = .ok (.iconst 0, 1) := by decide +kernel
theorem dX10_spread_8 : decode cX10_spread 8 = .ok (.istore_n 3, 1) := by decide +kernel
theorem dX10_spread_9 : decode cX10_spread 9 = .ok (.iload_n 3, 1) := by decide +kernel
theorem dX10_spread_10 : decode cX10_spread 10 = .ok (.aload_n 0, 1) := by decide +kernel
theorem dX10_spread_11 : decode cX10_spread 11 = .ok (.getfield 204, 3) := by decide +kernel
theorem dX10_spread_14 : decode cX10_spread 14 = .ok (.if_icmp .ge 60, 3) := by decide +kernel
theorem dX10_spread_17 : decode cX10_spread 17 = .ok (.aload_n 0, 1) := by decide +kernel
theorem dX10_spread_18 : decode cX10_spread 18 = .ok (.iload_n 2, 1) := by decide +kernel
theorem dX10_spread_19 : decode cX10_spread 19 = .ok (.invokevirtual 220, 3) := by decide +kernel
theorem dX10_spread_22 : decode cX10_spread 22 = .ok (.aload_n 0, 1) := by decide +kernel
theorem dX10_spread_23 : decode cX10_spread 23 = .ok (.getfield 46, 3) := by decide +kernel
theorem dX10_spread_26 : decode cX10_spread 26 = .ok (.iload_n 3, 1) := by decide +kernel
theorem dX10_spread_27 : decode cX10_spread 27 = .ok (.baload, 1) := by decide +kernel
theorem dX10_spread_28 : decode cX10_spread 28 = .ok (.ifCond .eq 40, 3) := by decide +kernel
theorem dX10_spread_31 : decode cX10_spread 31 = .ok (.aload_n 0, 1) := by decide +kernel
theorem dX10_spread_32 : decode cX10_spread 32 = .ok (.getfield 40, 3) := by decide +kernel
theorem dX10_spread_35 : decode cX10_spread 35 = .ok (.iload_n 3, 1) := by decide +kernel
theorem dX10_spread_36 : decode cX10_spread 36 = .ok (.iaload, 1) := by decide +kernel
theorem dX10_spread_37 : decode cX10_spread 37 = .ok (.aload_n 0, 1) := by decide +kernel
theorem dX10_spread_38 : decode cX10_spread 38 = .ok (.getfield 207, 3) := by decide +kernel
theorem dX10_spread_41 : decode cX10_spread 41 = .ok (.if_icmp .ne 27, 3) := by decide +kernel
theorem dX10_spread_44 : decode cX10_spread 44 = .ok (.aload_n 0, 1) := by decide +kernel
theorem dX10_spread_45 : decode cX10_spread 45 = .ok (.invokevirtual 224, 3) := by decide +kernel
theorem dX10_spread_48 : decode cX10_spread 48 = .ok (.iconst 2, 1) := by decide +kernel
theorem dX10_spread_49 : decode cX10_spread 49 = .ok (.if_icmp .ge 19, 3) := by decide +kernel
theorem dX10_spread_52 : decode cX10_spread 52 = .ok (.aload_n 0, 1) := by decide +kernel
theorem dX10_spread_53 : decode cX10_spread 53 = .ok (.getfield 40, 3) := by decide +kernel
theorem dX10_spread_56 : decode cX10_spread 56 = .ok (.iload_n 3, 1) := by decide +kernel
theorem dX10_spread_57 : decode cX10_spread 57 = .ok (.bipush 6, 2) := by decide +kernel
theorem dX10_spread_59 : decode cX10_spread 59 = .ok (.iastore, 1) := by decide +kernel
theorem dX10_spread_60 : decode cX10_spread 60 = .ok (.aload_n 0, 1) := by decide +kernel
theorem dX10_spread_61 : decode cX10_spread 61 = .ok (.iload_n 1, 1) := by decide +kernel
theorem dX10_spread_62 : decode cX10_spread 62 = .ok (.iconst 0, 1) := by decide +kernel
theorem dX10_spread_63 : decode cX10_spread 63 = .ok (.iload_n 3, 1) := by decide +kernel
theorem dX10_spread_64 : decode cX10_spread 64 = .ok (.iadd, 1) := by decide +kernel
theorem dX10_spread_65 : decode cX10_spread 65 = .ok (.invokevirtual 227, 3) := by decide +kernel
theorem dX10_spread_68 : decode cX10_spread 68 = .ok (.iinc 3 1, 3) := by decide +kernel
theorem dX10_spread_71 : decode cX10_spread 71 = .ok (.goto (-62), 3) := by decide +kernel
theorem dX10_spread_74 : decode cX10_spread 74 = .ok (.iconst 0, 1) := by decide +kernel
theorem dX10_spread_75 : decode cX10_spread 75 = .ok (.istore_n 3, 1) := by decide +kernel
theorem dX10_spread_76 : decode cX10_spread 76 = .ok (.iload_n 3, 1) := by decide +kernel
theorem dX10_spread_77 : decode cX10_spread 77 = .ok (.aload_n 0, 1) := by decide +kernel
theorem dX10_spread_78 : decode cX10_spread 78 = .ok (.getfield 204, 3) := by decide +kernel
theorem dX10_spread_81 : decode cX10_spread 81 = .ok (.if_icmp .ge 53, 3) := by decide +kernel
theorem dX10_spread_84 : decode cX10_spread 84 = .ok (.aload_n 0, 1) := by decide +kernel
theorem dX10_spread_85 : decode cX10_spread 85 = .ok (.iload_n 2, 1) := by decide +kernel
theorem dX10_spread_86 : decode cX10_spread 86 = .ok (.invokevirtual 220, 3) := by decide +kernel
theorem dX10_spread_89 : decode cX10_spread 89 = .ok (.aload_n 0, 1) := by decide +kernel
theorem dX10_spread_90 : decode cX10_spread 90 = .ok (.getfield 46, 3) := by decide +kernel
theorem dX10_spread_93 : decode cX10_spread 93 = .ok (.iload_n 3, 1) := by decide +kernel
theorem dX10_spread_94 : decode cX10_spread 94 = .ok (.baload, 1) := by decide +kernel
theorem dX10_spread_95 : decode cX10_spread 95 = .ok (.ifCond .eq 33, 3) := by decide +kernel
theorem dX10_spread_98 : decode cX10_spread 98 = .ok (.aload_n 0, 1) := by decide +kernel
theorem dX10_spread_99 : decode cX10_spread 99 = .ok (.getfield 40, 3) := by decide +kernel
theorem dX10_spread_102 : decode cX10_spread 102 = .ok (.iload_n 3, 1) := by decide +kernel
theorem dX10_spread_103 : decode cX10_spread 103 = .ok (.iaload, 1) := by decide +kernel
theorem dX10_spread_104 : decode cX10_spread 104 = .ok (.bipush 6, 2) := by decide +kernel
theorem dX10_spread_106 : decode cX10_spread 106 = .ok (.if_icmp .ne 22, 3) := by decide +kernel
theorem dX10_spread_109 : decode cX10_spread 109 = .ok (.aload_n 0, 1) := by decide +kernel
theorem dX10_spread_110 : decode cX10_spread 110 = .ok (.getfield 40, 3) := by decide +kernel
theorem dX10_spread_113 : decode cX10_spread 113 = .ok (.iload_n 3, 1) := by decide +kernel
theorem dX10_spread_114 : decode cX10_spread 114 = .ok (.aload_n 0, 1) := by decide +kernel
theorem dX10_spread_115 : decode cX10_spread 115 = .ok (.getfield 207, 3) := by decide +kernel
theorem dX10_spread_118 : decode cX10_spread 118 = .ok (.iastore, 1) := by decide +kernel
theorem dX10_spread_119 : decode cX10_spread 119 = .ok (.aload_n 0, 1) := by decide +kernel
theorem dX10_spread_120 : decode cX10_spread 120 = .ok (.iload_n 1, 1) := by decide +kernel
theorem dX10_spread_121 : decode cX10_spread 121 = .ok (.bipush 10, 2) := by decide +kernel
theorem dX10_spread_123 : decode cX10_spread 123 = .ok (.iload_n 3, 1) := by decide +kernel
theorem dX10_spread_124 : decode cX10_spread 124 = .ok (.iadd, 1) := by decide +kernel
theorem dX10_spread_125 : decode cX10_spread 125 = .ok (.invokevirtual 227, 3) := by decide +kernel
theorem dX10_spread_128 : decode cX10_spread 128 = .ok (.iinc 3 1, 3) := by decide +kernel
theorem dX10_spread_131 : decode cX10_spread 131 = .ok (.goto (-55), 3) := by decide +kernel
theorem dX10_spread_134 : decode cX10_spread 134 = .ok (.iconst 0, 1) := by decide +kernel
theorem dX10_spread_135 : decode cX10_spread 135 = .ok (.istore_n 3, 1) := by decide +kernel
theorem dX10_spread_136 : decode cX10_spread 136 = .ok (.iload_n 3, 1) := by decide +kernel
theorem dX10_spread_137 : decode cX10_spread 137 = .ok (.aload_n 0, 1) := by decide +kernel
theorem dX10_spread_138 : decode cX10_spread 138 = .ok (.getfield 111, 3) := by decide +kernel
theorem dX10_spread_141 : decode cX10_spread 141 = .ok (.if_icmp .ge 49, 3) := by decide +kernel
theorem dX10_spread_144 : decode cX10_spread 144 = .ok (.aload_n 0, 1) := by decide +kernel
theorem dX10_spread_145 : decode cX10_spread 145 = .ok (.iload_n 2, 1) := by decide +kernel
theorem dX10_spread_146 : decode cX10_spread 146 = .ok (.invokevirtual 220, 3) := by decide +kernel
theorem dX10_spread_149 : decode cX10_spread 149 = .ok (.aload_n 0, 1) := by decide +kernel
theorem dX10_spread_150 : decode cX10_spread 150 = .ok (.iload_n 3, 1) := by decide +kernel
theorem dX10_spread_151 : decode cX10_spread 151 = .ok (.aload_n 0, 1) := by decide +kernel
theorem dX10_spread_152 : decode cX10_spread 152 = .ok (.getfield 207, 3) := by decide +kernel
theorem dX10_spread_155 : decode cX10_spread 155 = .ok (.aload_n 0, 1) := by decide +kernel
theorem dX10_spread_156 : decode cX10_spread 156 = .ok (.invokevirtual 231, 3) := by decide +kernel
theorem dX10_spread_159 : decode cX10_spread 159 = .ok (.invokevirtual 200, 3) := by decide +kernel
theorem dX10_spread_162 : decode cX10_spread 162 = .ok (.istore 4, 2) := by decide +kernel
theorem dX10_spread_164 : decode cX10_spread 164 = .ok (.iload 4, 2) := by decide +kernel
theorem dX10_spread_166 : decode cX10_spread 166 = .ok (.ifCond .lt 18, 3) := by decide +kernel
theorem dX10_spread_169 : decode cX10_spread 169 = .ok (.aload_n 0, 1) := by decide +kernel
theorem dX10_spread_170 : decode cX10_spread 170 = .ok (.iload 4, 2) := by decide +kernel
theorem dX10_spread_172 : decode cX10_spread 172 = .ok (.putfield 207, 3) := by decide +kernel
theorem dX10_spread_175 : decode cX10_spread 175 = .ok (.aload_n 0, 1) := by decide +kernel
theorem dX10_spread_176 : decode cX10_spread 176 = .ok (.iload_n 1, 1) := by decide +kernel
theorem dX10_spread_177 : decode cX10_spread 177 = .ok (.bipush 20, 2) := by decide +kernel
theorem dX10_spread_179 : decode cX10_spread 179 = .ok (.iload_n 3, 1) := by decide +kernel
theorem dX10_spread_180 : decode cX10_spread 180 = .ok (.iadd, 1) := by decide +kernel
theorem dX10_spread_181 : decode cX10_spread 181 = .ok (.invokevirtual 227, 3) := by decide +kernel
theorem dX10_spread_184 : decode cX10_spread 184 = .ok (.iinc 3 1, 3) := by decide +kernel
theorem dX10_spread_187 : decode cX10_spread 187 = .ok (.goto (-51), 3) := by decide +kernel
theorem dX10_spread_190 : decode cX10_spread 190 = .ok (.return_, 1) := by decide +kernel
theorem dX10_goTill_0 : decode cX10_goTill 0 = .ok (.iconst 0, 1) := by decide +kernel
theorem dX10_goTill_1 : decode cX10_goTill 1 = .ok (.istore_n 2, 1) := by decide +kernel
theorem dX10_goTill_2 : decode cX10_goTill 2 = .ok (.iload_n 2, 1) := by decide +kernel
theorem dX10_goTill_3 : decode cX10_goTill 3 = .ok (.sipush 14406, 3) := by decide +kernel
theorem dX10_goTill_6 : decode cX10_goTill 6 = .ok (.if_icmp .ge 16, 3) := by decide +kernel
theorem dX10_goTill_9 : decode cX10_goTill 9 = .ok (.aload_n 0, 1) := by decide +kernel
theorem dX10_goTill_10 : decode cX10_goTill 10 = .ok (.getfield 59, 3) := by decide +kernel
theorem dX10_goTill_13 : decode cX10_goTill 13 = .ok (.iload_n 2, 1) := by decide +kernel
theorem dX10_goTill_14 : decode cX10_goTill 14 = .ok (.iconst 0, 1) := by decide +kernel
theorem dX10_goTill_15 : decode cX10_goTill 15 = .ok (.bastore, 1) := by decide +kernel
theorem dX10_goTill_16 : decode cX10_goTill 16 = .ok (.iinc 2 1, 3) := by decide +kernel
theorem dX10_goTill_19 : decode cX10_goTill 19 = .ok (.goto (-17), 3) := by decide +kernel
theorem dX10_goTill_22 : decode cX10_goTill 22 = .ok (.aload_n 0, 1) := by decide +kernel
theorem dX10_goTill_23 : decode cX10_goTill 23 = .ok (.iconst 0, 1) := by decide +kernel
theorem dX10_goTill_24 : decode cX10_goTill 24 = .ok (.putfield 214, 3) := by decide +kernel
theorem dX10_goTill_27 : decode cX10_goTill 27 = .ok (.aload_n 0, 1) := by decide +kernel
theorem dX10_goTill_28 : decode cX10_goTill 28 = .ok (.bipush (-9), 2) := by decide +kernel
theorem dX10_goTill_30 : decode cX10_goTill 30 = .ok (.bipush (-9), 2) := by decide +kernel
theorem dX10_goTill_32 : decode cX10_goTill 32 = .ok (.invokevirtual 227, 3) := by decide +kernel
theorem dX10_goTill_35 : decode cX10_goTill 35 = .ok (.iconst 0, 1) := by decide +kernel
theorem dX10_goTill_36 : decode cX10_goTill 36 = .ok (.istore_n 2, 1) := by decide +kernel
theorem dX10_goTill_37 : decode cX10_goTill 37 = .ok (.iload_n 2, 1) := by decide +kernel
theorem dX10_goTill_38 : decode cX10_goTill 38 = .ok (.aload_n 0, 1) := by decide +kernel
theorem dX10_goTill_39 : decode cX10_goTill 39 = .ok (.getfield 214, 3) := by decide +kernel
theorem dX10_goTill_42 : decode cX10_goTill 42 = .ok (.if_icmp .ge 29, 3) := by decide +kernel
theorem dX10_goTill_45 : decode cX10_goTill 45 = .ok (.aload_n 0, 1) := by decide +kernel
theorem dX10_goTill_46 : decode cX10_goTill 46 = .ok (.getfield 50, 3) := by decide +kernel
theorem dX10_goTill_49 : decode cX10_goTill 49 = .ok (.iload_n 2, 1) := by decide +kernel
theorem dX10_goTill_50 : decode cX10_goTill 50 = .ok (.iaload, 1) := by decide +kernel
theorem dX10_goTill_51 : decode cX10_goTill 51 = .ok (.bipush 6, 2) := by decide +kernel
theorem dX10_goTill_53 : decode cX10_goTill 53 = .ok (.irem, 1) := by decide +kernel
theorem dX10_goTill_54 : decode cX10_goTill 54 = .ok (.iload_n 1, 1) := by decide +kernel
theorem dX10_goTill_55 : decode cX10_goTill 55 = .ok (.if_icmp .ne 5, 3) := by decide +kernel
theorem dX10_goTill_58 : decode cX10_goTill 58 = .ok (.iload_n 2, 1) := by decide +kernel
theorem dX10_goTill_59 : decode cX10_goTill 59 = .ok (.ireturn, 1) := by decide +kernel
theorem dX10_goTill_60 : decode cX10_goTill 60 = .ok (.aload_n 0, 1) := by decide +kernel
theorem dX10_goTill_61 : decode cX10_goTill 61 = .ok (.iload_n 2, 1) := by decide +kernel
theorem dX10_goTill_62 : decode cX10_goTill 62 = .ok (.invokevirtual 234, 3) := by decide +kernel
theorem dX10_goTill_65 : decode cX10_goTill 65 = .ok (.iinc 2 1, 3) := by decide +kernel
theorem dX10_goTill_68 : decode cX10_goTill 68 = .ok (.goto (-31), 3) := by decide +kernel
theorem dX10_goTill_71 : decode cX10_goTill 71 = .ok (.bipush (-9), 2) := by decide +kernel
theorem dX10_goTill_73 : decode cX10_goTill 73 = .ok (.ireturn, 1) := by decide +kernel
theorem dX10_fewest_0 : decode cX10_fewest 0 = .ok (.aload_n 0, 1) := by decide +kernel
theorem dX10_fewest_1 : decode cX10_fewest 1 = .ok (.iload_n 1, 1) := by decide +kernel
theorem dX10_fewest_2 : decode cX10_fewest 2 = .ok (.invokevirtual 176, 3) := by decide +kernel
theorem dX10_fewest_5 : decode cX10_fewest 5 = .ok (.ifCond .ne 16, 3) := by decide +kernel
theorem dX10_fewest_8 : decode cX10_fewest 8 = .ok (.aload_n 0, 1) := by decide +kernel
theorem dX10_fewest_9 : decode cX10_fewest 9 = .ok (.iload_n 2, 1) := by decide +kernel
theorem dX10_fewest_10 : decode cX10_fewest 10 = .ok (.invokevirtual 167, 3) := by decide +kernel
theorem dX10_fewest_13 : decode cX10_fewest 13 = .ok (.ifCond .ne 8, 3) := by decide +kernel
theorem dX10_fewest_16 : decode cX10_fewest 16 = .ok (.iload_n 3, 1) := by decide +kernel
theorem dX10_fewest_17 : decode cX10_fewest 17 = .ok (.iconst (-1), 1) := by decide +kernel
theorem dX10_fewest_18 : decode cX10_fewest 18 = .ok (.if_icmp .ge 5, 3) := by decide +kernel
theorem dX10_fewest_21 : decode cX10_fewest 21 = .ok (.iconst (-1), 1) := by decide +kernel
theorem dX10_fewest_22 : decode cX10_fewest 22 = .ok (.ireturn, 1) := by decide +kernel
theorem dX10_fewest_23 : decode cX10_fewest 23 = .ok (.aload_n 0, 1) := by decide +kernel
theorem dX10_fewest_24 : decode cX10_fewest 24 = .ok (.aload_n 0, 1) := by decide +kernel
theorem dX10_fewest_25 : decode cX10_fewest 25 = .ok (.getfield 28, 3) := by decide +kernel
theorem dX10_fewest_28 : decode cX10_fewest 28 = .ok (.iload_n 1, 1) := by decide +kernel
theorem dX10_fewest_29 : decode cX10_fewest 29 = .ok (.iaload, 1) := by decide +kernel
theorem dX10_fewest_30 : decode cX10_fewest 30 = .ok (.putfield 217, 3) := by decide +kernel
theorem dX10_fewest_33 : decode cX10_fewest 33 = .ok (.aload_n 0, 1) := by decide +kernel
theorem dX10_fewest_34 : decode cX10_fewest 34 = .ok (.aload_n 0, 1) := by decide +kernel
theorem dX10_fewest_35 : decode cX10_fewest 35 = .ok (.getfield 31, 3) := by decide +kernel
theorem dX10_fewest_38 : decode cX10_fewest 38 = .ok (.iload_n 1, 1) := by decide +kernel
theorem dX10_fewest_39 : decode cX10_fewest 39 = .ok (.iaload, 1) := by decide +kernel
theorem dX10_fewest_40 : decode cX10_fewest 40 = .ok (.putfield 207, 3) := by decide +kernel
theorem dX10_fewest_43 : decode cX10_fewest 43 = .ok (.aload_n 0, 1) := by decide +kernel
theorem dX10_fewest_44 : decode cX10_fewest 44 = .ok (.aload_n 0, 1) := by decide +kernel
theorem dX10_fewest_45 : decode cX10_fewest 45 = .ok (.getfield 148, 3) := by decide +kernel
theorem dX10_fewest_48 : decode cX10_fewest 48 = .ok (.putfield 204, 3) := by decide +kernel
theorem dX10_fewest_51 : decode cX10_fewest 51 = .ok (.iconst 0, 1) := by decide +kernel
theorem dX10_fewest_52 : decode cX10_fewest 52 = .ok (.istore 4, 2) := by decide +kernel
theorem dX10_fewest_54 : decode cX10_fewest 54 = .ok (.iload 4, 2) := by decide +kernel
theorem dX10_fewest_56 : decode cX10_fewest 56 = .ok (.aload_n 0, 1) := by decide +kernel
theorem dX10_fewest_57 : decode cX10_fewest 57 = .ok (.getfield 148, 3) := by decide +kernel
theorem dX10_fewest_60 : decode cX10_fewest 60 = .ok (.if_icmp .ge 92, 3) := by decide +kernel
theorem dX10_fewest_63 : decode cX10_fewest 63 = .ok (.aload_n 0, 1) := by decide +kernel
theorem dX10_fewest_64 : decode cX10_fewest 64 = .ok (.getfield 46, 3) := by decide +kernel
theorem dX10_fewest_67 : decode cX10_fewest 67 = .ok (.iload 4, 2) := by decide +kernel
theorem dX10_fewest_69 : decode cX10_fewest 69 = .ok (.aload_n 0, 1) := by decide +kernel
theorem dX10_fewest_70 : decode cX10_fewest 70 = .ok (.getfield 37, 3) := by decide +kernel
theorem dX10_fewest_73 : decode cX10_fewest 73 = .ok (.iload 4, 2) := by decide +kernel
theorem dX10_fewest_75 : decode cX10_fewest 75 = .ok (.iaload, 1) := by decide +kernel
theorem dX10_fewest_76 : decode cX10_fewest 76 = .ok (.bipush 20, 2) := by decide +kernel
theorem dX10_fewest_78 : decode cX10_fewest 78 = .ok (.if_icmp .lt 17, 3) := by decide +kernel
theorem dX10_fewest_81 : decode cX10_fewest 81 = .ok (.aload_n 0, 1) := by decide +kernel
theorem dX10_fewest_82 : decode cX10_fewest 82 = .ok (.getfield 37, 3) := by decide +kernel
theorem dX10_fewest_85 : decode cX10_fewest 85 = .ok (.iload 4, 2) := by decide +kernel
theorem dX10_fewest_87 : decode cX10_fewest 87 = .ok (.iaload, 1) := by decide +kernel
theorem dX10_fewest_88 : decode cX10_fewest 88 = .ok (.bipush 20, 2) := by decide +kernel
theorem dX10_fewest_90 : decode cX10_fewest 90 = .ok (.iload_n 1, 1) := by decide +kernel
theorem dX10_fewest_91 : decode cX10_fewest 91 = .ok (.iadd, 1) := by decide +kernel
theorem dX10_fewest_92 : decode cX10_fewest 92 = .ok (.if_icmp .ne 7, 3) := by decide +kernel
theorem dX10_fewest_95 : decode cX10_fewest 95 = .ok (.iconst 1, 1) := by decide +kernel
theorem dX10_fewest_96 : decode cX10_fewest 96 = .ok (.goto 4, 3) := by decide +kernel
theorem dX10_fewest_99 : decode cX10_fewest 99 = .ok (.iconst 0, 1) := by decide +kernel
theorem dX10_fewest_100 : decode cX10_fewest 100 = .ok (.bastore, 1) := by decide +kernel
theorem dX10_fewest_101 : decode cX10_fewest 101 = .ok (.aload_n 0, 1) := by decide +kernel
theorem dX10_fewest_102 : decode cX10_fewest 102 = .ok (.getfield 40, 3) := by decide +kernel
theorem dX10_fewest_105 : decode cX10_fewest 105 = .ok (.iload 4, 2) := by decide +kernel
theorem dX10_fewest_107 : decode cX10_fewest 107 = .ok (.aload_n 0, 1) := by decide +kernel
theorem dX10_fewest_108 : decode cX10_fewest 108 = .ok (.getfield 37, 3) := by decide +kernel
theorem dX10_fewest_111 : decode cX10_fewest 111 = .ok (.iload 4, 2) := by decide +kernel
theorem dX10_fewest_113 : decode cX10_fewest 113 = .ok (.iaload, 1) := by decide +kernel
theorem dX10_fewest_114 : decode cX10_fewest 114 = .ok (.bipush 20, 2) := by decide +kernel
theorem dX10_fewest_116 : decode cX10_fewest 116 = .ok (.if_icmp .ge 13, 3) := by decide +kernel
theorem dX10_fewest_119 : decode cX10_fewest 119 = .ok (.aload_n 0, 1) := by decide +kernel
theorem dX10_fewest_120 : decode cX10_fewest 120 = .ok (.getfield 37, 3) := by decide +kernel
theorem dX10_fewest_123 : decode cX10_fewest 123 = .ok (.iload 4, 2) := by decide +kernel
theorem dX10_fewest_125 : decode cX10_fewest 125 = .ok (.iaload, 1) := by decide +kernel
theorem dX10_fewest_126 : decode cX10_fewest 126 = .ok (.goto 5, 3) := by decide +kernel
theorem dX10_fewest_129 : decode cX10_fewest 129 = .ok (.bipush 6, 2) := by decide +kernel
theorem dX10_fewest_131 : decode cX10_fewest 131 = .ok (.iastore, 1) := by decide +kernel
theorem dX10_fewest_132 : decode cX10_fewest 132 = .ok (.aload_n 0, 1) := by decide +kernel
theorem dX10_fewest_133 : decode cX10_fewest 133 = .ok (.getfield 43, 3) := by decide +kernel
theorem dX10_fewest_136 : decode cX10_fewest 136 = .ok (.iload 4, 2) := by decide +kernel
theorem dX10_fewest_138 : decode cX10_fewest 138 = .ok (.aload_n 0, 1) := by decide +kernel
theorem dX10_fewest_139 : decode cX10_fewest 139 = .ok (.getfield 34, 3) := by decide +kernel
theorem dX10_fewest_142 : decode cX10_fewest 142 = .ok (.iload 4, 2) := by decide +kernel
theorem dX10_fewest_144 : decode cX10_fewest 144 = .ok (.iaload, 1) := by decide +kernel
theorem dX10_fewest_145 : decode cX10_fewest 145 = .ok (.iastore, 1) := by decide +kernel
theorem dX10_fewest_146 : decode cX10_fewest 146 = .ok (.iinc 4 1, 3) := by decide +kernel
theorem dX10_fewest_149 : decode cX10_fewest 149 = .ok (.goto (-95), 3) := by decide +kernel
theorem dX10_fewest_152 : decode cX10_fewest 152 = .ok (.aload_n 0, 1) := by decide +kernel
theorem dX10_fewest_153 : decode cX10_fewest 153 = .ok (.iload_n 2, 1) := by decide +kernel
theorem dX10_fewest_154 : decode cX10_fewest 154 = .ok (.invokevirtual 237, 3) := by decide +kernel
theorem dX10_fewest_157 : decode cX10_fewest 157 = .ok (.istore 4, 2) := by decide +kernel
theorem dX10_fewest_159 : decode cX10_fewest 159 = .ok (.iload 4, 2) := by decide +kernel
theorem dX10_fewest_161 : decode cX10_fewest 161 = .ok (.ifCond .ge 6, 3) := by decide +kernel
theorem dX10_fewest_164 : decode cX10_fewest 164 = .ok (.bipush (-9), 2) := by decide +kernel
theorem dX10_fewest_166 : decode cX10_fewest 166 = .ok (.ireturn, 1) := by decide +kernel
theorem dX10_fewest_167 : decode cX10_fewest 167 = .ok (.iconst 0, 1) := by decide +kernel
theorem dX10_fewest_168 : decode cX10_fewest 168 = .ok (.istore 5, 2) := by decide +kernel
theorem dX10_fewest_170 : decode cX10_fewest 170 = .ok (.aload_n 0, 1) := by decide +kernel
theorem dX10_fewest_171 : decode cX10_fewest 171 = .ok (.getfield 53, 3) := by decide +kernel
theorem dX10_fewest_174 : decode cX10_fewest 174 = .ok (.iload 4, 2) := by decide +kernel
theorem dX10_fewest_176 : decode cX10_fewest 176 = .ok (.iaload, 1) := by decide +kernel
theorem dX10_fewest_177 : decode cX10_fewest 177 = .ok (.ifCond .lt 32, 3) := by decide +kernel
theorem dX10_fewest_180 : decode cX10_fewest 180 = .ok (.aload_n 0, 1) := by decide +kernel
theorem dX10_fewest_181 : decode cX10_fewest 181 = .ok (.getfield 62, 3) := by decide +kernel
theorem dX10_fewest_184 : decode cX10_fewest 184 = .ok (.iload 5, 2) := by decide +kernel
theorem dX10_fewest_186 : decode cX10_fewest 186 = .ok (.aload_n 0, 1) := by decide +kernel
theorem dX10_fewest_187 : decode cX10_fewest 187 = .ok (.getfield 56, 3) := by decide +kernel
theorem dX10_fewest_190 : decode cX10_fewest 190 = .ok (.iload 4, 2) := by decide +kernel
theorem dX10_fewest_192 : decode cX10_fewest 192 = .ok (.iaload, 1) := by decide +kernel
theorem dX10_fewest_193 : decode cX10_fewest 193 = .ok (.iastore, 1) := by decide +kernel
theorem dX10_fewest_194 : decode cX10_fewest 194 = .ok (.aload_n 0, 1) := by decide +kernel
theorem dX10_fewest_195 : decode cX10_fewest 195 = .ok (.getfield 53, 3) := by decide +kernel
theorem dX10_fewest_198 : decode cX10_fewest 198 = .ok (.iload 4, 2) := by decide +kernel
theorem dX10_fewest_200 : decode cX10_fewest 200 = .ok (.iaload, 1) := by decide +kernel
theorem dX10_fewest_201 : decode cX10_fewest 201 = .ok (.istore 4, 2) := by decide +kernel
theorem dX10_fewest_203 : decode cX10_fewest 203 = .ok (.iinc 5 1, 3) := by decide +kernel
theorem dX10_fewest_206 : decode cX10_fewest 206 = .ok (.goto (-36), 3) := by decide +kernel
theorem dX10_fewest_209 : decode cX10_fewest 209 = .ok (.iload_n 3, 1) := by decide +kernel
theorem dX10_fewest_210 : decode cX10_fewest 210 = .ok (.ifCond .ge 8, 3) := by decide +kernel
theorem dX10_fewest_213 : decode cX10_fewest 213 = .ok (.iload 5, 2) := by decide +kernel
theorem dX10_fewest_215 : decode cX10_fewest 215 = .ok (.goto 25, 3) := by decide +kernel
theorem dX10_fewest_218 : decode cX10_fewest 218 = .ok (.iload_n 3, 1) := by decide +kernel
theorem dX10_fewest_219 : decode cX10_fewest 219 = .ok (.iload 5, 2) := by decide +kernel
theorem dX10_fewest_221 : decode cX10_fewest 221 = .ok (.if_icmp .ge 17, 3) := by decide +kernel
theorem dX10_fewest_224 : decode cX10_fewest 224 = .ok (.aload_n 0, 1) := by decide +kernel
theorem dX10_fewest_225 : decode cX10_fewest 225 = .ok (.getfield 62, 3) := by decide +kernel
theorem dX10_fewest_228 : decode cX10_fewest 228 = .ok (.iload 5, 2) := by decide +kernel
theorem dX10_fewest_230 : decode cX10_fewest 230 = .ok (.iconst 1, 1) := by decide +kernel
theorem dX10_fewest_231 : decode cX10_fewest 231 = .ok (.isub, 1) := by decide +kernel
theorem dX10_fewest_232 : decode cX10_fewest 232 = .ok (.iload_n 3, 1) := by decide +kernel
theorem dX10_fewest_233 : decode cX10_fewest 233 = .ok (.isub, 1) := by decide +kernel
theorem dX10_fewest_234 : decode cX10_fewest 234 = .ok (.iaload, 1) := by decide +kernel
theorem dX10_fewest_235 : decode cX10_fewest 235 = .ok (.goto 5, 3) := by decide +kernel
theorem dX10_fewest_238 : decode cX10_fewest 238 = .ok (.bipush (-9), 2) := by decide +kernel
theorem dX10_fewest_240 : decode cX10_fewest 240 = .ok (.ireturn, 1) := by decide +kernel
theorem dX10_reachOf_0 : decode cX10_reachOf 0 = .ok (.iconst 1, 1) := by decide +kernel
theorem dX10_reachOf_1 : decode cX10_reachOf 1 = .ok (.iload_n 2, 1) := by decide +kernel
theorem dX10_reachOf_2 : decode cX10_reachOf 2 = .ok (.ishl, 1) := by decide +kernel
theorem dX10_reachOf_3 : decode cX10_reachOf 3 = .ok (.istore_n 3, 1) := by decide +kernel
theorem dX10_reachOf_4 : decode cX10_reachOf 4 = .ok (.iconst 0, 1) := by decide +kernel
theorem dX10_reachOf_5 : decode cX10_reachOf 5 = .ok (.istore 4, 2) := by decide +kernel
theorem dX10_reachOf_7 : decode cX10_reachOf 7 = .ok (.iload 4, 2) := by decide +kernel
theorem dX10_reachOf_9 : decode cX10_reachOf 9 = .ok (.aload_n 0, 1) := by decide +kernel
theorem dX10_reachOf_10 : decode cX10_reachOf 10 = .ok (.getfield 108, 3) := by decide +kernel
theorem dX10_reachOf_13 : decode cX10_reachOf 13 = .ok (.if_icmp .ge 109, 3) := by decide +kernel
theorem dX10_reachOf_16 : decode cX10_reachOf 16 = .ok (.iconst 0, 1) := by decide +kernel
theorem dX10_reachOf_17 : decode cX10_reachOf 17 = .ok (.istore 5, 2) := by decide +kernel
theorem dX10_reachOf_19 : decode cX10_reachOf 19 = .ok (.iload 5, 2) := by decide +kernel
theorem dX10_reachOf_21 : decode cX10_reachOf 21 = .ok (.aload_n 0, 1) := by decide +kernel
theorem dX10_reachOf_22 : decode cX10_reachOf 22 = .ok (.getfield 111, 3) := by decide +kernel
theorem dX10_reachOf_25 : decode cX10_reachOf 25 = .ok (.if_icmp .ge 91, 3) := by decide +kernel
theorem dX10_reachOf_28 : decode cX10_reachOf 28 = .ok (.iconst 0, 1) := by decide +kernel
theorem dX10_reachOf_29 : decode cX10_reachOf 29 = .ok (.istore 6, 2) := by decide +kernel
theorem dX10_reachOf_31 : decode cX10_reachOf 31 = .ok (.iload 6, 2) := by decide +kernel
theorem dX10_reachOf_33 : decode cX10_reachOf 33 = .ok (.iconst 2, 1) := by decide +kernel
theorem dX10_reachOf_34 : decode cX10_reachOf 34 = .ok (.if_icmp .ge 76, 3) := by decide +kernel
theorem dX10_reachOf_37 : decode cX10_reachOf 37 = .ok (.iload_n 3, 1) := by decide +kernel
theorem dX10_reachOf_38 : decode cX10_reachOf 38 = .ok (.aload_n 0, 1) := by decide +kernel
theorem dX10_reachOf_39 : decode cX10_reachOf 39 = .ok (.getfield 13, 3) := by decide +kernel
theorem dX10_reachOf_42 : decode cX10_reachOf 42 = .ok (.iconst 2, 1) := by decide +kernel
theorem dX10_reachOf_43 : decode cX10_reachOf 43 = .ok (.iload 5, 2) := by decide +kernel
theorem dX10_reachOf_45 : decode cX10_reachOf 45 = .ok (.imul, 1) := by decide +kernel
theorem dX10_reachOf_46 : decode cX10_reachOf 46 = .ok (.iload 6, 2) := by decide +kernel
theorem dX10_reachOf_48 : decode cX10_reachOf 48 = .ok (.iadd, 1) := by decide +kernel
theorem dX10_reachOf_49 : decode cX10_reachOf 49 = .ok (.iaload, 1) := by decide +kernel
theorem dX10_reachOf_50 : decode cX10_reachOf 50 = .ok (.ishr, 1) := by decide +kernel
theorem dX10_reachOf_51 : decode cX10_reachOf 51 = .ok (.iconst 1, 1) := by decide +kernel
theorem dX10_reachOf_52 : decode cX10_reachOf 52 = .ok (.iand, 1) := by decide +kernel
theorem dX10_reachOf_53 : decode cX10_reachOf 53 = .ok (.iconst 1, 1) := by decide +kernel
theorem dX10_reachOf_54 : decode cX10_reachOf 54 = .ok (.if_icmp .ne 7, 3) := by decide +kernel
theorem dX10_reachOf_57 : decode cX10_reachOf 57 = .ok (.iconst 1, 1) := by decide +kernel
theorem dX10_reachOf_58 : decode cX10_reachOf 58 = .ok (.goto 4, 3) := by decide +kernel
theorem dX10_reachOf_61 : decode cX10_reachOf 61 = .ok (.iconst 0, 1) := by decide +kernel
theorem dX10_reachOf_62 : decode cX10_reachOf 62 = .ok (.istore 7, 2) := by decide +kernel
theorem dX10_reachOf_64 : decode cX10_reachOf 64 = .ok (.iload_n 3, 1) := by decide +kernel
theorem dX10_reachOf_65 : decode cX10_reachOf 65 = .ok (.iload 7, 2) := by decide +kernel
theorem dX10_reachOf_67 : decode cX10_reachOf 67 = .ok (.ifCond .eq 34, 3) := by decide +kernel
theorem dX10_reachOf_70 : decode cX10_reachOf 70 = .ok (.aload_n 0, 1) := by decide +kernel
theorem dX10_reachOf_71 : decode cX10_reachOf 71 = .ok (.iload 5, 2) := by decide +kernel
theorem dX10_reachOf_73 : decode cX10_reachOf 73 = .ok (.iload 6, 2) := by decide +kernel
theorem dX10_reachOf_75 : decode cX10_reachOf 75 = .ok (.iload_n 1, 1) := by decide +kernel
theorem dX10_reachOf_76 : decode cX10_reachOf 76 = .ok (.invokevirtual 160, 3) := by decide +kernel
theorem dX10_reachOf_79 : decode cX10_reachOf 79 = .ok (.ifCond .eq 22, 3) := by decide +kernel
theorem dX10_reachOf_82 : decode cX10_reachOf 82 = .ok (.iconst 1, 1) := by decide +kernel
theorem dX10_reachOf_83 : decode cX10_reachOf 83 = .ok (.aload_n 0, 1) := by decide +kernel
theorem dX10_reachOf_84 : decode cX10_reachOf 84 = .ok (.getfield 13, 3) := by decide +kernel
theorem dX10_reachOf_87 : decode cX10_reachOf 87 = .ok (.iconst 2, 1) := by decide +kernel
theorem dX10_reachOf_88 : decode cX10_reachOf 88 = .ok (.iload 5, 2) := by decide +kernel
theorem dX10_reachOf_90 : decode cX10_reachOf 90 = .ok (.imul, 1) := by decide +kernel
theorem dX10_reachOf_91 : decode cX10_reachOf 91 = .ok (.iconst 1, 1) := by decide +kernel
theorem dX10_reachOf_92 : decode cX10_reachOf 92 = .ok (.iadd, 1) := by decide +kernel
theorem dX10_reachOf_93 : decode cX10_reachOf 93 = .ok (.iload 6, 2) := by decide +kernel
theorem dX10_reachOf_95 : decode cX10_reachOf 95 = .ok (.isub, 1) := by decide +kernel
theorem dX10_reachOf_96 : decode cX10_reachOf 96 = .ok (.iaload, 1) := by decide +kernel
theorem dX10_reachOf_97 : decode cX10_reachOf 97 = .ok (.ishl, 1) := by decide +kernel
theorem dX10_reachOf_98 : decode cX10_reachOf 98 = .ok (.goto 4, 3) := by decide +kernel
theorem dX10_reachOf_101 : decode cX10_reachOf 101 = .ok (.iconst 0, 1) := by decide +kernel
theorem dX10_reachOf_102 : decode cX10_reachOf 102 = .ok (.ior, 1) := by decide +kernel
theorem dX10_reachOf_103 : decode cX10_reachOf 103 = .ok (.istore_n 3, 1) := by decide +kernel
theorem dX10_reachOf_104 : decode cX10_reachOf 104 = .ok (.iinc 6 1, 3) := by decide +kernel
theorem dX10_reachOf_107 : decode cX10_reachOf 107 = .ok (.goto (-76), 3) := by decide +kernel
theorem dX10_reachOf_110 : decode cX10_reachOf 110 = .ok (.iinc 5 1, 3) := by decide +kernel
theorem dX10_reachOf_113 : decode cX10_reachOf 113 = .ok (.goto (-94), 3) := by decide +kernel
theorem dX10_reachOf_116 : decode cX10_reachOf 116 = .ok (.iinc 4 1, 3) := by decide +kernel
theorem dX10_reachOf_119 : decode cX10_reachOf 119 = .ok (.goto (-112), 3) := by decide +kernel
theorem dX10_reachOf_122 : decode cX10_reachOf 122 = .ok (.iload_n 3, 1) := by decide +kernel
theorem dX10_reachOf_123 : decode cX10_reachOf 123 = .ok (.ireturn, 1) := by decide +kernel
theorem dX10_reach_0 : decode cX10_reach 0 = .ok (.aload_n 0, 1) := by decide +kernel
theorem dX10_reach_1 : decode cX10_reach 1 = .ok (.iload_n 2, 1) := by decide +kernel
theorem dX10_reach_2 : decode cX10_reach 2 = .ok (.invokevirtual 167, 3) := by decide +kernel
theorem dX10_reach_5 : decode cX10_reach 5 = .ok (.ifCond .eq 5, 3) := by decide +kernel
theorem dX10_reach_8 : decode cX10_reach 8 = .ok (.iconst (-1), 1) := by decide +kernel
theorem dX10_reach_9 : decode cX10_reach 9 = .ok (.ireturn, 1) := by decide +kernel
theorem dX10_reach_10 : decode cX10_reach 10 = .ok (.iload_n 1, 1) := by decide +kernel
theorem dX10_reach_11 : decode cX10_reach 11 = .ok (.i2l, 1) := by decide +kernel
theorem dX10_reach_12 : decode cX10_reach 12 = .ok (.lconst 1, 1) := by decide +kernel
theorem dX10_reach_13 : decode cX10_reach 13 = .ok (.ldc2_w 240, 3) := by decide +kernel
theorem dX10_reach_16 : decode cX10_reach 16 = .ok (.invokestatic 97, 3) := by decide +kernel
theorem dX10_reach_19 : decode cX10_reach 19 = .ok (.ifCond .eq 12, 3) := by decide +kernel
theorem dX10_reach_22 : decode cX10_reach 22 = .ok (.aload_n 0, 1) := by decide +kernel
theorem dX10_reach_23 : decode cX10_reach 23 = .ok (.iload_n 1, 1) := by decide +kernel
theorem dX10_reach_24 : decode cX10_reach 24 = .ok (.iload_n 2, 1) := by decide +kernel
theorem dX10_reach_25 : decode cX10_reach 25 = .ok (.invokevirtual 242, 3) := by decide +kernel
theorem dX10_reach_28 : decode cX10_reach 28 = .ok (.goto 5, 3) := by decide +kernel
theorem dX10_reach_31 : decode cX10_reach 31 = .ok (.bipush (-2), 2) := by decide +kernel
theorem dX10_reach_33 : decode cX10_reach 33 = .ok (.ireturn, 1) := by decide +kernel
theorem dX10_comesTo_0 : decode cX10_comesTo 0 = .ok (.aload_n 0, 1) := by decide +kernel
theorem dX10_comesTo_1 : decode cX10_comesTo 1 = .ok (.iload_n 1, 1) := by decide +kernel
theorem dX10_comesTo_2 : decode cX10_comesTo 2 = .ok (.iload_n 2, 1) := by decide +kernel
theorem dX10_comesTo_3 : decode cX10_comesTo 3 = .ok (.invokevirtual 242, 3) := by decide +kernel
theorem dX10_comesTo_6 : decode cX10_comesTo 6 = .ok (.iload_n 3, 1) := by decide +kernel
theorem dX10_comesTo_7 : decode cX10_comesTo 7 = .ok (.ishr, 1) := by decide +kernel
theorem dX10_comesTo_8 : decode cX10_comesTo 8 = .ok (.iconst 1, 1) := by decide +kernel
theorem dX10_comesTo_9 : decode cX10_comesTo 9 = .ok (.iand, 1) := by decide +kernel
theorem dX10_comesTo_10 : decode cX10_comesTo 10 = .ok (.iconst 1, 1) := by decide +kernel
theorem dX10_comesTo_11 : decode cX10_comesTo 11 = .ok (.if_icmp .ne 7, 3) := by decide +kernel
theorem dX10_comesTo_14 : decode cX10_comesTo 14 = .ok (.iconst 1, 1) := by decide +kernel
theorem dX10_comesTo_15 : decode cX10_comesTo 15 = .ok (.goto 4, 3) := by decide +kernel
theorem dX10_comesTo_18 : decode cX10_comesTo 18 = .ok (.iconst 0, 1) := by decide +kernel
theorem dX10_comesTo_19 : decode cX10_comesTo 19 = .ok (.ireturn, 1) := by decide +kernel
theorem dX10_strangers_0 : decode cX10_strangers 0 = .ok (.aload_n 0, 1) := by decide +kernel
theorem dX10_strangers_1 : decode cX10_strangers 1 = .ok (.iload_n 1, 1) := by decide +kernel
theorem dX10_strangers_2 : decode cX10_strangers 2 = .ok (.invokevirtual 167, 3) := by decide +kernel
theorem dX10_strangers_5 : decode cX10_strangers 5 = .ok (.ifCond .ne 16, 3) := by decide +kernel
theorem dX10_strangers_8 : decode cX10_strangers 8 = .ok (.aload_n 0, 1) := by decide +kernel
theorem dX10_strangers_9 : decode cX10_strangers 9 = .ok (.iload_n 2, 1) := by decide +kernel
theorem dX10_strangers_10 : decode cX10_strangers 10 = .ok (.invokevirtual 167, 3) := by decide +kernel
theorem dX10_strangers_13 : decode cX10_strangers 13 = .ok (.ifCond .ne 8, 3) := by decide +kernel
theorem dX10_strangers_16 : decode cX10_strangers 16 = .ok (.iload_n 3, 1) := by decide +kernel
theorem dX10_strangers_17 : decode cX10_strangers 17 = .ok (.iconst (-1), 1) := by decide +kernel
theorem dX10_strangers_18 : decode cX10_strangers 18 = .ok (.if_icmp .ge 5, 3) := by decide +kernel
theorem dX10_strangers_21 : decode cX10_strangers 21 = .ok (.iconst (-1), 1) := by decide +kernel
theorem dX10_strangers_22 : decode cX10_strangers 22 = .ok (.ireturn, 1) := by decide +kernel
theorem dX10_strangers_23 : decode cX10_strangers 23 = .ok (.iconst 0, 1) := by decide +kernel
theorem dX10_strangers_24 : decode cX10_strangers 24 = .ok (.istore 4, 2) := by decide +kernel
theorem dX10_strangers_26 : decode cX10_strangers 26 = .ok (.bipush 10, 2) := by decide +kernel
theorem dX10_strangers_28 : decode cX10_strangers 28 = .ok (.istore 5, 2) := by decide +kernel
theorem dX10_strangers_30 : decode cX10_strangers 30 = .ok (.iload 5, 2) := by decide +kernel
theorem dX10_strangers_32 : decode cX10_strangers 32 = .ok (.bipush 100, 2) := by decide +kernel
theorem dX10_strangers_34 : decode cX10_strangers 34 = .ok (.if_icmp .ge 32, 3) := by decide +kernel
theorem dX10_strangers_37 : decode cX10_strangers 37 = .ok (.aload_n 0, 1) := by decide +kernel
theorem dX10_strangers_38 : decode cX10_strangers 38 = .ok (.iload 5, 2) := by decide +kernel
theorem dX10_strangers_40 : decode cX10_strangers 40 = .ok (.iload_n 1, 1) := by decide +kernel
theorem dX10_strangers_41 : decode cX10_strangers 41 = .ok (.iload_n 2, 1) := by decide +kernel
theorem dX10_strangers_42 : decode cX10_strangers 42 = .ok (.invokevirtual 245, 3) := by decide +kernel
theorem dX10_strangers_45 : decode cX10_strangers 45 = .ok (.ifCond .eq 15, 3) := by decide +kernel
theorem dX10_strangers_48 : decode cX10_strangers 48 = .ok (.iload 4, 2) := by decide +kernel
theorem dX10_strangers_50 : decode cX10_strangers 50 = .ok (.iload_n 3, 1) := by decide +kernel
theorem dX10_strangers_51 : decode cX10_strangers 51 = .ok (.if_icmp .ne 6, 3) := by decide +kernel
theorem dX10_strangers_54 : decode cX10_strangers 54 = .ok (.iload 5, 2) := by decide +kernel
theorem dX10_strangers_56 : decode cX10_strangers 56 = .ok (.ireturn, 1) := by decide +kernel
theorem dX10_strangers_57 : decode cX10_strangers 57 = .ok (.iinc 4 1, 3) := by decide +kernel
theorem dX10_strangers_60 : decode cX10_strangers 60 = .ok (.iinc 5 1, 3) := by decide +kernel
theorem dX10_strangers_63 : decode cX10_strangers 63 = .ok (.goto (-33), 3) := by decide +kernel
theorem dX10_strangers_66 : decode cX10_strangers 66 = .ok (.iload_n 3, 1) := by decide +kernel
theorem dX10_strangers_67 : decode cX10_strangers 67 = .ok (.ifCond .ge 8, 3) := by decide +kernel
theorem dX10_strangers_70 : decode cX10_strangers 70 = .ok (.iload 4, 2) := by decide +kernel
theorem dX10_strangers_72 : decode cX10_strangers 72 = .ok (.goto 5, 3) := by decide +kernel
theorem dX10_strangers_75 : decode cX10_strangers 75 = .ok (.bipush (-9), 2) := by decide +kernel
theorem dX10_strangers_77 : decode cX10_strangers 77 = .ok (.ireturn, 1) := by decide +kernel
theorem dX10_goesWith_0 : decode cX10_goesWith 0 = .ok (.aload_n 0, 1) := by decide +kernel
theorem dX10_goesWith_1 : decode cX10_goesWith 1 = .ok (.aload_n 0, 1) := by decide +kernel
theorem dX10_goesWith_2 : decode cX10_goesWith 2 = .ok (.getfield 28, 3) := by decide +kernel
theorem dX10_goesWith_5 : decode cX10_goesWith 5 = .ok (.iload_n 1, 1) := by decide +kernel
theorem dX10_goesWith_6 : decode cX10_goesWith 6 = .ok (.iaload, 1) := by decide +kernel
theorem dX10_goesWith_7 : decode cX10_goesWith 7 = .ok (.putfield 217, 3) := by decide +kernel
theorem dX10_goesWith_10 : decode cX10_goesWith 10 = .ok (.aload_n 0, 1) := by decide +kernel
theorem dX10_goesWith_11 : decode cX10_goesWith 11 = .ok (.aload_n 0, 1) := by decide +kernel
theorem dX10_goesWith_12 : decode cX10_goesWith 12 = .ok (.getfield 31, 3) := by decide +kernel
theorem dX10_goesWith_15 : decode cX10_goesWith 15 = .ok (.iload_n 1, 1) := by decide +kernel
theorem dX10_goesWith_16 : decode cX10_goesWith 16 = .ok (.iaload, 1) := by decide +kernel
theorem dX10_goesWith_17 : decode cX10_goesWith 17 = .ok (.putfield 207, 3) := by decide +kernel
theorem dX10_goesWith_20 : decode cX10_goesWith 20 = .ok (.aload_n 0, 1) := by decide +kernel
theorem dX10_goesWith_21 : decode cX10_goesWith 21 = .ok (.iload_n 3, 1) := by decide +kernel
theorem dX10_goesWith_22 : decode cX10_goesWith 22 = .ok (.putfield 204, 3) := by decide +kernel
theorem dX10_goesWith_25 : decode cX10_goesWith 25 = .ok (.iconst 0, 1) := by decide +kernel
theorem dX10_goesWith_26 : decode cX10_goesWith 26 = .ok (.istore 6, 2) := by decide +kernel
theorem dX10_goesWith_28 : decode cX10_goesWith 28 = .ok (.iload 6, 2) := by decide +kernel
theorem dX10_goesWith_30 : decode cX10_goesWith 30 = .ok (.iload_n 3, 1) := by decide +kernel
theorem dX10_goesWith_31 : decode cX10_goesWith 31 = .ok (.if_icmp .ge 49, 3) := by decide +kernel
theorem dX10_goesWith_34 : decode cX10_goesWith 34 = .ok (.aload_n 0, 1) := by decide +kernel
theorem dX10_goesWith_35 : decode cX10_goesWith 35 = .ok (.getfield 46, 3) := by decide +kernel
theorem dX10_goesWith_38 : decode cX10_goesWith 38 = .ok (.iload 6, 2) := by decide +kernel
theorem dX10_goesWith_40 : decode cX10_goesWith 40 = .ok (.iconst 1, 1) := by decide +kernel
theorem dX10_goesWith_41 : decode cX10_goesWith 41 = .ok (.bastore, 1) := by decide +kernel
theorem dX10_goesWith_42 : decode cX10_goesWith 42 = .ok (.aload_n 0, 1) := by decide +kernel
theorem dX10_goesWith_43 : decode cX10_goesWith 43 = .ok (.getfield 40, 3) := by decide +kernel
theorem dX10_goesWith_46 : decode cX10_goesWith 46 = .ok (.iload 6, 2) := by decide +kernel
theorem dX10_goesWith_48 : decode cX10_goesWith 48 = .ok (.aload_n 0, 1) := by decide +kernel
theorem dX10_goesWith_49 : decode cX10_goesWith 49 = .ok (.getfield 31, 3) := by decide +kernel
theorem dX10_goesWith_52 : decode cX10_goesWith 52 = .ok (.iload_n 1, 1) := by decide +kernel
theorem dX10_goesWith_53 : decode cX10_goesWith 53 = .ok (.iaload, 1) := by decide +kernel
theorem dX10_goesWith_54 : decode cX10_goesWith 54 = .ok (.iastore, 1) := by decide +kernel
theorem dX10_goesWith_55 : decode cX10_goesWith 55 = .ok (.aload_n 0, 1) := by decide +kernel
theorem dX10_goesWith_56 : decode cX10_goesWith 56 = .ok (.getfield 43, 3) := by decide +kernel
theorem dX10_goesWith_59 : decode cX10_goesWith 59 = .ok (.iload 6, 2) := by decide +kernel
theorem dX10_goesWith_61 : decode cX10_goesWith 61 = .ok (.iload 6, 2) := by decide +kernel
theorem dX10_goesWith_63 : decode cX10_goesWith 63 = .ok (.ifCond .ne 8, 3) := by decide +kernel
theorem dX10_goesWith_66 : decode cX10_goesWith 66 = .ok (.iload 4, 2) := by decide +kernel
theorem dX10_goesWith_68 : decode cX10_goesWith 68 = .ok (.goto 5, 3) := by decide +kernel
theorem dX10_goesWith_71 : decode cX10_goesWith 71 = .ok (.iload 5, 2) := by decide +kernel
theorem dX10_goesWith_73 : decode cX10_goesWith 73 = .ok (.iastore, 1) := by decide +kernel
theorem dX10_goesWith_74 : decode cX10_goesWith 74 = .ok (.iinc 6 1, 3) := by decide +kernel
theorem dX10_goesWith_77 : decode cX10_goesWith 77 = .ok (.goto (-49), 3) := by decide +kernel
theorem dX10_goesWith_80 : decode cX10_goesWith 80 = .ok (.aload_n 0, 1) := by decide +kernel
theorem dX10_goesWith_81 : decode cX10_goesWith 81 = .ok (.iload_n 2, 1) := by decide +kernel
theorem dX10_goesWith_82 : decode cX10_goesWith 82 = .ok (.invokevirtual 237, 3) := by decide +kernel
theorem dX10_goesWith_85 : decode cX10_goesWith 85 = .ok (.ifCond .lt 7, 3) := by decide +kernel
theorem dX10_goesWith_88 : decode cX10_goesWith 88 = .ok (.iconst 1, 1) := by decide +kernel
theorem dX10_goesWith_89 : decode cX10_goesWith 89 = .ok (.goto 4, 3) := by decide +kernel
theorem dX10_goesWith_92 : decode cX10_goesWith 92 = .ok (.iconst 0, 1) := by decide +kernel
theorem dX10_goesWith_93 : decode cX10_goesWith 93 = .ok (.ireturn, 1) := by decide +kernel
theorem dX10_laid_0 : decode cX10_laid 0 = .ok (.aload_n 0, 1) := by decide +kernel
theorem dX10_laid_1 : decode cX10_laid 1 = .ok (.iload_n 1, 1) := by decide +kernel
theorem dX10_laid_2 : decode cX10_laid 2 = .ok (.invokevirtual 176, 3) := by decide +kernel
theorem dX10_laid_5 : decode cX10_laid 5 = .ok (.ifCond .ne 23, 3) := by decide +kernel
theorem dX10_laid_8 : decode cX10_laid 8 = .ok (.aload_n 0, 1) := by decide +kernel
theorem dX10_laid_9 : decode cX10_laid 9 = .ok (.iload_n 2, 1) := by decide +kernel
theorem dX10_laid_10 : decode cX10_laid 10 = .ok (.invokevirtual 167, 3) := by decide +kernel
theorem dX10_laid_13 : decode cX10_laid 13 = .ok (.ifCond .ne 15, 3) := by decide +kernel
theorem dX10_laid_16 : decode cX10_laid 16 = .ok (.iload_n 3, 1) := by decide +kernel
theorem dX10_laid_17 : decode cX10_laid 17 = .ok (.i2l, 1) := by decide +kernel
theorem dX10_laid_18 : decode cX10_laid 18 = .ok (.ldc2_w 248, 3) := by decide +kernel
theorem dX10_laid_21 : decode cX10_laid 21 = .ok (.lconst 1, 1) := by decide +kernel
theorem dX10_laid_22 : decode cX10_laid 22 = .ok (.invokestatic 97, 3) := by decide +kernel
theorem dX10_laid_25 : decode cX10_laid 25 = .ok (.ifCond .ne 5, 3) := by decide +kernel
theorem dX10_laid_28 : decode cX10_laid 28 = .ok (.iconst (-1), 1) := by decide +kernel
theorem dX10_laid_29 : decode cX10_laid 29 = .ok (.ireturn, 1) := by decide +kernel
theorem dX10_laid_30 : decode cX10_laid 30 = .ok (.aload_n 0, 1) := by decide +kernel
theorem dX10_laid_31 : decode cX10_laid 31 = .ok (.iload_n 1, 1) := by decide +kernel
theorem dX10_laid_32 : decode cX10_laid 32 = .ok (.invokevirtual 179, 3) := by decide +kernel
theorem dX10_laid_35 : decode cX10_laid 35 = .ok (.ifCond .eq 6, 3) := by decide +kernel
theorem dX10_laid_38 : decode cX10_laid 38 = .ok (.bipush (-3), 2) := by decide +kernel
theorem dX10_laid_40 : decode cX10_laid 40 = .ok (.ireturn, 1) := by decide +kernel
theorem dX10_laid_41 : decode cX10_laid 41 = .ok (.aload_n 0, 1) := by decide +kernel
theorem dX10_laid_42 : decode cX10_laid 42 = .ok (.iload_n 1, 1) := by decide +kernel
theorem dX10_laid_43 : decode cX10_laid 43 = .ok (.iload_n 2, 1) := by decide +kernel
theorem dX10_laid_44 : decode cX10_laid 44 = .ok (.iconst 0, 1) := by decide +kernel
theorem dX10_laid_45 : decode cX10_laid 45 = .ok (.iconst 0, 1) := by decide +kernel
theorem dX10_laid_46 : decode cX10_laid 46 = .ok (.iconst 0, 1) := by decide +kernel
theorem dX10_laid_47 : decode cX10_laid 47 = .ok (.invokevirtual 250, 3) := by decide +kernel
theorem dX10_laid_50 : decode cX10_laid 50 = .ok (.ifCond .eq 14, 3) := by decide +kernel
theorem dX10_laid_53 : decode cX10_laid 53 = .ok (.iload_n 3, 1) := by decide +kernel
theorem dX10_laid_54 : decode cX10_laid 54 = .ok (.ifCond .ge 7, 3) := by decide +kernel
theorem dX10_laid_57 : decode cX10_laid 57 = .ok (.iconst 0, 1) := by decide +kernel
theorem dX10_laid_58 : decode cX10_laid 58 = .ok (.goto 5, 3) := by decide +kernel
theorem dX10_laid_61 : decode cX10_laid 61 = .ok (.bipush (-9), 2) := by decide +kernel
theorem dX10_laid_63 : decode cX10_laid 63 = .ok (.ireturn, 1) := by decide +kernel
theorem dX10_laid_64 : decode cX10_laid 64 = .ok (.iconst 1, 1) := by decide +kernel
theorem dX10_laid_65 : decode cX10_laid 65 = .ok (.istore 4, 2) := by decide +kernel
theorem dX10_laid_67 : decode cX10_laid 67 = .ok (.iload 4, 2) := by decide +kernel
theorem dX10_laid_69 : decode cX10_laid 69 = .ok (.bipush 21, 2) := by decide +kernel
theorem dX10_laid_71 : decode cX10_laid 71 = .ok (.if_icmp .ge 42, 3) := by decide +kernel
theorem dX10_laid_74 : decode cX10_laid 74 = .ok (.aload_n 0, 1) := by decide +kernel
theorem dX10_laid_75 : decode cX10_laid 75 = .ok (.iload_n 1, 1) := by decide +kernel
theorem dX10_laid_76 : decode cX10_laid 76 = .ok (.iload_n 2, 1) := by decide +kernel
theorem dX10_laid_77 : decode cX10_laid 77 = .ok (.iconst 1, 1) := by decide +kernel
theorem dX10_laid_78 : decode cX10_laid 78 = .ok (.iload 4, 2) := by decide +kernel
theorem dX10_laid_80 : decode cX10_laid 80 = .ok (.iconst 0, 1) := by decide +kernel
theorem dX10_laid_81 : decode cX10_laid 81 = .ok (.invokevirtual 250, 3) := by decide +kernel
theorem dX10_laid_84 : decode cX10_laid 84 = .ok (.ifCond .eq 23, 3) := by decide +kernel
theorem dX10_laid_87 : decode cX10_laid 87 = .ok (.iload_n 3, 1) := by decide +kernel
theorem dX10_laid_88 : decode cX10_laid 88 = .ok (.ifCond .ge 7, 3) := by decide +kernel
theorem dX10_laid_91 : decode cX10_laid 91 = .ok (.iconst 1, 1) := by decide +kernel
theorem dX10_laid_92 : decode cX10_laid 92 = .ok (.goto 14, 3) := by decide +kernel
theorem dX10_laid_95 : decode cX10_laid 95 = .ok (.iload_n 3, 1) := by decide +kernel
theorem dX10_laid_96 : decode cX10_laid 96 = .ok (.ifCond .ne 8, 3) := by decide +kernel
theorem dX10_laid_99 : decode cX10_laid 99 = .ok (.iload 4, 2) := by decide +kernel
theorem dX10_laid_101 : decode cX10_laid 101 = .ok (.goto 5, 3) := by decide +kernel
theorem dX10_laid_104 : decode cX10_laid 104 = .ok (.bipush (-9), 2) := by decide +kernel
theorem dX10_laid_106 : decode cX10_laid 106 = .ok (.ireturn, 1) := by decide +kernel
theorem dX10_laid_107 : decode cX10_laid 107 = .ok (.iinc 4 1, 3) := by decide +kernel
theorem dX10_laid_110 : decode cX10_laid 110 = .ok (.goto (-43), 3) := by decide +kernel
theorem dX10_laid_113 : decode cX10_laid 113 = .ok (.iconst 1, 1) := by decide +kernel
theorem dX10_laid_114 : decode cX10_laid 114 = .ok (.istore 4, 2) := by decide +kernel
theorem dX10_laid_116 : decode cX10_laid 116 = .ok (.iload 4, 2) := by decide +kernel
theorem dX10_laid_118 : decode cX10_laid 118 = .ok (.bipush 21, 2) := by decide +kernel
theorem dX10_laid_120 : decode cX10_laid 120 = .ok (.if_icmp .ge 60, 3) := by decide +kernel
theorem dX10_laid_123 : decode cX10_laid 123 = .ok (.iload 4, 2) := by decide +kernel
theorem dX10_laid_125 : decode cX10_laid 125 = .ok (.istore 5, 2) := by decide +kernel
theorem dX10_laid_127 : decode cX10_laid 127 = .ok (.iload 5, 2) := by decide +kernel
theorem dX10_laid_129 : decode cX10_laid 129 = .ok (.bipush 21, 2) := by decide +kernel
theorem dX10_laid_131 : decode cX10_laid 131 = .ok (.if_icmp .ge 43, 3) := by decide +kernel
theorem dX10_laid_134 : decode cX10_laid 134 = .ok (.aload_n 0, 1) := by decide +kernel
theorem dX10_laid_135 : decode cX10_laid 135 = .ok (.iload_n 1, 1) := by decide +kernel
theorem dX10_laid_136 : decode cX10_laid 136 = .ok (.iload_n 2, 1) := by decide +kernel
theorem dX10_laid_137 : decode cX10_laid 137 = .ok (.iconst 2, 1) := by decide +kernel
theorem dX10_laid_138 : decode cX10_laid 138 = .ok (.iload 4, 2) := by decide +kernel
theorem dX10_laid_140 : decode cX10_laid 140 = .ok (.iload 5, 2) := by decide +kernel
theorem dX10_laid_142 : decode cX10_laid 142 = .ok (.invokevirtual 250, 3) := by decide +kernel
theorem dX10_laid_145 : decode cX10_laid 145 = .ok (.ifCond .eq 23, 3) := by decide +kernel
theorem dX10_laid_148 : decode cX10_laid 148 = .ok (.iload_n 3, 1) := by decide +kernel
theorem dX10_laid_149 : decode cX10_laid 149 = .ok (.ifCond .ge 7, 3) := by decide +kernel
theorem dX10_laid_152 : decode cX10_laid 152 = .ok (.iconst 2, 1) := by decide +kernel
theorem dX10_laid_153 : decode cX10_laid 153 = .ok (.goto 14, 3) := by decide +kernel
theorem dX10_laid_156 : decode cX10_laid 156 = .ok (.iload_n 3, 1) := by decide +kernel
theorem dX10_laid_157 : decode cX10_laid 157 = .ok (.ifCond .ne 8, 3) := by decide +kernel
theorem dX10_laid_160 : decode cX10_laid 160 = .ok (.iload 4, 2) := by decide +kernel
theorem dX10_laid_162 : decode cX10_laid 162 = .ok (.goto 5, 3) := by decide +kernel
theorem dX10_laid_165 : decode cX10_laid 165 = .ok (.iload 5, 2) := by decide +kernel
theorem dX10_laid_167 : decode cX10_laid 167 = .ok (.ireturn, 1) := by decide +kernel
theorem dX10_laid_168 : decode cX10_laid 168 = .ok (.iinc 5 1, 3) := by decide +kernel
theorem dX10_laid_171 : decode cX10_laid 171 = .ok (.goto (-44), 3) := by decide +kernel
theorem dX10_laid_174 : decode cX10_laid 174 = .ok (.iinc 4 1, 3) := by decide +kernel
theorem dX10_laid_177 : decode cX10_laid 177 = .ok (.goto (-61), 3) := by decide +kernel
theorem dX10_laid_180 : decode cX10_laid 180 = .ok (.bipush (-9), 2) := by decide +kernel
theorem dX10_laid_182 : decode cX10_laid 182 = .ok (.ireturn, 1) := by decide +kernel
theorem dX10_guest_0 : decode cX10_guest 0 = .ok (.aload_n 0, 1) := by decide +kernel
theorem dX10_guest_1 : decode cX10_guest 1 = .ok (.iload_n 1, 1) := by decide +kernel
theorem dX10_guest_2 : decode cX10_guest 2 = .ok (.invokevirtual 176, 3) := by decide +kernel
theorem dX10_guest_5 : decode cX10_guest 5 = .ok (.ifCond .ne 11, 3) := by decide +kernel
theorem dX10_guest_8 : decode cX10_guest 8 = .ok (.aload_n 0, 1) := by decide +kernel
theorem dX10_guest_9 : decode cX10_guest 9 = .ok (.iload_n 2, 1) := by decide +kernel
theorem dX10_guest_10 : decode cX10_guest 10 = .ok (.invokevirtual 167, 3) := by decide +kernel
theorem dX10_guest_13 : decode cX10_guest 13 = .ok (.ifCond .eq 5, 3) := by decide +kernel
theorem dX10_guest_16 : decode cX10_guest 16 = .ok (.iconst (-1), 1) := by decide +kernel
theorem dX10_guest_17 : decode cX10_guest 17 = .ok (.ireturn, 1) := by decide +kernel
theorem dX10_guest_18 : decode cX10_guest 18 = .ok (.iconst 0, 1) := by decide +kernel
theorem dX10_guest_19 : decode cX10_guest 19 = .ok (.istore_n 3, 1) := by decide +kernel
theorem dX10_guest_20 : decode cX10_guest 20 = .ok (.iload_n 3, 1) := by decide +kernel
theorem dX10_guest_21 : decode cX10_guest 21 = .ok (.bipush 31, 2) := by decide +kernel
theorem dX10_guest_23 : decode cX10_guest 23 = .ok (.if_icmp .ge 74, 3) := by decide +kernel
theorem dX10_guest_26 : decode cX10_guest 26 = .ok (.aload_n 0, 1) := by decide +kernel
theorem dX10_guest_27 : decode cX10_guest 27 = .ok (.getfield 28, 3) := by decide +kernel
theorem dX10_guest_30 : decode cX10_guest 30 = .ok (.iload_n 1, 1) := by decide +kernel
theorem dX10_guest_31 : decode cX10_guest 31 = .ok (.iaload, 1) := by decide +kernel
theorem dX10_guest_32 : decode cX10_guest 32 = .ok (.iload_n 3, 1) := by decide +kernel
theorem dX10_guest_33 : decode cX10_guest 33 = .ok (.isub, 1) := by decide +kernel
theorem dX10_guest_34 : decode cX10_guest 34 = .ok (.ifCond .le 30, 3) := by decide +kernel
theorem dX10_guest_37 : decode cX10_guest 37 = .ok (.aload_n 0, 1) := by decide +kernel
theorem dX10_guest_38 : decode cX10_guest 38 = .ok (.aload_n 0, 1) := by decide +kernel
theorem dX10_guest_39 : decode cX10_guest 39 = .ok (.getfield 28, 3) := by decide +kernel
theorem dX10_guest_42 : decode cX10_guest 42 = .ok (.iload_n 1, 1) := by decide +kernel
theorem dX10_guest_43 : decode cX10_guest 43 = .ok (.iaload, 1) := by decide +kernel
theorem dX10_guest_44 : decode cX10_guest 44 = .ok (.iload_n 3, 1) := by decide +kernel
theorem dX10_guest_45 : decode cX10_guest 45 = .ok (.isub, 1) := by decide +kernel
theorem dX10_guest_46 : decode cX10_guest 46 = .ok (.aload_n 0, 1) := by decide +kernel
theorem dX10_guest_47 : decode cX10_guest 47 = .ok (.getfield 31, 3) := by decide +kernel
theorem dX10_guest_50 : decode cX10_guest 50 = .ok (.iload_n 1, 1) := by decide +kernel
theorem dX10_guest_51 : decode cX10_guest 51 = .ok (.iaload, 1) := by decide +kernel
theorem dX10_guest_52 : decode cX10_guest 52 = .ok (.iload_n 2, 1) := by decide +kernel
theorem dX10_guest_53 : decode cX10_guest 53 = .ok (.invokevirtual 245, 3) := by decide +kernel
theorem dX10_guest_56 : decode cX10_guest 56 = .ok (.ifCond .eq 8, 3) := by decide +kernel
theorem dX10_guest_59 : decode cX10_guest 59 = .ok (.bipush 100, 2) := by decide +kernel
theorem dX10_guest_61 : decode cX10_guest 61 = .ok (.iload_n 3, 1) := by decide +kernel
theorem dX10_guest_62 : decode cX10_guest 62 = .ok (.isub, 1) := by decide +kernel
theorem dX10_guest_63 : decode cX10_guest 63 = .ok (.ireturn, 1) := by decide +kernel
theorem dX10_guest_64 : decode cX10_guest 64 = .ok (.aload_n 0, 1) := by decide +kernel
theorem dX10_guest_65 : decode cX10_guest 65 = .ok (.aload_n 0, 1) := by decide +kernel
theorem dX10_guest_66 : decode cX10_guest 66 = .ok (.getfield 28, 3) := by decide +kernel
theorem dX10_guest_69 : decode cX10_guest 69 = .ok (.iload_n 1, 1) := by decide +kernel
theorem dX10_guest_70 : decode cX10_guest 70 = .ok (.iaload, 1) := by decide +kernel
theorem dX10_guest_71 : decode cX10_guest 71 = .ok (.iload_n 3, 1) := by decide +kernel
theorem dX10_guest_72 : decode cX10_guest 72 = .ok (.iadd, 1) := by decide +kernel
theorem dX10_guest_73 : decode cX10_guest 73 = .ok (.aload_n 0, 1) := by decide +kernel
theorem dX10_guest_74 : decode cX10_guest 74 = .ok (.getfield 31, 3) := by decide +kernel
theorem dX10_guest_77 : decode cX10_guest 77 = .ok (.iload_n 1, 1) := by decide +kernel
theorem dX10_guest_78 : decode cX10_guest 78 = .ok (.iaload, 1) := by decide +kernel
theorem dX10_guest_79 : decode cX10_guest 79 = .ok (.iload_n 2, 1) := by decide +kernel
theorem dX10_guest_80 : decode cX10_guest 80 = .ok (.invokevirtual 245, 3) := by decide +kernel
theorem dX10_guest_83 : decode cX10_guest 83 = .ok (.ifCond .eq 8, 3) := by decide +kernel
theorem dX10_guest_86 : decode cX10_guest 86 = .ok (.bipush 100, 2) := by decide +kernel
theorem dX10_guest_88 : decode cX10_guest 88 = .ok (.iload_n 3, 1) := by decide +kernel
theorem dX10_guest_89 : decode cX10_guest 89 = .ok (.iadd, 1) := by decide +kernel
theorem dX10_guest_90 : decode cX10_guest 90 = .ok (.ireturn, 1) := by decide +kernel
theorem dX10_guest_91 : decode cX10_guest 91 = .ok (.iinc 3 1, 3) := by decide +kernel
theorem dX10_guest_94 : decode cX10_guest 94 = .ok (.goto (-74), 3) := by decide +kernel
theorem dX10_guest_97 : decode cX10_guest 97 = .ok (.bipush (-9), 2) := by decide +kernel
theorem dX10_guest_99 : decode cX10_guest 99 = .ok (.ireturn, 1) := by decide +kernel
theorem dX10_passesAll_0 : decode cX10_passesAll 0 = .ok (.iload_n 2, 1) := by decide +kernel
theorem dX10_passesAll_1 : decode cX10_passesAll 1 = .ok (.istore 5, 2) := by decide +kernel
theorem dX10_passesAll_3 : decode cX10_passesAll 3 = .ok (.iconst 0, 1) := by decide +kernel
theorem dX10_passesAll_4 : decode cX10_passesAll 4 = .ok (.istore 6, 2) := by decide +kernel
theorem dX10_passesAll_6 : decode cX10_passesAll 6 = .ok (.iload 6, 2) := by decide +kernel
theorem dX10_passesAll_8 : decode cX10_passesAll 8 = .ok (.iload 4, 2) := by decide +kernel
theorem dX10_passesAll_10 : decode cX10_passesAll 10 = .ok (.if_icmp .ge 32, 3) := by decide +kernel
theorem dX10_passesAll_13 : decode cX10_passesAll 13 = .ok (.iload 5, 2) := by decide +kernel
theorem dX10_passesAll_15 : decode cX10_passesAll 15 = .ok (.ifCond .lt 27, 3) := by decide +kernel
theorem dX10_passesAll_18 : decode cX10_passesAll 18 = .ok (.aload_n 0, 1) := by decide +kernel
theorem dX10_passesAll_19 : decode cX10_passesAll 19 = .ok (.aload_n 0, 1) := by decide +kernel
theorem dX10_passesAll_20 : decode cX10_passesAll 20 = .ok (.getfield 71, 3) := by decide +kernel
theorem dX10_passesAll_23 : decode cX10_passesAll 23 = .ok (.iload_n 3, 1) := by decide +kernel
theorem dX10_passesAll_24 : decode cX10_passesAll 24 = .ok (.iload 6, 2) := by decide +kernel
theorem dX10_passesAll_26 : decode cX10_passesAll 26 = .ok (.iadd, 1) := by decide +kernel
theorem dX10_passesAll_27 : decode cX10_passesAll 27 = .ok (.iaload, 1) := by decide +kernel
theorem dX10_passesAll_28 : decode cX10_passesAll 28 = .ok (.iload 5, 2) := by decide +kernel
theorem dX10_passesAll_30 : decode cX10_passesAll 30 = .ok (.iload_n 1, 1) := by decide +kernel
theorem dX10_passesAll_31 : decode cX10_passesAll 31 = .ok (.invokevirtual 200, 3) := by decide +kernel
theorem dX10_passesAll_34 : decode cX10_passesAll 34 = .ok (.istore 5, 2) := by decide +kernel
theorem dX10_passesAll_36 : decode cX10_passesAll 36 = .ok (.iinc 6 1, 3) := by decide +kernel
theorem dX10_passesAll_39 : decode cX10_passesAll 39 = .ok (.goto (-33), 3) := by decide +kernel
theorem dX10_passesAll_42 : decode cX10_passesAll 42 = .ok (.iload 5, 2) := by decide +kernel
theorem dX10_passesAll_44 : decode cX10_passesAll 44 = .ok (.ifCond .lt 7, 3) := by decide +kernel
theorem dX10_passesAll_47 : decode cX10_passesAll 47 = .ok (.iconst 1, 1) := by decide +kernel
theorem dX10_passesAll_48 : decode cX10_passesAll 48 = .ok (.goto 4, 3) := by decide +kernel
theorem dX10_passesAll_51 : decode cX10_passesAll 51 = .ok (.iconst 0, 1) := by decide +kernel
theorem dX10_passesAll_52 : decode cX10_passesAll 52 = .ok (.ireturn, 1) := by decide +kernel
theorem dX10_areDoors_0 : decode cX10_areDoors 0 = .ok (.iconst 1, 1) := by decide +kernel
theorem dX10_areDoors_1 : decode cX10_areDoors 1 = .ok (.istore_n 3, 1) := by decide +kernel
theorem dX10_areDoors_2 : decode cX10_areDoors 2 = .ok (.iconst 0, 1) := by decide +kernel
theorem dX10_areDoors_3 : decode cX10_areDoors 3 = .ok (.istore 4, 2) := by decide +kernel
theorem dX10_areDoors_5 : decode cX10_areDoors 5 = .ok (.iload 4, 2) := by decide +kernel
theorem dX10_areDoors_7 : decode cX10_areDoors 7 = .ok (.iload_n 2, 1) := by decide +kernel
theorem dX10_areDoors_8 : decode cX10_areDoors 8 = .ok (.if_icmp .ge 35, 3) := by decide +kernel
theorem dX10_areDoors_11 : decode cX10_areDoors 11 = .ok (.iload_n 3, 1) := by decide +kernel
theorem dX10_areDoors_12 : decode cX10_areDoors 12 = .ok (.ifCond .eq 23, 3) := by decide +kernel
theorem dX10_areDoors_15 : decode cX10_areDoors 15 = .ok (.aload_n 0, 1) := by decide +kernel
theorem dX10_areDoors_16 : decode cX10_areDoors 16 = .ok (.aload_n 0, 1) := by decide +kernel
theorem dX10_areDoors_17 : decode cX10_areDoors 17 = .ok (.getfield 71, 3) := by decide +kernel
theorem dX10_areDoors_20 : decode cX10_areDoors 20 = .ok (.iload_n 1, 1) := by decide +kernel
theorem dX10_areDoors_21 : decode cX10_areDoors 21 = .ok (.iload 4, 2) := by decide +kernel
theorem dX10_areDoors_23 : decode cX10_areDoors 23 = .ok (.iadd, 1) := by decide +kernel
theorem dX10_areDoors_24 : decode cX10_areDoors 24 = .ok (.iaload, 1) := by decide +kernel
theorem dX10_areDoors_25 : decode cX10_areDoors 25 = .ok (.invokevirtual 164, 3) := by decide +kernel
theorem dX10_areDoors_28 : decode cX10_areDoors 28 = .ok (.ifCond .ne 7, 3) := by decide +kernel
theorem dX10_areDoors_31 : decode cX10_areDoors 31 = .ok (.iconst 1, 1) := by decide +kernel
theorem dX10_areDoors_32 : decode cX10_areDoors 32 = .ok (.goto 4, 3) := by decide +kernel
theorem dX10_areDoors_35 : decode cX10_areDoors 35 = .ok (.iconst 0, 1) := by decide +kernel
theorem dX10_areDoors_36 : decode cX10_areDoors 36 = .ok (.istore_n 3, 1) := by decide +kernel
theorem dX10_areDoors_37 : decode cX10_areDoors 37 = .ok (.iinc 4 1, 3) := by decide +kernel
theorem dX10_areDoors_40 : decode cX10_areDoors 40 = .ok (.goto (-35), 3) := by decide +kernel
theorem dX10_areDoors_43 : decode cX10_areDoors 43 = .ok (.iload_n 3, 1) := by decide +kernel
theorem dX10_areDoors_44 : decode cX10_areDoors 44 = .ok (.ireturn, 1) := by decide +kernel
theorem dX10_heard_0 : decode cX10_heard 0 = .ok (.aload_n 0, 1) := by decide +kernel
theorem dX10_heard_1 : decode cX10_heard 1 = .ok (.iload_n 1, 1) := by decide +kernel
theorem dX10_heard_2 : decode cX10_heard 2 = .ok (.iload_n 2, 1) := by decide +kernel
theorem dX10_heard_3 : decode cX10_heard 3 = .ok (.iload_n 3, 1) := by decide +kernel
theorem dX10_heard_4 : decode cX10_heard 4 = .ok (.iload 4, 2) := by decide +kernel
theorem dX10_heard_6 : decode cX10_heard 6 = .ok (.i2l, 1) := by decide +kernel
theorem dX10_heard_7 : decode cX10_heard 7 = .ok (.invokevirtual 138, 3) := by decide +kernel
theorem dX10_heard_10 : decode cX10_heard 10 = .ok (.istore 5, 2) := by decide +kernel
theorem dX10_heard_12 : decode cX10_heard 12 = .ok (.iload 5, 2) := by decide +kernel
theorem dX10_heard_14 : decode cX10_heard 14 = .ok (.ifCond .ge 6, 3) := by decide +kernel
theorem dX10_heard_17 : decode cX10_heard 17 = .ok (.iload 5, 2) := by decide +kernel
theorem dX10_heard_19 : decode cX10_heard 19 = .ok (.ireturn, 1) := by decide +kernel
theorem dX10_heard_20 : decode cX10_heard 20 = .ok (.bipush 60, 2) := by decide +kernel
theorem dX10_heard_22 : decode cX10_heard 22 = .ok (.iload_n 1, 1) := by decide +kernel
theorem dX10_heard_23 : decode cX10_heard 23 = .ok (.imul, 1) := by decide +kernel
theorem dX10_heard_24 : decode cX10_heard 24 = .ok (.iload_n 3, 1) := by decide +kernel
theorem dX10_heard_25 : decode cX10_heard 25 = .ok (.iadd, 1) := by decide +kernel
theorem dX10_heard_26 : decode cX10_heard 26 = .ok (.istore 6, 2) := by decide +kernel
theorem dX10_heard_28 : decode cX10_heard 28 = .ok (.aload_n 0, 1) := by decide +kernel
theorem dX10_heard_29 : decode cX10_heard 29 = .ok (.iload 6, 2) := by decide +kernel
theorem dX10_heard_31 : decode cX10_heard 31 = .ok (.iload 4, 2) := by decide +kernel
theorem dX10_heard_33 : decode cX10_heard 33 = .ok (.invokevirtual 254, 3) := by decide +kernel
theorem dX10_heard_36 : decode cX10_heard 36 = .ok (.ifCond .ne 9, 3) := by decide +kernel
theorem dX10_heard_39 : decode cX10_heard 39 = .ok (.aload_n 0, 1) := by decide +kernel
theorem dX10_heard_40 : decode cX10_heard 40 = .ok (.iconst (-1), 1) := by decide +kernel
theorem dX10_heard_41 : decode cX10_heard 41 = .ok (.invokevirtual 91, 3) := by decide +kernel
theorem dX10_heard_44 : decode cX10_heard 44 = .ok (.ireturn, 1) := by decide +kernel
theorem dX10_heard_45 : decode cX10_heard 45 = .ok (.iconst 0, 1) := by decide +kernel
theorem dX10_heard_46 : decode cX10_heard 46 = .ok (.istore 7, 2) := by decide +kernel
theorem dX10_heard_48 : decode cX10_heard 48 = .ok (.iconst 0, 1) := by decide +kernel
theorem dX10_heard_49 : decode cX10_heard 49 = .ok (.istore 8, 2) := by decide +kernel
theorem dX10_heard_51 : decode cX10_heard 51 = .ok (.iload 8, 2) := by decide +kernel
theorem dX10_heard_53 : decode cX10_heard 53 = .ok (.aload_n 0, 1) := by decide +kernel
theorem dX10_heard_54 : decode cX10_heard 54 = .ok (.getfield 145, 3) := by decide +kernel
theorem dX10_heard_57 : decode cX10_heard 57 = .ok (.if_icmp .ge 46, 3) := by decide +kernel
theorem dX10_heard_60 : decode cX10_heard 60 = .ok (.iload 7, 2) := by decide +kernel
theorem dX10_heard_62 : decode cX10_heard 62 = .ok (.aload_n 0, 1) := by decide +kernel
theorem dX10_heard_63 : decode cX10_heard 63 = .ok (.aload_n 0, 1) := by decide +kernel
theorem dX10_heard_64 : decode cX10_heard 64 = .ok (.iload 8, 2) := by decide +kernel
theorem dX10_heard_66 : decode cX10_heard 66 = .ok (.invokevirtual 182, 3) := by decide +kernel
theorem dX10_heard_69 : decode cX10_heard 69 = .ok (.aload_n 0, 1) := by decide +kernel
theorem dX10_heard_70 : decode cX10_heard 70 = .ok (.getfield 31, 3) := by decide +kernel
theorem dX10_heard_73 : decode cX10_heard 73 = .ok (.iload 8, 2) := by decide +kernel
theorem dX10_heard_75 : decode cX10_heard 75 = .ok (.iaload, 1) := by decide +kernel
theorem dX10_heard_76 : decode cX10_heard 76 = .ok (.iload 6, 2) := by decide +kernel
theorem dX10_heard_78 : decode cX10_heard 78 = .ok (.iload 4, 2) := by decide +kernel
theorem dX10_heard_80 : decode cX10_heard 80 = .ok (.invokevirtual 257, 3) := by decide +kernel
theorem dX10_heard_83 : decode cX10_heard 83 = .ok (.ifCond .eq 10, 3) := by decide +kernel
theorem dX10_heard_86 : decode cX10_heard 86 = .ok (.iconst 1, 1) := by decide +kernel
theorem dX10_heard_87 : decode cX10_heard 87 = .ok (.iload 8, 2) := by decide +kernel
theorem dX10_heard_89 : decode cX10_heard 89 = .ok (.ishl, 1) := by decide +kernel
theorem dX10_heard_90 : decode cX10_heard 90 = .ok (.goto 4, 3) := by decide +kernel
theorem dX10_heard_93 : decode cX10_heard 93 = .ok (.iconst 0, 1) := by decide +kernel
theorem dX10_heard_94 : decode cX10_heard 94 = .ok (.ior, 1) := by decide +kernel
theorem dX10_heard_95 : decode cX10_heard 95 = .ok (.istore 7, 2) := by decide +kernel
theorem dX10_heard_97 : decode cX10_heard 97 = .ok (.iinc 8 1, 3) := by decide +kernel
theorem dX10_heard_100 : decode cX10_heard 100 = .ok (.goto (-49), 3) := by decide +kernel
theorem dX10_heard_103 : decode cX10_heard 103 = .ok (.aload_n 0, 1) := by decide +kernel
theorem dX10_heard_104 : decode cX10_heard 104 = .ok (.iload 7, 2) := by decide +kernel
theorem dX10_heard_106 : decode cX10_heard 106 = .ok (.invokevirtual 91, 3) := by decide +kernel
theorem dX10_heard_109 : decode cX10_heard 109 = .ok (.ireturn, 1) := by decide +kernel
theorem dX10_byStrangers_0 : decode cX10_byStrangers 0 = .ok (.aload_n 0, 1) := by decide +kernel
theorem dX10_byStrangers_1 : decode cX10_byStrangers 1 = .ok (.iload_n 1, 1) := by decide +kernel
theorem dX10_byStrangers_2 : decode cX10_byStrangers 2 = .ok (.invokevirtual 167, 3) := by decide +kernel
theorem dX10_byStrangers_5 : decode cX10_byStrangers 5 = .ok (.ifCond .eq 9, 3) := by decide +kernel
theorem dX10_byStrangers_8 : decode cX10_byStrangers 8 = .ok (.aload_n 0, 1) := by decide +kernel
theorem dX10_byStrangers_9 : decode cX10_byStrangers 9 = .ok (.iconst (-1), 1) := by decide +kernel
theorem dX10_byStrangers_10 : decode cX10_byStrangers 10 = .ok (.invokevirtual 91, 3) := by decide +kernel
theorem dX10_byStrangers_13 : decode cX10_byStrangers 13 = .ok (.ireturn, 1) := by decide +kernel
theorem dX10_byStrangers_14 : decode cX10_byStrangers 14 = .ok (.aload_n 0, 1) := by decide +kernel
theorem dX10_byStrangers_15 : decode cX10_byStrangers 15 = .ok (.iload_n 2, 1) := by decide +kernel
theorem dX10_byStrangers_16 : decode cX10_byStrangers 16 = .ok (.iload_n 3, 1) := by decide +kernel
theorem dX10_byStrangers_17 : decode cX10_byStrangers 17 = .ok (.iload 4, 2) := by decide +kernel
theorem dX10_byStrangers_19 : decode cX10_byStrangers 19 = .ok (.iload 5, 2) := by decide +kernel
theorem dX10_byStrangers_21 : decode cX10_byStrangers 21 = .ok (.i2l, 1) := by decide +kernel
theorem dX10_byStrangers_22 : decode cX10_byStrangers 22 = .ok (.invokevirtual 138, 3) := by decide +kernel
theorem dX10_byStrangers_25 : decode cX10_byStrangers 25 = .ok (.istore 6, 2) := by decide +kernel
theorem dX10_byStrangers_27 : decode cX10_byStrangers 27 = .ok (.iload 6, 2) := by decide +kernel
theorem dX10_byStrangers_29 : decode cX10_byStrangers 29 = .ok (.ifCond .ge 6, 3) := by decide +kernel
theorem dX10_byStrangers_32 : decode cX10_byStrangers 32 = .ok (.iload 6, 2) := by decide +kernel
theorem dX10_byStrangers_34 : decode cX10_byStrangers 34 = .ok (.ireturn, 1) := by decide +kernel
theorem dX10_byStrangers_35 : decode cX10_byStrangers 35 = .ok (.bipush 60, 2) := by decide +kernel
theorem dX10_byStrangers_37 : decode cX10_byStrangers 37 = .ok (.iload_n 2, 1) := by decide +kernel
theorem dX10_byStrangers_38 : decode cX10_byStrangers 38 = .ok (.imul, 1) := by decide +kernel
theorem dX10_byStrangers_39 : decode cX10_byStrangers 39 = .ok (.iload 4, 2) := by decide +kernel
theorem dX10_byStrangers_41 : decode cX10_byStrangers 41 = .ok (.iadd, 1) := by decide +kernel
theorem dX10_byStrangers_42 : decode cX10_byStrangers 42 = .ok (.istore 7, 2) := by decide +kernel
theorem dX10_byStrangers_44 : decode cX10_byStrangers 44 = .ok (.aload_n 0, 1) := by decide +kernel
theorem dX10_byStrangers_45 : decode cX10_byStrangers 45 = .ok (.iload 7, 2) := by decide +kernel
theorem dX10_byStrangers_47 : decode cX10_byStrangers 47 = .ok (.iload 5, 2) := by decide +kernel
theorem dX10_byStrangers_49 : decode cX10_byStrangers 49 = .ok (.invokevirtual 254, 3) := by decide +kernel
theorem dX10_byStrangers_52 : decode cX10_byStrangers 52 = .ok (.ifCond .ne 9, 3) := by decide +kernel
theorem dX10_byStrangers_55 : decode cX10_byStrangers 55 = .ok (.aload_n 0, 1) := by decide +kernel
theorem dX10_byStrangers_56 : decode cX10_byStrangers 56 = .ok (.iconst (-1), 1) := by decide +kernel
theorem dX10_byStrangers_57 : decode cX10_byStrangers 57 = .ok (.invokevirtual 91, 3) := by decide +kernel
theorem dX10_byStrangers_60 : decode cX10_byStrangers 60 = .ok (.ireturn, 1) := by decide +kernel
theorem dX10_byStrangers_61 : decode cX10_byStrangers 61 = .ok (.iconst 0, 1) := by decide +kernel
theorem dX10_byStrangers_62 : decode cX10_byStrangers 62 = .ok (.istore 8, 2) := by decide +kernel
theorem dX10_byStrangers_64 : decode cX10_byStrangers 64 = .ok (.bipush 10, 2) := by decide +kernel
theorem dX10_byStrangers_66 : decode cX10_byStrangers 66 = .ok (.istore 9, 2) := by decide +kernel
theorem dX10_byStrangers_68 : decode cX10_byStrangers 68 = .ok (.iload 9, 2) := by decide +kernel
theorem dX10_byStrangers_70 : decode cX10_byStrangers 70 = .ok (.bipush 100, 2) := by decide +kernel
theorem dX10_byStrangers_72 : decode cX10_byStrangers 72 = .ok (.if_icmp .ge 33, 3) := by decide +kernel
theorem dX10_byStrangers_75 : decode cX10_byStrangers 75 = .ok (.iload 8, 2) := by decide +kernel
theorem dX10_byStrangers_77 : decode cX10_byStrangers 77 = .ok (.aload_n 0, 1) := by decide +kernel
theorem dX10_byStrangers_78 : decode cX10_byStrangers 78 = .ok (.iload 9, 2) := by decide +kernel
theorem dX10_byStrangers_80 : decode cX10_byStrangers 80 = .ok (.iload_n 1, 1) := by decide +kernel
theorem dX10_byStrangers_81 : decode cX10_byStrangers 81 = .ok (.iload 7, 2) := by decide +kernel
theorem dX10_byStrangers_83 : decode cX10_byStrangers 83 = .ok (.iload 5, 2) := by decide +kernel
theorem dX10_byStrangers_85 : decode cX10_byStrangers 85 = .ok (.invokevirtual 257, 3) := by decide +kernel
theorem dX10_byStrangers_88 : decode cX10_byStrangers 88 = .ok (.ifCond .eq 7, 3) := by decide +kernel
theorem dX10_byStrangers_91 : decode cX10_byStrangers 91 = .ok (.iconst 1, 1) := by decide +kernel
theorem dX10_byStrangers_92 : decode cX10_byStrangers 92 = .ok (.goto 4, 3) := by decide +kernel
theorem dX10_byStrangers_95 : decode cX10_byStrangers 95 = .ok (.iconst 0, 1) := by decide +kernel
theorem dX10_byStrangers_96 : decode cX10_byStrangers 96 = .ok (.iadd, 1) := by decide +kernel
theorem dX10_byStrangers_97 : decode cX10_byStrangers 97 = .ok (.istore 8, 2) := by decide +kernel
theorem dX10_byStrangers_99 : decode cX10_byStrangers 99 = .ok (.iinc 9 1, 3) := by decide +kernel
theorem dX10_byStrangers_102 : decode cX10_byStrangers 102 = .ok (.goto (-34), 3) := by decide +kernel
theorem dX10_byStrangers_105 : decode cX10_byStrangers 105 = .ok (.aload_n 0, 1) := by decide +kernel
theorem dX10_byStrangers_106 : decode cX10_byStrangers 106 = .ok (.iload 8, 2) := by decide +kernel
theorem dX10_byStrangers_108 : decode cX10_byStrangers 108 = .ok (.invokevirtual 91, 3) := by decide +kernel
theorem dX10_byStrangers_111 : decode cX10_byStrangers 111 = .ok (.ireturn, 1) := by decide +kernel
theorem dX10_grows_0 : decode cX10_grows 0 = .ok (.aload_n 0, 1) := by decide +kernel
theorem dX10_grows_1 : decode cX10_grows 1 = .ok (.iload_n 1, 1) := by decide +kernel
theorem dX10_grows_2 : decode cX10_grows 2 = .ok (.invokevirtual 176, 3) := by decide +kernel
theorem dX10_grows_5 : decode cX10_grows 5 = .ok (.ifCond .ne 11, 3) := by decide +kernel
theorem dX10_grows_8 : decode cX10_grows 8 = .ok (.aload_n 0, 1) := by decide +kernel
theorem dX10_grows_9 : decode cX10_grows 9 = .ok (.iload_n 3, 1) := by decide +kernel
theorem dX10_grows_10 : decode cX10_grows 10 = .ok (.invokevirtual 167, 3) := by decide +kernel
theorem dX10_grows_13 : decode cX10_grows 13 = .ok (.ifCond .eq 5, 3) := by decide +kernel
theorem dX10_grows_16 : decode cX10_grows 16 = .ok (.iconst (-1), 1) := by decide +kernel
theorem dX10_grows_17 : decode cX10_grows 17 = .ok (.ireturn, 1) := by decide +kernel
theorem dX10_grows_18 : decode cX10_grows 18 = .ok (.iload_n 2, 1) := by decide +kernel
theorem dX10_grows_19 : decode cX10_grows 19 = .ok (.i2l, 1) := by decide +kernel
theorem dX10_grows_20 : decode cX10_grows 20 = .ok (.lconst 0, 1) := by decide +kernel
theorem dX10_grows_21 : decode cX10_grows 21 = .ok (.ldc2_w 261, 3) := by decide +kernel
theorem dX10_grows_24 : decode cX10_grows 24 = .ok (.invokestatic 97, 3) := by decide +kernel
theorem dX10_grows_27 : decode cX10_grows 27 = .ok (.ifCond .ne 6, 3) := by decide +kernel
theorem dX10_grows_30 : decode cX10_grows 30 = .ok (.bipush (-2), 2) := by decide +kernel
theorem dX10_grows_32 : decode cX10_grows 32 = .ok (.ireturn, 1) := by decide +kernel
theorem dX10_grows_33 : decode cX10_grows 33 = .ok (.iconst 0, 1) := by decide +kernel
theorem dX10_grows_34 : decode cX10_grows 34 = .ok (.istore 4, 2) := by decide +kernel
theorem dX10_grows_36 : decode cX10_grows 36 = .ok (.iload 4, 2) := by decide +kernel
theorem dX10_grows_38 : decode cX10_grows 38 = .ok (.bipush 31, 2) := by decide +kernel
theorem dX10_grows_40 : decode cX10_grows 40 = .ok (.if_icmp .ge 37, 3) := by decide +kernel
theorem dX10_grows_43 : decode cX10_grows 43 = .ok (.aload_n 0, 1) := by decide +kernel
theorem dX10_grows_44 : decode cX10_grows 44 = .ok (.aload_n 0, 1) := by decide +kernel
theorem dX10_grows_45 : decode cX10_grows 45 = .ok (.getfield 28, 3) := by decide +kernel
theorem dX10_grows_48 : decode cX10_grows 48 = .ok (.iload_n 1, 1) := by decide +kernel
theorem dX10_grows_49 : decode cX10_grows 49 = .ok (.iaload, 1) := by decide +kernel
theorem dX10_grows_50 : decode cX10_grows 50 = .ok (.iload_n 2, 1) := by decide +kernel
theorem dX10_grows_51 : decode cX10_grows 51 = .ok (.iload 4, 2) := by decide +kernel
theorem dX10_grows_53 : decode cX10_grows 53 = .ok (.imul, 1) := by decide +kernel
theorem dX10_grows_54 : decode cX10_grows 54 = .ok (.iadd, 1) := by decide +kernel
theorem dX10_grows_55 : decode cX10_grows 55 = .ok (.aload_n 0, 1) := by decide +kernel
theorem dX10_grows_56 : decode cX10_grows 56 = .ok (.getfield 31, 3) := by decide +kernel
theorem dX10_grows_59 : decode cX10_grows 59 = .ok (.iload_n 1, 1) := by decide +kernel
theorem dX10_grows_60 : decode cX10_grows 60 = .ok (.iaload, 1) := by decide +kernel
theorem dX10_grows_61 : decode cX10_grows 61 = .ok (.iload_n 3, 1) := by decide +kernel
theorem dX10_grows_62 : decode cX10_grows 62 = .ok (.invokevirtual 245, 3) := by decide +kernel
theorem dX10_grows_65 : decode cX10_grows 65 = .ok (.ifCond .ne 6, 3) := by decide +kernel
theorem dX10_grows_68 : decode cX10_grows 68 = .ok (.iload 4, 2) := by decide +kernel
theorem dX10_grows_70 : decode cX10_grows 70 = .ok (.ireturn, 1) := by decide +kernel
theorem dX10_grows_71 : decode cX10_grows 71 = .ok (.iinc 4 1, 3) := by decide +kernel
theorem dX10_grows_74 : decode cX10_grows 74 = .ok (.goto (-38), 3) := by decide +kernel
theorem dX10_grows_77 : decode cX10_grows 77 = .ok (.bipush (-9), 2) := by decide +kernel
theorem dX10_grows_79 : decode cX10_grows 79 = .ok (.ireturn, 1) := by decide +kernel
theorem dX10_noSheet_0 : decode cX10_noSheet 0 = .ok (.iload_n 0, 1) := by decide +kernel
theorem dX10_noSheet_1 : decode cX10_noSheet 1 = .ok (.i2l, 1) := by decide +kernel
theorem dX10_noSheet_2 : decode cX10_noSheet 2 = .ok (.lconst 0, 1) := by decide +kernel
theorem dX10_noSheet_3 : decode cX10_noSheet 3 = .ok (.ldc2_w 263, 3) := by decide +kernel
theorem dX10_noSheet_6 : decode cX10_noSheet 6 = .ok (.invokestatic 97, 3) := by decide +kernel
theorem dX10_noSheet_9 : decode cX10_noSheet 9 = .ok (.ifCond .ne 7, 3) := by decide +kernel
theorem dX10_noSheet_12 : decode cX10_noSheet 12 = .ok (.iconst 1, 1) := by decide +kernel
theorem dX10_noSheet_13 : decode cX10_noSheet 13 = .ok (.goto 4, 3) := by decide +kernel
theorem dX10_noSheet_16 : decode cX10_noSheet 16 = .ok (.iconst 0, 1) := by decide +kernel
theorem dX10_noSheet_17 : decode cX10_noSheet 17 = .ok (.ireturn, 1) := by decide +kernel
theorem dX10_sheet_0 : decode cX10_sheet 0 = .ok (.iload_n 1, 1) := by decide +kernel
theorem dX10_sheet_1 : decode cX10_sheet 1 = .ok (.invokestatic 87, 3) := by decide +kernel
theorem dX10_sheet_4 : decode cX10_sheet 4 = .ok (.ifCond .eq 9, 3) := by decide +kernel
theorem dX10_sheet_7 : decode cX10_sheet 7 = .ok (.aload_n 0, 1) := by decide +kernel
theorem dX10_sheet_8 : decode cX10_sheet 8 = .ok (.iconst (-1), 1) := by decide +kernel
theorem dX10_sheet_9 : decode cX10_sheet 9 = .ok (.invokevirtual 91, 3) := by decide +kernel
theorem dX10_sheet_12 : decode cX10_sheet 12 = .ok (.ireturn, 1) := by decide +kernel
theorem dX10_sheet_13 : decode cX10_sheet 13 = .ok (.iload_n 2, 1) := by decide +kernel
theorem dX10_sheet_14 : decode cX10_sheet 14 = .ok (.i2l, 1) := by decide +kernel
theorem dX10_sheet_15 : decode cX10_sheet 15 = .ok (.lconst 0, 1) := by decide +kernel
theorem dX10_sheet_16 : decode cX10_sheet 16 = .ok (.ldc2_w 95, 3) := by decide +kernel
theorem dX10_sheet_19 : decode cX10_sheet 19 = .ok (.invokestatic 97, 3) := by decide +kernel
theorem dX10_sheet_22 : decode cX10_sheet 22 = .ok (.ifCond .eq 9, 3) := by decide +kernel
theorem dX10_sheet_25 : decode cX10_sheet 25 = .ok (.iload_n 3, 1) := by decide +kernel
theorem dX10_sheet_26 : decode cX10_sheet 26 = .ok (.bipush 60, 2) := by decide +kernel
theorem dX10_sheet_28 : decode cX10_sheet 28 = .ok (.if_icmp .le 10, 3) := by decide +kernel
theorem dX10_sheet_31 : decode cX10_sheet 31 = .ok (.aload_n 0, 1) := by decide +kernel
theorem dX10_sheet_32 : decode cX10_sheet 32 = .ok (.bipush (-2), 2) := by decide +kernel
theorem dX10_sheet_34 : decode cX10_sheet 34 = .ok (.invokevirtual 91, 3) := by decide +kernel
theorem dX10_sheet_37 : decode cX10_sheet 37 = .ok (.ireturn, 1) := by decide +kernel
theorem dX10_sheet_38 : decode cX10_sheet 38 = .ok (.iload_n 3, 1) := by decide +kernel
theorem dX10_sheet_39 : decode cX10_sheet 39 = .ok (.ifCond .ge 9, 3) := by decide +kernel
theorem dX10_sheet_42 : decode cX10_sheet 42 = .ok (.aload_n 0, 1) := by decide +kernel
theorem dX10_sheet_43 : decode cX10_sheet 43 = .ok (.iconst 4, 1) := by decide +kernel
theorem dX10_sheet_44 : decode cX10_sheet 44 = .ok (.invokevirtual 101, 3) := by decide +kernel
theorem dX10_sheet_47 : decode cX10_sheet 47 = .ok (.ireturn, 1) := by decide +kernel
theorem dX10_sheet_48 : decode cX10_sheet 48 = .ok (.aload_n 0, 1) := by decide +kernel
theorem dX10_sheet_49 : decode cX10_sheet 49 = .ok (.getfield 65, 3) := by decide +kernel
theorem dX10_sheet_52 : decode cX10_sheet 52 = .ok (.iload_n 1, 1) := by decide +kernel
theorem dX10_sheet_53 : decode cX10_sheet 53 = .ok (.iload_n 3, 1) := by decide +kernel
theorem dX10_sheet_54 : decode cX10_sheet 54 = .ok (.iastore, 1) := by decide +kernel
theorem dX10_sheet_55 : decode cX10_sheet 55 = .ok (.aload_n 0, 1) := by decide +kernel
theorem dX10_sheet_56 : decode cX10_sheet 56 = .ok (.getfield 68, 3) := by decide +kernel
theorem dX10_sheet_59 : decode cX10_sheet 59 = .ok (.iload_n 1, 1) := by decide +kernel
theorem dX10_sheet_60 : decode cX10_sheet 60 = .ok (.iload_n 2, 1) := by decide +kernel
theorem dX10_sheet_61 : decode cX10_sheet 61 = .ok (.iastore, 1) := by decide +kernel
theorem dX10_sheet_62 : decode cX10_sheet 62 = .ok (.iconst 0, 1) := by decide +kernel
theorem dX10_sheet_63 : decode cX10_sheet 63 = .ok (.istore 4, 2) := by decide +kernel
theorem dX10_sheet_65 : decode cX10_sheet 65 = .ok (.iload 4, 2) := by decide +kernel
theorem dX10_sheet_67 : decode cX10_sheet 67 = .ok (.iload_n 3, 1) := by decide +kernel
theorem dX10_sheet_68 : decode cX10_sheet 68 = .ok (.if_icmp .ge 22, 3) := by decide +kernel
theorem dX10_sheet_71 : decode cX10_sheet 71 = .ok (.aload_n 0, 1) := by decide +kernel
theorem dX10_sheet_72 : decode cX10_sheet 72 = .ok (.getfield 71, 3) := by decide +kernel
theorem dX10_sheet_75 : decode cX10_sheet 75 = .ok (.bipush 60, 2) := by decide +kernel
theorem dX10_sheet_77 : decode cX10_sheet 77 = .ok (.iload_n 1, 1) := by decide +kernel
theorem dX10_sheet_78 : decode cX10_sheet 78 = .ok (.imul, 1) := by decide +kernel
theorem dX10_sheet_79 : decode cX10_sheet 79 = .ok (.iload 4, 2) := by decide +kernel
theorem dX10_sheet_81 : decode cX10_sheet 81 = .ok (.iadd, 1) := by decide +kernel
theorem dX10_sheet_82 : decode cX10_sheet 82 = .ok (.iconst 0, 1) := by decide +kernel
theorem dX10_sheet_83 : decode cX10_sheet 83 = .ok (.iastore, 1) := by decide +kernel
theorem dX10_sheet_84 : decode cX10_sheet 84 = .ok (.iinc 4 1, 3) := by decide +kernel
theorem dX10_sheet_87 : decode cX10_sheet 87 = .ok (.goto (-22), 3) := by decide +kernel
theorem dX10_sheet_90 : decode cX10_sheet 90 = .ok (.aload_n 0, 1) := by decide +kernel
theorem dX10_sheet_91 : decode cX10_sheet 91 = .ok (.iconst 1, 1) := by decide +kernel
theorem dX10_sheet_92 : decode cX10_sheet 92 = .ok (.invokevirtual 91, 3) := by decide +kernel
theorem dX10_sheet_95 : decode cX10_sheet 95 = .ok (.ireturn, 1) := by decide +kernel
theorem dX10_lose_0 : decode cX10_lose 0 = .ok (.iload_n 1, 1) := by decide +kernel
theorem dX10_lose_1 : decode cX10_lose 1 = .ok (.invokestatic 87, 3) := by decide +kernel
theorem dX10_lose_4 : decode cX10_lose 4 = .ok (.ifCond .eq 5, 3) := by decide +kernel
theorem dX10_lose_7 : decode cX10_lose 7 = .ok (.iconst (-1), 1) := by decide +kernel
theorem dX10_lose_8 : decode cX10_lose 8 = .ok (.ireturn, 1) := by decide +kernel
theorem dX10_lose_9 : decode cX10_lose 9 = .ok (.aload_n 0, 1) := by decide +kernel
theorem dX10_lose_10 : decode cX10_lose 10 = .ok (.getfield 65, 3) := by decide +kernel
theorem dX10_lose_13 : decode cX10_lose 13 = .ok (.iload_n 1, 1) := by decide +kernel
theorem dX10_lose_14 : decode cX10_lose 14 = .ok (.iaload, 1) := by decide +kernel
theorem dX10_lose_15 : decode cX10_lose 15 = .ok (.ifCond .ge 7, 3) := by decide +kernel
theorem dX10_lose_18 : decode cX10_lose 18 = .ok (.iconst 0, 1) := by decide +kernel
theorem dX10_lose_19 : decode cX10_lose 19 = .ok (.goto 4, 3) := by decide +kernel
theorem dX10_lose_22 : decode cX10_lose 22 = .ok (.iconst 1, 1) := by decide +kernel
theorem dX10_lose_23 : decode cX10_lose 23 = .ok (.istore_n 2, 1) := by decide +kernel
theorem dX10_lose_24 : decode cX10_lose 24 = .ok (.aload_n 0, 1) := by decide +kernel
theorem dX10_lose_25 : decode cX10_lose 25 = .ok (.getfield 65, 3) := by decide +kernel
theorem dX10_lose_28 : decode cX10_lose 28 = .ok (.iload_n 1, 1) := by decide +kernel
theorem dX10_lose_29 : decode cX10_lose 29 = .ok (.iconst (-1), 1) := by decide +kernel
theorem dX10_lose_30 : decode cX10_lose 30 = .ok (.iastore, 1) := by decide +kernel
theorem dX10_lose_31 : decode cX10_lose 31 = .ok (.iload_n 2, 1) := by decide +kernel
theorem dX10_lose_32 : decode cX10_lose 32 = .ok (.ireturn, 1) := by decide +kernel
theorem dX10_noCell_0 : decode cX10_noCell 0 = .ok (.aload_n 0, 1) := by decide +kernel
theorem dX10_noCell_1 : decode cX10_noCell 1 = .ok (.getfield 65, 3) := by decide +kernel
theorem dX10_noCell_4 : decode cX10_noCell 4 = .ok (.iload_n 1, 1) := by decide +kernel
theorem dX10_noCell_5 : decode cX10_noCell 5 = .ok (.iaload, 1) := by decide +kernel
theorem dX10_noCell_6 : decode cX10_noCell 6 = .ok (.ifCond .ge 7, 3) := by decide +kernel
theorem dX10_noCell_9 : decode cX10_noCell 9 = .ok (.iconst 1, 1) := by decide +kernel
theorem dX10_noCell_10 : decode cX10_noCell 10 = .ok (.goto 26, 3) := by decide +kernel
theorem dX10_noCell_13 : decode cX10_noCell 13 = .ok (.iload_n 2, 1) := by decide +kernel
theorem dX10_noCell_14 : decode cX10_noCell 14 = .ok (.i2l, 1) := by decide +kernel
theorem dX10_noCell_15 : decode cX10_noCell 15 = .ok (.lconst 0, 1) := by decide +kernel
theorem dX10_noCell_16 : decode cX10_noCell 16 = .ok (.aload_n 0, 1) := by decide +kernel
theorem dX10_noCell_17 : decode cX10_noCell 17 = .ok (.getfield 65, 3) := by decide +kernel
theorem dX10_noCell_20 : decode cX10_noCell 20 = .ok (.iload_n 1, 1) := by decide +kernel
theorem dX10_noCell_21 : decode cX10_noCell 21 = .ok (.iaload, 1) := by decide +kernel
theorem dX10_noCell_22 : decode cX10_noCell 22 = .ok (.i2l, 1) := by decide +kernel
theorem dX10_noCell_23 : decode cX10_noCell 23 = .ok (.lconst 1, 1) := by decide +kernel
theorem dX10_noCell_24 : decode cX10_noCell 24 = .ok (.lsub, 1) := by decide +kernel
theorem dX10_noCell_25 : decode cX10_noCell 25 = .ok (.invokestatic 97, 3) := by decide +kernel
theorem dX10_noCell_28 : decode cX10_noCell 28 = .ok (.ifCond .eq 7, 3) := by decide +kernel
theorem dX10_noCell_31 : decode cX10_noCell 31 = .ok (.iconst 0, 1) := by decide +kernel
theorem dX10_noCell_32 : decode cX10_noCell 32 = .ok (.goto 4, 3) := by decide +kernel
theorem dX10_noCell_35 : decode cX10_noCell 35 = .ok (.iconst 3, 1) := by decide +kernel
theorem dX10_noCell_36 : decode cX10_noCell 36 = .ok (.ireturn, 1) := by decide +kernel
theorem dX10_put_0 : decode cX10_put 0 = .ok (.iload_n 1, 1) := by decide +kernel
theorem dX10_put_1 : decode cX10_put 1 = .ok (.invokestatic 87, 3) := by decide +kernel
theorem dX10_put_4 : decode cX10_put 4 = .ok (.ifCond .eq 9, 3) := by decide +kernel
theorem dX10_put_7 : decode cX10_put 7 = .ok (.aload_n 0, 1) := by decide +kernel
theorem dX10_put_8 : decode cX10_put 8 = .ok (.iconst (-1), 1) := by decide +kernel
theorem dX10_put_9 : decode cX10_put 9 = .ok (.invokevirtual 91, 3) := by decide +kernel
theorem dX10_put_12 : decode cX10_put 12 = .ok (.ireturn, 1) := by decide +kernel
theorem dX10_put_13 : decode cX10_put 13 = .ok (.aload_n 0, 1) := by decide +kernel
theorem dX10_put_14 : decode cX10_put 14 = .ok (.iload_n 1, 1) := by decide +kernel
theorem dX10_put_15 : decode cX10_put 15 = .ok (.iload_n 2, 1) := by decide +kernel
theorem dX10_put_16 : decode cX10_put 16 = .ok (.invokevirtual 265, 3) := by decide +kernel
theorem dX10_put_19 : decode cX10_put 19 = .ok (.ifCond .le 14, 3) := by decide +kernel
theorem dX10_put_22 : decode cX10_put 22 = .ok (.aload_n 0, 1) := by decide +kernel
theorem dX10_put_23 : decode cX10_put 23 = .ok (.aload_n 0, 1) := by decide +kernel
theorem dX10_put_24 : decode cX10_put 24 = .ok (.iload_n 1, 1) := by decide +kernel
theorem dX10_put_25 : decode cX10_put 25 = .ok (.iload_n 2, 1) := by decide +kernel
theorem dX10_put_26 : decode cX10_put 26 = .ok (.invokevirtual 265, 3) := by decide +kernel
theorem dX10_put_29 : decode cX10_put 29 = .ok (.invokevirtual 101, 3) := by decide +kernel
theorem dX10_put_32 : decode cX10_put 32 = .ok (.ireturn, 1) := by decide +kernel
theorem dX10_put_33 : decode cX10_put 33 = .ok (.aload_n 0, 1) := by decide +kernel
theorem dX10_put_34 : decode cX10_put 34 = .ok (.getfield 71, 3) := by decide +kernel
theorem dX10_put_37 : decode cX10_put 37 = .ok (.bipush 60, 2) := by decide +kernel
theorem dX10_put_39 : decode cX10_put 39 = .ok (.iload_n 1, 1) := by decide +kernel
theorem dX10_put_40 : decode cX10_put 40 = .ok (.imul, 1) := by decide +kernel
theorem dX10_put_41 : decode cX10_put 41 = .ok (.iload_n 2, 1) := by decide +kernel
theorem dX10_put_42 : decode cX10_put 42 = .ok (.iadd, 1) := by decide +kernel
theorem dX10_put_43 : decode cX10_put 43 = .ok (.aload_n 0, 1) := by decide +kernel
theorem dX10_put_44 : decode cX10_put 44 = .ok (.getfield 68, 3) := by decide +kernel
theorem dX10_put_47 : decode cX10_put 47 = .ok (.iload_n 1, 1) := by decide +kernel
theorem dX10_put_48 : decode cX10_put 48 = .ok (.iaload, 1) := by decide +kernel
theorem dX10_put_49 : decode cX10_put 49 = .ok (.ifCond .ne 8, 3) := by decide +kernel
theorem dX10_put_52 : decode cX10_put 52 = .ok (.iload_n 3, 1) := by decide +kernel
theorem dX10_put_53 : decode cX10_put 53 = .ok (.i2b, 1) := by decide +kernel
theorem dX10_put_54 : decode cX10_put 54 = .ok (.goto 19, 3) := by decide +kernel
theorem dX10_put_57 : decode cX10_put 57 = .ok (.aload_n 0, 1) := by decide +kernel
theorem dX10_put_58 : decode cX10_put 58 = .ok (.getfield 68, 3) := by decide +kernel
theorem dX10_put_61 : decode cX10_put 61 = .ok (.iload_n 1, 1) := by decide +kernel
theorem dX10_put_62 : decode cX10_put 62 = .ok (.iaload, 1) := by decide +kernel
theorem dX10_put_63 : decode cX10_put 63 = .ok (.iconst 1, 1) := by decide +kernel
theorem dX10_put_64 : decode cX10_put 64 = .ok (.if_icmp .ne 8, 3) := by decide +kernel
theorem dX10_put_67 : decode cX10_put 67 = .ok (.iload_n 3, 1) := by decide +kernel
theorem dX10_put_68 : decode cX10_put 68 = .ok (.i2s, 1) := by decide +kernel
theorem dX10_put_69 : decode cX10_put 69 = .ok (.goto 4, 3) := by decide +kernel
theorem dX10_put_72 : decode cX10_put 72 = .ok (.iload_n 3, 1) := by decide +kernel
theorem dX10_put_73 : decode cX10_put 73 = .ok (.iastore, 1) := by decide +kernel
theorem dX10_put_74 : decode cX10_put 74 = .ok (.aload_n 0, 1) := by decide +kernel
theorem dX10_put_75 : decode cX10_put 75 = .ok (.iconst 1, 1) := by decide +kernel
theorem dX10_put_76 : decode cX10_put 76 = .ok (.invokevirtual 91, 3) := by decide +kernel
theorem dX10_put_79 : decode cX10_put 79 = .ok (.ireturn, 1) := by decide +kernel
theorem dX10_cell_0 : decode cX10_cell 0 = .ok (.aload_n 0, 1) := by decide +kernel
theorem dX10_cell_1 : decode cX10_cell 1 = .ok (.iconst 0, 1) := by decide +kernel
theorem dX10_cell_2 : decode cX10_cell 2 = .ok (.putfield 79, 3) := by decide +kernel
theorem dX10_cell_5 : decode cX10_cell 5 = .ok (.iload_n 1, 1) := by decide +kernel
theorem dX10_cell_6 : decode cX10_cell 6 = .ok (.invokestatic 87, 3) := by decide +kernel
theorem dX10_cell_9 : decode cX10_cell 9 = .ok (.ifCond .ne 15, 3) := by decide +kernel
theorem dX10_cell_12 : decode cX10_cell 12 = .ok (.iload_n 3, 1) := by decide +kernel
theorem dX10_cell_13 : decode cX10_cell 13 = .ok (.i2l, 1) := by decide +kernel
theorem dX10_cell_14 : decode cX10_cell 14 = .ok (.lconst 0, 1) := by decide +kernel
theorem dX10_cell_15 : decode cX10_cell 15 = .ok (.ldc2_w 95, 3) := by decide +kernel
theorem dX10_cell_18 : decode cX10_cell 18 = .ok (.invokestatic 97, 3) := by decide +kernel
theorem dX10_cell_21 : decode cX10_cell 21 = .ok (.ifCond .ne 7, 3) := by decide +kernel
theorem dX10_cell_24 : decode cX10_cell 24 = .ok (.invokestatic 83, 3) := by decide +kernel
theorem dX10_cell_27 : decode cX10_cell 27 = .ok (.lreturn, 1) := by decide +kernel
theorem dX10_cell_28 : decode cX10_cell 28 = .ok (.aload_n 0, 1) := by decide +kernel
theorem dX10_cell_29 : decode cX10_cell 29 = .ok (.getfield 65, 3) := by decide +kernel
theorem dX10_cell_32 : decode cX10_cell 32 = .ok (.iload_n 1, 1) := by decide +kernel
theorem dX10_cell_33 : decode cX10_cell 33 = .ok (.iaload, 1) := by decide +kernel
theorem dX10_cell_34 : decode cX10_cell 34 = .ok (.ifCond .lt 19, 3) := by decide +kernel
theorem dX10_cell_37 : decode cX10_cell 37 = .ok (.aload_n 0, 1) := by decide +kernel
theorem dX10_cell_38 : decode cX10_cell 38 = .ok (.getfield 68, 3) := by decide +kernel
theorem dX10_cell_41 : decode cX10_cell 41 = .ok (.iload_n 1, 1) := by decide +kernel
theorem dX10_cell_42 : decode cX10_cell 42 = .ok (.iaload, 1) := by decide +kernel
theorem dX10_cell_43 : decode cX10_cell 43 = .ok (.iload_n 3, 1) := by decide +kernel
theorem dX10_cell_44 : decode cX10_cell 44 = .ok (.if_icmp .eq 9, 3) := by decide +kernel
theorem dX10_cell_47 : decode cX10_cell 47 = .ok (.aload_n 0, 1) := by decide +kernel
theorem dX10_cell_48 : decode cX10_cell 48 = .ok (.iconst 2, 1) := by decide +kernel
theorem dX10_cell_49 : decode cX10_cell 49 = .ok (.invokevirtual 268, 3) := by decide +kernel
theorem dX10_cell_52 : decode cX10_cell 52 = .ok (.lreturn, 1) := by decide +kernel
theorem dX10_cell_53 : decode cX10_cell 53 = .ok (.aload_n 0, 1) := by decide +kernel
theorem dX10_cell_54 : decode cX10_cell 54 = .ok (.iload_n 1, 1) := by decide +kernel
theorem dX10_cell_55 : decode cX10_cell 55 = .ok (.iload_n 2, 1) := by decide +kernel
theorem dX10_cell_56 : decode cX10_cell 56 = .ok (.invokevirtual 265, 3) := by decide +kernel
theorem dX10_cell_59 : decode cX10_cell 59 = .ok (.ifCond .le 16, 3) := by decide +kernel
theorem dX10_cell_62 : decode cX10_cell 62 = .ok (.aload_n 0, 1) := by decide +kernel
theorem dX10_cell_63 : decode cX10_cell 63 = .ok (.aload_n 0, 1) := by decide +kernel
theorem dX10_cell_64 : decode cX10_cell 64 = .ok (.iload_n 1, 1) := by decide +kernel
theorem dX10_cell_65 : decode cX10_cell 65 = .ok (.iload_n 2, 1) := by decide +kernel
theorem dX10_cell_66 : decode cX10_cell 66 = .ok (.invokevirtual 265, 3) := by decide +kernel
theorem dX10_cell_69 : decode cX10_cell 69 = .ok (.invokevirtual 268, 3) := by decide +kernel
theorem dX10_cell_72 : decode cX10_cell 72 = .ok (.goto 15, 3) := by decide +kernel
theorem dX10_cell_75 : decode cX10_cell 75 = .ok (.aload_n 0, 1) := by decide +kernel
theorem dX10_cell_76 : decode cX10_cell 76 = .ok (.getfield 71, 3) := by decide +kernel
theorem dX10_cell_79 : decode cX10_cell 79 = .ok (.bipush 60, 2) := by decide +kernel
theorem dX10_cell_81 : decode cX10_cell 81 = .ok (.iload_n 1, 1) := by decide +kernel
theorem dX10_cell_82 : decode cX10_cell 82 = .ok (.imul, 1) := by decide +kernel
theorem dX10_cell_83 : decode cX10_cell 83 = .ok (.iload_n 2, 1) := by decide +kernel
theorem dX10_cell_84 : decode cX10_cell 84 = .ok (.iadd, 1) := by decide +kernel
theorem dX10_cell_85 : decode cX10_cell 85 = .ok (.iaload, 1) := by decide +kernel
theorem dX10_cell_86 : decode cX10_cell 86 = .ok (.i2l, 1) := by decide +kernel
theorem dX10_cell_87 : decode cX10_cell 87 = .ok (.lreturn, 1) := by decide +kernel
theorem dX10_isBeyond_0 : decode cX10_isBeyond 0 = .ok (.iload_n 0, 1) := by decide +kernel
theorem dX10_isBeyond_1 : decode cX10_isBeyond 1 = .ok (.ifCond .lt 19, 3) := by decide +kernel
theorem dX10_isBeyond_4 : decode cX10_isBeyond 4 = .ok (.lload_n 1, 1) := by decide +kernel
theorem dX10_isBeyond_5 : decode cX10_isBeyond 5 = .ok (.lconst 0, 1) := by decide +kernel
theorem dX10_isBeyond_6 : decode cX10_isBeyond 6 = .ok (.lcmp, 1) := by decide +kernel
theorem dX10_isBeyond_7 : decode cX10_isBeyond 7 = .ok (.ifCond .lt 13, 3) := by decide +kernel
theorem dX10_isBeyond_10 : decode cX10_isBeyond 10 = .ok (.iload_n 0, 1) := by decide +kernel
theorem dX10_isBeyond_11 : decode cX10_isBeyond 11 = .ok (.i2l, 1) := by decide +kernel
theorem dX10_isBeyond_12 : decode cX10_isBeyond 12 = .ok (.lload_n 1, 1) := by decide +kernel
theorem dX10_isBeyond_13 : decode cX10_isBeyond 13 = .ok (.ladd, 1) := by decide +kernel
theorem dX10_isBeyond_14 : decode cX10_isBeyond 14 = .ok (.iload_n 3, 1) := by decide +kernel
theorem dX10_isBeyond_15 : decode cX10_isBeyond 15 = .ok (.i2l, 1) := by decide +kernel
theorem dX10_isBeyond_16 : decode cX10_isBeyond 16 = .ok (.lcmp, 1) := by decide +kernel
theorem dX10_isBeyond_17 : decode cX10_isBeyond 17 = .ok (.ifCond .le 7, 3) := by decide +kernel
theorem dX10_isBeyond_20 : decode cX10_isBeyond 20 = .ok (.iconst 1, 1) := by decide +kernel
theorem dX10_isBeyond_21 : decode cX10_isBeyond 21 = .ok (.goto 4, 3) := by decide +kernel
theorem dX10_isBeyond_24 : decode cX10_isBeyond 24 = .ok (.iconst 0, 1) := by decide +kernel
theorem dX10_isBeyond_25 : decode cX10_isBeyond 25 = .ok (.ireturn, 1) := by decide +kernel
theorem dX10_copy_0 : decode cX10_copy 0 = .ok (.iload_n 1, 1) := by decide +kernel
theorem dX10_copy_1 : decode cX10_copy 1 = .ok (.invokestatic 87, 3) := by decide +kernel
theorem dX10_copy_4 : decode cX10_copy 4 = .ok (.ifCond .ne 10, 3) := by decide +kernel
theorem dX10_copy_7 : decode cX10_copy 7 = .ok (.iload_n 3, 1) := by decide +kernel
theorem dX10_copy_8 : decode cX10_copy 8 = .ok (.invokestatic 87, 3) := by decide +kernel
theorem dX10_copy_11 : decode cX10_copy 11 = .ok (.ifCond .eq 9, 3) := by decide +kernel
theorem dX10_copy_14 : decode cX10_copy 14 = .ok (.aload_n 0, 1) := by decide +kernel
theorem dX10_copy_15 : decode cX10_copy 15 = .ok (.iconst (-1), 1) := by decide +kernel
theorem dX10_copy_16 : decode cX10_copy 16 = .ok (.invokevirtual 91, 3) := by decide +kernel
theorem dX10_copy_19 : decode cX10_copy 19 = .ok (.ireturn, 1) := by decide +kernel
theorem dX10_copy_20 : decode cX10_copy 20 = .ok (.aload_n 0, 1) := by decide +kernel
theorem dX10_copy_21 : decode cX10_copy 21 = .ok (.getfield 65, 3) := by decide +kernel
theorem dX10_copy_24 : decode cX10_copy 24 = .ok (.iload_n 1, 1) := by decide +kernel
theorem dX10_copy_25 : decode cX10_copy 25 = .ok (.iaload, 1) := by decide +kernel
theorem dX10_copy_26 : decode cX10_copy 26 = .ok (.ifCond .lt 12, 3) := by decide +kernel
theorem dX10_copy_29 : decode cX10_copy 29 = .ok (.aload_n 0, 1) := by decide +kernel
theorem dX10_copy_30 : decode cX10_copy 30 = .ok (.getfield 65, 3) := by decide +kernel
theorem dX10_copy_33 : decode cX10_copy 33 = .ok (.iload_n 3, 1) := by decide +kernel
theorem dX10_copy_34 : decode cX10_copy 34 = .ok (.iaload, 1) := by decide +kernel
theorem dX10_copy_35 : decode cX10_copy 35 = .ok (.ifCond .ge 9, 3) := by decide +kernel
theorem dX10_copy_38 : decode cX10_copy 38 = .ok (.aload_n 0, 1) := by decide +kernel
theorem dX10_copy_39 : decode cX10_copy 39 = .ok (.iconst 1, 1) := by decide +kernel
theorem dX10_copy_40 : decode cX10_copy 40 = .ok (.invokevirtual 101, 3) := by decide +kernel
theorem dX10_copy_43 : decode cX10_copy 43 = .ok (.ireturn, 1) := by decide +kernel
theorem dX10_copy_44 : decode cX10_copy 44 = .ok (.aload_n 0, 1) := by decide +kernel
theorem dX10_copy_45 : decode cX10_copy 45 = .ok (.getfield 68, 3) := by decide +kernel
theorem dX10_copy_48 : decode cX10_copy 48 = .ok (.iload_n 1, 1) := by decide +kernel
theorem dX10_copy_49 : decode cX10_copy 49 = .ok (.iaload, 1) := by decide +kernel
theorem dX10_copy_50 : decode cX10_copy 50 = .ok (.aload_n 0, 1) := by decide +kernel
theorem dX10_copy_51 : decode cX10_copy 51 = .ok (.getfield 68, 3) := by decide +kernel
theorem dX10_copy_54 : decode cX10_copy 54 = .ok (.iload_n 3, 1) := by decide +kernel
theorem dX10_copy_55 : decode cX10_copy 55 = .ok (.iaload, 1) := by decide +kernel
theorem dX10_copy_56 : decode cX10_copy 56 = .ok (.if_icmp .eq 9, 3) := by decide +kernel
theorem dX10_copy_59 : decode cX10_copy 59 = .ok (.aload_n 0, 1) := by decide +kernel
theorem dX10_copy_60 : decode cX10_copy 60 = .ok (.iconst 2, 1) := by decide +kernel
theorem dX10_copy_61 : decode cX10_copy 61 = .ok (.invokevirtual 101, 3) := by decide +kernel
theorem dX10_copy_64 : decode cX10_copy 64 = .ok (.ireturn, 1) := by decide +kernel
theorem dX10_copy_65 : decode cX10_copy 65 = .ok (.iload_n 2, 1) := by decide +kernel
theorem dX10_copy_66 : decode cX10_copy 66 = .ok (.iload 5, 2) := by decide +kernel
theorem dX10_copy_68 : decode cX10_copy 68 = .ok (.i2l, 1) := by decide +kernel
theorem dX10_copy_69 : decode cX10_copy 69 = .ok (.aload_n 0, 1) := by decide +kernel
theorem dX10_copy_70 : decode cX10_copy 70 = .ok (.getfield 65, 3) := by decide +kernel
theorem dX10_copy_73 : decode cX10_copy 73 = .ok (.iload_n 1, 1) := by decide +kernel
theorem dX10_copy_74 : decode cX10_copy 74 = .ok (.iaload, 1) := by decide +kernel
theorem dX10_copy_75 : decode cX10_copy 75 = .ok (.invokestatic 104, 3) := by decide +kernel
theorem dX10_copy_78 : decode cX10_copy 78 = .ok (.ifCond .ne 20, 3) := by decide +kernel
theorem dX10_copy_81 : decode cX10_copy 81 = .ok (.iload 4, 2) := by decide +kernel
theorem dX10_copy_83 : decode cX10_copy 83 = .ok (.iload 5, 2) := by decide +kernel
theorem dX10_copy_85 : decode cX10_copy 85 = .ok (.i2l, 1) := by decide +kernel
theorem dX10_copy_86 : decode cX10_copy 86 = .ok (.aload_n 0, 1) := by decide +kernel
theorem dX10_copy_87 : decode cX10_copy 87 = .ok (.getfield 65, 3) := by decide +kernel
theorem dX10_copy_90 : decode cX10_copy 90 = .ok (.iload_n 3, 1) := by decide +kernel
theorem dX10_copy_91 : decode cX10_copy 91 = .ok (.iaload, 1) := by decide +kernel
theorem dX10_copy_92 : decode cX10_copy 92 = .ok (.invokestatic 104, 3) := by decide +kernel
theorem dX10_copy_95 : decode cX10_copy 95 = .ok (.ifCond .eq 9, 3) := by decide +kernel
theorem dX10_copy_98 : decode cX10_copy 98 = .ok (.aload_n 0, 1) := by decide +kernel
theorem dX10_copy_99 : decode cX10_copy 99 = .ok (.iconst 3, 1) := by decide +kernel
theorem dX10_copy_100 : decode cX10_copy 100 = .ok (.invokevirtual 101, 3) := by decide +kernel
theorem dX10_copy_103 : decode cX10_copy 103 = .ok (.ireturn, 1) := by decide +kernel
theorem dX10_copy_104 : decode cX10_copy 104 = .ok (.iconst 0, 1) := by decide +kernel
theorem dX10_copy_105 : decode cX10_copy 105 = .ok (.istore 6, 2) := by decide +kernel
theorem dX10_copy_107 : decode cX10_copy 107 = .ok (.iload 6, 2) := by decide +kernel
theorem dX10_copy_109 : decode cX10_copy 109 = .ok (.iload 5, 2) := by decide +kernel
theorem dX10_copy_111 : decode cX10_copy 111 = .ok (.if_icmp .ge 30, 3) := by decide +kernel
theorem dX10_copy_114 : decode cX10_copy 114 = .ok (.aload_n 0, 1) := by decide +kernel
theorem dX10_copy_115 : decode cX10_copy 115 = .ok (.getfield 74, 3) := by decide +kernel
theorem dX10_copy_118 : decode cX10_copy 118 = .ok (.iload 6, 2) := by decide +kernel
theorem dX10_copy_120 : decode cX10_copy 120 = .ok (.aload_n 0, 1) := by decide +kernel
theorem dX10_copy_121 : decode cX10_copy 121 = .ok (.getfield 71, 3) := by decide +kernel
theorem dX10_copy_124 : decode cX10_copy 124 = .ok (.bipush 60, 2) := by decide +kernel
theorem dX10_copy_126 : decode cX10_copy 126 = .ok (.iload_n 1, 1) := by decide +kernel
theorem dX10_copy_127 : decode cX10_copy 127 = .ok (.imul, 1) := by decide +kernel
theorem dX10_copy_128 : decode cX10_copy 128 = .ok (.iload_n 2, 1) := by decide +kernel
theorem dX10_copy_129 : decode cX10_copy 129 = .ok (.iadd, 1) := by decide +kernel
theorem dX10_copy_130 : decode cX10_copy 130 = .ok (.iload 6, 2) := by decide +kernel
theorem dX10_copy_132 : decode cX10_copy 132 = .ok (.iadd, 1) := by decide +kernel
theorem dX10_copy_133 : decode cX10_copy 133 = .ok (.iaload, 1) := by decide +kernel
theorem dX10_copy_134 : decode cX10_copy 134 = .ok (.iastore, 1) := by decide +kernel
theorem dX10_copy_135 : decode cX10_copy 135 = .ok (.iinc 6 1, 3) := by decide +kernel
theorem dX10_copy_138 : decode cX10_copy 138 = .ok (.goto (-31), 3) := by decide +kernel
theorem dX10_copy_141 : decode cX10_copy 141 = .ok (.iconst 0, 1) := by decide +kernel
theorem dX10_copy_142 : decode cX10_copy 142 = .ok (.istore 6, 2) := by decide +kernel
theorem dX10_copy_144 : decode cX10_copy 144 = .ok (.iload 6, 2) := by decide +kernel
theorem dX10_copy_146 : decode cX10_copy 146 = .ok (.iload 5, 2) := by decide +kernel
theorem dX10_copy_148 : decode cX10_copy 148 = .ok (.if_icmp .ge 31, 3) := by decide +kernel
theorem dX10_copy_151 : decode cX10_copy 151 = .ok (.aload_n 0, 1) := by decide +kernel
theorem dX10_copy_152 : decode cX10_copy 152 = .ok (.getfield 71, 3) := by decide +kernel
theorem dX10_copy_155 : decode cX10_copy 155 = .ok (.bipush 60, 2) := by decide +kernel
theorem dX10_copy_157 : decode cX10_copy 157 = .ok (.iload_n 3, 1) := by decide +kernel
theorem dX10_copy_158 : decode cX10_copy 158 = .ok (.imul, 1) := by decide +kernel
theorem dX10_copy_159 : decode cX10_copy 159 = .ok (.iload 4, 2) := by decide +kernel
theorem dX10_copy_161 : decode cX10_copy 161 = .ok (.iadd, 1) := by decide +kernel
theorem dX10_copy_162 : decode cX10_copy 162 = .ok (.iload 6, 2) := by decide +kernel
theorem dX10_copy_164 : decode cX10_copy 164 = .ok (.iadd, 1) := by decide +kernel
theorem dX10_copy_165 : decode cX10_copy 165 = .ok (.aload_n 0, 1) := by decide +kernel
theorem dX10_copy_166 : decode cX10_copy 166 = .ok (.getfield 74, 3) := by decide +kernel
theorem dX10_copy_169 : decode cX10_copy 169 = .ok (.iload 6, 2) := by decide +kernel
theorem dX10_copy_171 : decode cX10_copy 171 = .ok (.iaload, 1) := by decide +kernel
theorem dX10_copy_172 : decode cX10_copy 172 = .ok (.iastore, 1) := by decide +kernel
theorem dX10_copy_173 : decode cX10_copy 173 = .ok (.iinc 6 1, 3) := by decide +kernel
theorem dX10_copy_176 : decode cX10_copy 176 = .ok (.goto (-32), 3) := by decide +kernel
theorem dX10_copy_179 : decode cX10_copy 179 = .ok (.aload_n 0, 1) := by decide +kernel
theorem dX10_copy_180 : decode cX10_copy 180 = .ok (.iload 5, 2) := by decide +kernel
theorem dX10_copy_182 : decode cX10_copy 182 = .ok (.invokevirtual 91, 3) := by decide +kernel
theorem dX10_copy_185 : decode cX10_copy 185 = .ok (.ireturn, 1) := by decide +kernel
theorem dX10_traced_0 : decode cX10_traced 0 = .ok (.aload_n 0, 1) := by decide +kernel
theorem dX10_traced_1 : decode cX10_traced 1 = .ok (.bipush 31, 2) := by decide +kernel
theorem dX10_traced_3 : decode cX10_traced 3 = .ok (.aload_n 0, 1) := by decide +kernel
theorem dX10_traced_4 : decode cX10_traced 4 = .ok (.getfield 272, 3) := by decide +kernel
theorem dX10_traced_7 : decode cX10_traced 7 = .ok (.imul, 1) := by decide +kernel
theorem dX10_traced_8 : decode cX10_traced 8 = .ok (.iload_n 1, 1) := by decide +kernel
theorem dX10_traced_9 : decode cX10_traced 9 = .ok (.iadd, 1) := by decide +kernel
theorem dX10_traced_10 : decode cX10_traced 10 = .ok (.putfield 272, 3) := by decide +kernel
theorem dX10_traced_13 : decode cX10_traced 13 = .ok (.return_, 1) := by decide +kernel
theorem dX10_tell_0 : decode cX10_tell 0 = .ok (.aload_n 0, 1) := by decide +kernel
theorem dX10_tell_1 : decode cX10_tell 1 = .ok (.iload_n 1, 1) := by decide +kernel
theorem dX10_tell_2 : decode cX10_tell 2 = .ok (.invokevirtual 164, 3) := by decide +kernel
theorem dX10_tell_5 : decode cX10_tell 5 = .ok (.ifCond .eq 5, 3) := by decide +kernel
theorem dX10_tell_8 : decode cX10_tell 8 = .ok (.iconst (-1), 1) := by decide +kernel
theorem dX10_tell_9 : decode cX10_tell 9 = .ok (.ireturn, 1) := by decide +kernel
theorem dX10_tell_10 : decode cX10_tell 10 = .ok (.aload_n 0, 1) := by decide +kernel
theorem dX10_tell_11 : decode cX10_tell 11 = .ok (.getfield 7, 3) := by decide +kernel
theorem dX10_tell_14 : decode cX10_tell 14 = .ok (.iload_n 1, 1) := by decide +kernel
theorem dX10_tell_15 : decode cX10_tell 15 = .ok (.iaload, 1) := by decide +kernel
theorem dX10_tell_16 : decode cX10_tell 16 = .ok (.istore_n 2, 1) := by decide +kernel
theorem dX10_tell_17 : decode cX10_tell 17 = .ok (.iload_n 2, 1) := by decide +kernel
theorem dX10_tell_18 : decode cX10_tell 18 = .ok (.iconst 2, 1) := by decide +kernel
theorem dX10_tell_19 : decode cX10_tell 19 = .ok (.if_icmp .ne 8, 3) := by decide +kernel
theorem dX10_tell_22 : decode cX10_tell 22 = .ok (.aload_n 0, 1) := by decide +kernel
theorem dX10_tell_23 : decode cX10_tell 23 = .ok (.iconst 3, 1) := by decide +kernel
theorem dX10_tell_24 : decode cX10_tell 24 = .ok (.invokevirtual 275, 3) := by decide +kernel
theorem dX10_tell_27 : decode cX10_tell 27 = .ok (.iload_n 2, 1) := by decide +kernel
theorem dX10_tell_28 : decode cX10_tell 28 = .ok (.ifCond .le 8, 3) := by decide +kernel
theorem dX10_tell_31 : decode cX10_tell 31 = .ok (.aload_n 0, 1) := by decide +kernel
theorem dX10_tell_32 : decode cX10_tell 32 = .ok (.iconst 2, 1) := by decide +kernel
theorem dX10_tell_33 : decode cX10_tell 33 = .ok (.invokevirtual 275, 3) := by decide +kernel
theorem dX10_tell_36 : decode cX10_tell 36 = .ok (.aload_n 0, 1) := by decide +kernel
theorem dX10_tell_37 : decode cX10_tell 37 = .ok (.iconst 1, 1) := by decide +kernel
theorem dX10_tell_38 : decode cX10_tell 38 = .ok (.invokevirtual 275, 3) := by decide +kernel
theorem dX10_tell_41 : decode cX10_tell 41 = .ok (.iload_n 2, 1) := by decide +kernel
theorem dX10_tell_42 : decode cX10_tell 42 = .ok (.iconst 2, 1) := by decide +kernel
theorem dX10_tell_43 : decode cX10_tell 43 = .ok (.if_icmp .ne 8, 3) := by decide +kernel
theorem dX10_tell_46 : decode cX10_tell 46 = .ok (.aload_n 0, 1) := by decide +kernel
theorem dX10_tell_47 : decode cX10_tell 47 = .ok (.iconst 1, 1) := by decide +kernel
theorem dX10_tell_48 : decode cX10_tell 48 = .ok (.invokevirtual 275, 3) := by decide +kernel
theorem dX10_tell_51 : decode cX10_tell 51 = .ok (.aload_n 0, 1) := by decide +kernel
theorem dX10_tell_52 : decode cX10_tell 52 = .ok (.getfield 16, 3) := by decide +kernel
theorem dX10_tell_55 : decode cX10_tell 55 = .ok (.iload_n 1, 1) := by decide +kernel
theorem dX10_tell_56 : decode cX10_tell 56 = .ok (.iaload, 1) := by decide +kernel
theorem dX10_tell_57 : decode cX10_tell 57 = .ok (.istore_n 3, 1) := by decide +kernel
theorem dX10_tell_58 : decode cX10_tell 58 = .ok (.iload_n 2, 1) := by decide +kernel
theorem dX10_tell_59 : decode cX10_tell 59 = .ok (.ifCond .ne 7, 3) := by decide +kernel
theorem dX10_tell_62 : decode cX10_tell 62 = .ok (.iload_n 3, 1) := by decide +kernel
theorem dX10_tell_63 : decode cX10_tell 63 = .ok (.goto 21, 3) := by decide +kernel
theorem dX10_tell_66 : decode cX10_tell 66 = .ok (.iload_n 2, 1) := by decide +kernel
theorem dX10_tell_67 : decode cX10_tell 67 = .ok (.iconst 1, 1) := by decide +kernel
theorem dX10_tell_68 : decode cX10_tell 68 = .ok (.if_icmp .ne 10, 3) := by decide +kernel
theorem dX10_tell_71 : decode cX10_tell 71 = .ok (.iload_n 3, 1) := by decide +kernel
theorem dX10_tell_72 : decode cX10_tell 72 = .ok (.bipush 100, 2) := by decide +kernel
theorem dX10_tell_74 : decode cX10_tell 74 = .ok (.iadd, 1) := by decide +kernel
theorem dX10_tell_75 : decode cX10_tell 75 = .ok (.goto 9, 3) := by decide +kernel
theorem dX10_tell_78 : decode cX10_tell 78 = .ok (.iconst 2, 1) := by decide +kernel
theorem dX10_tell_79 : decode cX10_tell 79 = .ok (.iload_n 3, 1) := by decide +kernel
theorem dX10_tell_80 : decode cX10_tell 80 = .ok (.imul, 1) := by decide +kernel
theorem dX10_tell_81 : decode cX10_tell 81 = .ok (.bipush 100, 2) := by decide +kernel
theorem dX10_tell_83 : decode cX10_tell 83 = .ok (.iadd, 1) := by decide +kernel
theorem dX10_tell_84 : decode cX10_tell 84 = .ok (.ireturn, 1) := by decide +kernel
theorem dX10_ring_0 : decode cX10_ring 0 = .ok (.aload_n 0, 1) := by decide +kernel
theorem dX10_ring_1 : decode cX10_ring 1 = .ok (.iload_n 1, 1) := by decide +kernel
theorem dX10_ring_2 : decode cX10_ring 2 = .ok (.invokevirtual 164, 3) := by decide +kernel
theorem dX10_ring_5 : decode cX10_ring 5 = .ok (.ifCond .eq 5, 3) := by decide +kernel
theorem dX10_ring_8 : decode cX10_ring 8 = .ok (.iconst (-1), 1) := by decide +kernel
theorem dX10_ring_9 : decode cX10_ring 9 = .ok (.ireturn, 1) := by decide +kernel
theorem dX10_ring_10 : decode cX10_ring 10 = .ok (.aload_n 0, 1) := by decide +kernel
theorem dX10_ring_11 : decode cX10_ring 11 = .ok (.aload_n 0, 1) := by decide +kernel
theorem dX10_ring_12 : decode cX10_ring 12 = .ok (.getfield 7, 3) := by decide +kernel
theorem dX10_ring_15 : decode cX10_ring 15 = .ok (.iload_n 1, 1) := by decide +kernel
theorem dX10_ring_16 : decode cX10_ring 16 = .ok (.iaload, 1) := by decide +kernel
theorem dX10_ring_17 : decode cX10_ring 17 = .ok (.iconst 2, 1) := by decide +kernel
theorem dX10_ring_18 : decode cX10_ring 18 = .ok (.if_icmp .ne 7, 3) := by decide +kernel
theorem dX10_ring_21 : decode cX10_ring 21 = .ok (.iconst 5, 1) := by decide +kernel
theorem dX10_ring_22 : decode cX10_ring 22 = .ok (.goto 4, 3) := by decide +kernel
theorem dX10_ring_25 : decode cX10_ring 25 = .ok (.iconst 4, 1) := by decide +kernel
theorem dX10_ring_26 : decode cX10_ring 26 = .ok (.invokevirtual 275, 3) := by decide +kernel
theorem dX10_ring_29 : decode cX10_ring 29 = .ok (.aload_n 0, 1) := by decide +kernel
theorem dX10_ring_30 : decode cX10_ring 30 = .ok (.getfield 7, 3) := by decide +kernel
theorem dX10_ring_33 : decode cX10_ring 33 = .ok (.iload_n 1, 1) := by decide +kernel
theorem dX10_ring_34 : decode cX10_ring 34 = .ok (.iaload, 1) := by decide +kernel
theorem dX10_ring_35 : decode cX10_ring 35 = .ok (.iconst 2, 1) := by decide +kernel
theorem dX10_ring_36 : decode cX10_ring 36 = .ok (.if_icmp .ne 8, 3) := by decide +kernel
theorem dX10_ring_39 : decode cX10_ring 39 = .ok (.bipush 80, 2) := by decide +kernel
theorem dX10_ring_41 : decode cX10_ring 41 = .ok (.goto 4, 3) := by decide +kernel
theorem dX10_ring_44 : decode cX10_ring 44 = .ok (.iload_n 1, 1) := by decide +kernel
theorem dX10_ring_45 : decode cX10_ring 45 = .ok (.ireturn, 1) := by decide +kernel
theorem dX10_as_0 : decode cX10_as 0 = .ok (.aload_n 0, 1) := by decide +kernel
theorem dX10_as_1 : decode cX10_as 1 = .ok (.iload_n 1, 1) := by decide +kernel
theorem dX10_as_2 : decode cX10_as 2 = .ok (.invokevirtual 164, 3) := by decide +kernel
theorem dX10_as_5 : decode cX10_as 5 = .ok (.ifCond .eq 9, 3) := by decide +kernel
theorem dX10_as_8 : decode cX10_as 8 = .ok (.aload_n 0, 1) := by decide +kernel
theorem dX10_as_9 : decode cX10_as 9 = .ok (.iconst (-1), 1) := by decide +kernel
theorem dX10_as_10 : decode cX10_as 10 = .ok (.invokevirtual 91, 3) := by decide +kernel
theorem dX10_as_13 : decode cX10_as 13 = .ok (.ireturn, 1) := by decide +kernel
theorem dX10_as_14 : decode cX10_as 14 = .ok (.iload_n 2, 1) := by decide +kernel
theorem dX10_as_15 : decode cX10_as 15 = .ok (.i2l, 1) := by decide +kernel
theorem dX10_as_16 : decode cX10_as 16 = .ok (.lconst 0, 1) := by decide +kernel
theorem dX10_as_17 : decode cX10_as 17 = .ok (.ldc2_w 95, 3) := by decide +kernel
theorem dX10_as_20 : decode cX10_as 20 = .ok (.invokestatic 97, 3) := by decide +kernel
theorem dX10_as_23 : decode cX10_as 23 = .ok (.ifCond .ne 10, 3) := by decide +kernel
theorem dX10_as_26 : decode cX10_as 26 = .ok (.aload_n 0, 1) := by decide +kernel
theorem dX10_as_27 : decode cX10_as 27 = .ok (.bipush (-2), 2) := by decide +kernel
theorem dX10_as_29 : decode cX10_as 29 = .ok (.invokevirtual 91, 3) := by decide +kernel
theorem dX10_as_32 : decode cX10_as 32 = .ok (.ireturn, 1) := by decide +kernel
theorem dX10_as_33 : decode cX10_as 33 = .ok (.aload_n 0, 1) := by decide +kernel
theorem dX10_as_34 : decode cX10_as 34 = .ok (.getfield 7, 3) := by decide +kernel
theorem dX10_as_37 : decode cX10_as 37 = .ok (.iload_n 1, 1) := by decide +kernel
theorem dX10_as_38 : decode cX10_as 38 = .ok (.iaload, 1) := by decide +kernel
theorem dX10_as_39 : decode cX10_as 39 = .ok (.iload_n 2, 1) := by decide +kernel
theorem dX10_as_40 : decode cX10_as 40 = .ok (.if_icmp .lt 11, 3) := by decide +kernel
theorem dX10_as_43 : decode cX10_as 43 = .ok (.aload_n 0, 1) := by decide +kernel
theorem dX10_as_44 : decode cX10_as 44 = .ok (.iconst 1, 1) := by decide +kernel
theorem dX10_as_45 : decode cX10_as 45 = .ok (.invokevirtual 91, 3) := by decide +kernel
theorem dX10_as_48 : decode cX10_as 48 = .ok (.goto 8, 3) := by decide +kernel
theorem dX10_as_51 : decode cX10_as 51 = .ok (.aload_n 0, 1) := by decide +kernel
theorem dX10_as_52 : decode cX10_as 52 = .ok (.iconst 2, 1) := by decide +kernel
theorem dX10_as_53 : decode cX10_as 53 = .ok (.invokevirtual 101, 3) := by decide +kernel
theorem dX10_as_56 : decode cX10_as 56 = .ok (.ireturn, 1) := by decide +kernel
theorem dX10_trace_0 : decode cX10_trace 0 = .ok (.aload_n 0, 1) := by decide +kernel
theorem dX10_trace_1 : decode cX10_trace 1 = .ok (.getfield 272, 3) := by decide +kernel
theorem dX10_trace_4 : decode cX10_trace 4 = .ok (.ireturn, 1) := by decide +kernel
theorem dX10_fault_0 : decode cX10_fault 0 = .ok (.aload_n 0, 1) := by decide +kernel
theorem dX10_fault_1 : decode cX10_fault 1 = .ok (.getfield 79, 3) := by decide +kernel
theorem dX10_fault_4 : decode cX10_fault 4 = .ok (.ireturn, 1) := by decide +kernel
theorem dX10_many_0 : decode cX10_many 0 = .ok (.iload_n 1, 1) := by decide +kernel
theorem dX10_many_1 : decode cX10_many 1 = .ok (.tableswitch 51 0 3 #[31, 36, 41, 46], 31) := by decide +kernel
theorem dX10_many_32 : decode cX10_many 32 = .ok (.aload_n 0, 1) := by decide +kernel
theorem dX10_many_33 : decode cX10_many 33 = .ok (.getfield 108, 3) := by decide +kernel
theorem dX10_many_36 : decode cX10_many 36 = .ok (.ireturn, 1) := by decide +kernel
theorem dX10_many_37 : decode cX10_many 37 = .ok (.aload_n 0, 1) := by decide +kernel
theorem dX10_many_38 : decode cX10_many 38 = .ok (.getfield 111, 3) := by decide +kernel
theorem dX10_many_41 : decode cX10_many 41 = .ok (.ireturn, 1) := by decide +kernel
theorem dX10_many_42 : decode cX10_many 42 = .ok (.aload_n 0, 1) := by decide +kernel
theorem dX10_many_43 : decode cX10_many 43 = .ok (.getfield 145, 3) := by decide +kernel
theorem dX10_many_46 : decode cX10_many 46 = .ok (.ireturn, 1) := by decide +kernel
theorem dX10_many_47 : decode cX10_many 47 = .ok (.aload_n 0, 1) := by decide +kernel
theorem dX10_many_48 : decode cX10_many 48 = .ok (.getfield 148, 3) := by decide +kernel
theorem dX10_many_51 : decode cX10_many 51 = .ok (.ireturn, 1) := by decide +kernel
theorem dX10_many_52 : decode cX10_many 52 = .ok (.bipush (-2), 2) := by decide +kernel
theorem dX10_many_54 : decode cX10_many 54 = .ok (.ireturn, 1) := by decide +kernel
end
section
theorem dL_law_0 : decode cL_law 0 = .ok (.new 7, 3) := by decide +kernel
theorem dL_law_3 : decode cL_law 3 = .ok (.dup, 1) := by decide +kernel
theorem dL_law_4 : decode cL_law 4 = .ok (.invokespecial 9, 3) := by decide +kernel
theorem dL_law_7 : decode cL_law 7 = .ok (.astore_n 1, 1) := by decide +kernel
theorem dL_law_8 : decode cL_law 8 = .ok (.new 10, 3) := by decide +kernel
theorem dL_law_11 : decode cL_law 11 = .ok (.dup, 1) := by decide +kernel
theorem dL_law_12 : decode cL_law 12 = .ok (.invokespecial 12, 3) := by decide +kernel
theorem dL_law_15 : decode cL_law 15 = .ok (.astore_n 2, 1) := by decide +kernel
theorem dL_law_16 : decode cL_law 16 = .ok (.iconst 0, 1) := by decide +kernel
theorem dL_law_17 : decode cL_law 17 = .ok (.istore_n 3, 1) := by decide +kernel
theorem dL_law_18 : decode cL_law 18 = .ok (.iload_n 3, 1) := by decide +kernel
theorem dL_law_19 : decode cL_law 19 = .ok (.aload_n 0, 1) := by decide +kernel
theorem dL_law_20 : decode cL_law 20 = .ok (.arraylength, 1) := by decide +kernel
theorem dL_law_21 : decode cL_law 21 = .ok (.bipush 6, 2) := by decide +kernel
theorem dL_law_23 : decode cL_law 23 = .ok (.isub, 1) := by decide +kernel
theorem dL_law_24 : decode cL_law 24 = .ok (.if_icmp .gt 1231, 3) := by decide +kernel
theorem dL_law_27 : decode cL_law 27 = .ok (.aload_n 0, 1) := by decide +kernel
theorem dL_law_28 : decode cL_law 28 = .ok (.iload_n 3, 1) := by decide +kernel
theorem dL_law_29 : decode cL_law 29 = .ok (.iaload, 1) := by decide +kernel
theorem dL_law_30 : decode cL_law 30 = .ok (.bipush 31, 2) := by decide +kernel
theorem dL_law_32 : decode cL_law 32 = .ok (.iand, 1) := by decide +kernel
theorem dL_law_33 : decode cL_law 33 = .ok (.tableswitch 1216 0 29 #[135, 188, 221, 254, 287, 320, 353, 386, 419, 452, 485, 518, 561, 594, 637, 680, 713, 766, 829, 872, 915, 938, 981, 1025, 1088, 1111, 1134, 1167, 1180, 1193], 135) := by decide +kernel
theorem dL_law_168 : decode cL_law 168 = .ok (.aload_n 1, 1) := by decide +kernel
theorem dL_law_169 : decode cL_law 169 = .ok (.aload_n 0, 1) := by decide +kernel
theorem dL_law_170 : decode cL_law 170 = .ok (.iload_n 3, 1) := by decide +kernel
theorem dL_law_171 : decode cL_law 171 = .ok (.iconst 1, 1) := by decide +kernel
theorem dL_law_172 : decode cL_law 172 = .ok (.iadd, 1) := by decide +kernel
theorem dL_law_173 : decode cL_law 173 = .ok (.iaload, 1) := by decide +kernel
theorem dL_law_174 : decode cL_law 174 = .ok (.aload_n 0, 1) := by decide +kernel
theorem dL_law_175 : decode cL_law 175 = .ok (.iload_n 3, 1) := by decide +kernel
theorem dL_law_176 : decode cL_law 176 = .ok (.iconst 2, 1) := by decide +kernel
theorem dL_law_177 : decode cL_law 177 = .ok (.iadd, 1) := by decide +kernel
theorem dL_law_178 : decode cL_law 178 = .ok (.iaload, 1) := by decide +kernel
theorem dL_law_179 : decode cL_law 179 = .ok (.aload_n 0, 1) := by decide +kernel
theorem dL_law_180 : decode cL_law 180 = .ok (.iload_n 3, 1) := by decide +kernel
theorem dL_law_181 : decode cL_law 181 = .ok (.iconst 3, 1) := by decide +kernel
theorem dL_law_182 : decode cL_law 182 = .ok (.iadd, 1) := by decide +kernel
theorem dL_law_183 : decode cL_law 183 = .ok (.iaload, 1) := by decide +kernel
theorem dL_law_184 : decode cL_law 184 = .ok (.aload_n 0, 1) := by decide +kernel
theorem dL_law_185 : decode cL_law 185 = .ok (.iload_n 3, 1) := by decide +kernel
theorem dL_law_186 : decode cL_law 186 = .ok (.iconst 4, 1) := by decide +kernel
theorem dL_law_187 : decode cL_law 187 = .ok (.iadd, 1) := by decide +kernel
theorem dL_law_188 : decode cL_law 188 = .ok (.iaload, 1) := by decide +kernel
theorem dL_law_189 : decode cL_law 189 = .ok (.invokevirtual 13, 3) := by decide +kernel
theorem dL_law_192 : decode cL_law 192 = .ok (.aload_n 2, 1) := by decide +kernel
theorem dL_law_193 : decode cL_law 193 = .ok (.aload_n 0, 1) := by decide +kernel
theorem dL_law_194 : decode cL_law 194 = .ok (.iload_n 3, 1) := by decide +kernel
theorem dL_law_195 : decode cL_law 195 = .ok (.iconst 1, 1) := by decide +kernel
theorem dL_law_196 : decode cL_law 196 = .ok (.iadd, 1) := by decide +kernel
theorem dL_law_197 : decode cL_law 197 = .ok (.iaload, 1) := by decide +kernel
theorem dL_law_198 : decode cL_law 198 = .ok (.aload_n 0, 1) := by decide +kernel
theorem dL_law_199 : decode cL_law 199 = .ok (.iload_n 3, 1) := by decide +kernel
theorem dL_law_200 : decode cL_law 200 = .ok (.iconst 2, 1) := by decide +kernel
theorem dL_law_201 : decode cL_law 201 = .ok (.iadd, 1) := by decide +kernel
theorem dL_law_202 : decode cL_law 202 = .ok (.iaload, 1) := by decide +kernel
theorem dL_law_203 : decode cL_law 203 = .ok (.aload_n 0, 1) := by decide +kernel
theorem dL_law_204 : decode cL_law 204 = .ok (.iload_n 3, 1) := by decide +kernel
theorem dL_law_205 : decode cL_law 205 = .ok (.iconst 3, 1) := by decide +kernel
theorem dL_law_206 : decode cL_law 206 = .ok (.iadd, 1) := by decide +kernel
theorem dL_law_207 : decode cL_law 207 = .ok (.iaload, 1) := by decide +kernel
theorem dL_law_208 : decode cL_law 208 = .ok (.aload_n 0, 1) := by decide +kernel
theorem dL_law_209 : decode cL_law 209 = .ok (.iload_n 3, 1) := by decide +kernel
theorem dL_law_210 : decode cL_law 210 = .ok (.iconst 4, 1) := by decide +kernel
theorem dL_law_211 : decode cL_law 211 = .ok (.iadd, 1) := by decide +kernel
theorem dL_law_212 : decode cL_law 212 = .ok (.iaload, 1) := by decide +kernel
theorem dL_law_213 : decode cL_law 213 = .ok (.invokevirtual 17, 3) := by decide +kernel
theorem dL_law_216 : decode cL_law 216 = .ok (.if_icmp .eq 1033, 3) := by decide +kernel
theorem dL_law_219 : decode cL_law 219 = .ok (.iconst 0, 1) := by decide +kernel
theorem dL_law_220 : decode cL_law 220 = .ok (.ireturn, 1) := by decide +kernel
theorem dL_law_221 : decode cL_law 221 = .ok (.aload_n 1, 1) := by decide +kernel
theorem dL_law_222 : decode cL_law 222 = .ok (.aload_n 0, 1) := by decide +kernel
theorem dL_law_223 : decode cL_law 223 = .ok (.iload_n 3, 1) := by decide +kernel
theorem dL_law_224 : decode cL_law 224 = .ok (.iconst 1, 1) := by decide +kernel
theorem dL_law_225 : decode cL_law 225 = .ok (.iadd, 1) := by decide +kernel
theorem dL_law_226 : decode cL_law 226 = .ok (.iaload, 1) := by decide +kernel
theorem dL_law_227 : decode cL_law 227 = .ok (.aload_n 0, 1) := by decide +kernel
theorem dL_law_228 : decode cL_law 228 = .ok (.iload_n 3, 1) := by decide +kernel
theorem dL_law_229 : decode cL_law 229 = .ok (.iconst 2, 1) := by decide +kernel
theorem dL_law_230 : decode cL_law 230 = .ok (.iadd, 1) := by decide +kernel
theorem dL_law_231 : decode cL_law 231 = .ok (.iaload, 1) := by decide +kernel
theorem dL_law_232 : decode cL_law 232 = .ok (.invokevirtual 18, 3) := by decide +kernel
theorem dL_law_235 : decode cL_law 235 = .ok (.aload_n 2, 1) := by decide +kernel
theorem dL_law_236 : decode cL_law 236 = .ok (.aload_n 0, 1) := by decide +kernel
theorem dL_law_237 : decode cL_law 237 = .ok (.iload_n 3, 1) := by decide +kernel
theorem dL_law_238 : decode cL_law 238 = .ok (.iconst 1, 1) := by decide +kernel
theorem dL_law_239 : decode cL_law 239 = .ok (.iadd, 1) := by decide +kernel
theorem dL_law_240 : decode cL_law 240 = .ok (.iaload, 1) := by decide +kernel
theorem dL_law_241 : decode cL_law 241 = .ok (.aload_n 0, 1) := by decide +kernel
theorem dL_law_242 : decode cL_law 242 = .ok (.iload_n 3, 1) := by decide +kernel
theorem dL_law_243 : decode cL_law 243 = .ok (.iconst 2, 1) := by decide +kernel
theorem dL_law_244 : decode cL_law 244 = .ok (.iadd, 1) := by decide +kernel
theorem dL_law_245 : decode cL_law 245 = .ok (.iaload, 1) := by decide +kernel
theorem dL_law_246 : decode cL_law 246 = .ok (.invokevirtual 22, 3) := by decide +kernel
theorem dL_law_249 : decode cL_law 249 = .ok (.if_icmp .eq 1000, 3) := by decide +kernel
theorem dL_law_252 : decode cL_law 252 = .ok (.iconst 0, 1) := by decide +kernel
theorem dL_law_253 : decode cL_law 253 = .ok (.ireturn, 1) := by decide +kernel
theorem dL_law_254 : decode cL_law 254 = .ok (.aload_n 1, 1) := by decide +kernel
theorem dL_law_255 : decode cL_law 255 = .ok (.aload_n 0, 1) := by decide +kernel
theorem dL_law_256 : decode cL_law 256 = .ok (.iload_n 3, 1) := by decide +kernel
theorem dL_law_257 : decode cL_law 257 = .ok (.iconst 1, 1) := by decide +kernel
theorem dL_law_258 : decode cL_law 258 = .ok (.iadd, 1) := by decide +kernel
theorem dL_law_259 : decode cL_law 259 = .ok (.iaload, 1) := by decide +kernel
theorem dL_law_260 : decode cL_law 260 = .ok (.aload_n 0, 1) := by decide +kernel
theorem dL_law_261 : decode cL_law 261 = .ok (.iload_n 3, 1) := by decide +kernel
theorem dL_law_262 : decode cL_law 262 = .ok (.iconst 2, 1) := by decide +kernel
theorem dL_law_263 : decode cL_law 263 = .ok (.iadd, 1) := by decide +kernel
theorem dL_law_264 : decode cL_law 264 = .ok (.iaload, 1) := by decide +kernel
theorem dL_law_265 : decode cL_law 265 = .ok (.invokevirtual 23, 3) := by decide +kernel
theorem dL_law_268 : decode cL_law 268 = .ok (.aload_n 2, 1) := by decide +kernel
theorem dL_law_269 : decode cL_law 269 = .ok (.aload_n 0, 1) := by decide +kernel
theorem dL_law_270 : decode cL_law 270 = .ok (.iload_n 3, 1) := by decide +kernel
theorem dL_law_271 : decode cL_law 271 = .ok (.iconst 1, 1) := by decide +kernel
theorem dL_law_272 : decode cL_law 272 = .ok (.iadd, 1) := by decide +kernel
theorem dL_law_273 : decode cL_law 273 = .ok (.iaload, 1) := by decide +kernel
theorem dL_law_274 : decode cL_law 274 = .ok (.aload_n 0, 1) := by decide +kernel
theorem dL_law_275 : decode cL_law 275 = .ok (.iload_n 3, 1) := by decide +kernel
theorem dL_law_276 : decode cL_law 276 = .ok (.iconst 2, 1) := by decide +kernel
theorem dL_law_277 : decode cL_law 277 = .ok (.iadd, 1) := by decide +kernel
theorem dL_law_278 : decode cL_law 278 = .ok (.iaload, 1) := by decide +kernel
theorem dL_law_279 : decode cL_law 279 = .ok (.invokevirtual 26, 3) := by decide +kernel
theorem dL_law_282 : decode cL_law 282 = .ok (.if_icmp .eq 967, 3) := by decide +kernel
theorem dL_law_285 : decode cL_law 285 = .ok (.iconst 0, 1) := by decide +kernel
theorem dL_law_286 : decode cL_law 286 = .ok (.ireturn, 1) := by decide +kernel
theorem dL_law_287 : decode cL_law 287 = .ok (.aload_n 1, 1) := by decide +kernel
theorem dL_law_288 : decode cL_law 288 = .ok (.aload_n 0, 1) := by decide +kernel
theorem dL_law_289 : decode cL_law 289 = .ok (.iload_n 3, 1) := by decide +kernel
theorem dL_law_290 : decode cL_law 290 = .ok (.iconst 1, 1) := by decide +kernel
theorem dL_law_291 : decode cL_law 291 = .ok (.iadd, 1) := by decide +kernel
theorem dL_law_292 : decode cL_law 292 = .ok (.iaload, 1) := by decide +kernel
theorem dL_law_293 : decode cL_law 293 = .ok (.aload_n 0, 1) := by decide +kernel
theorem dL_law_294 : decode cL_law 294 = .ok (.iload_n 3, 1) := by decide +kernel
theorem dL_law_295 : decode cL_law 295 = .ok (.iconst 2, 1) := by decide +kernel
theorem dL_law_296 : decode cL_law 296 = .ok (.iadd, 1) := by decide +kernel
theorem dL_law_297 : decode cL_law 297 = .ok (.iaload, 1) := by decide +kernel
theorem dL_law_298 : decode cL_law 298 = .ok (.invokevirtual 27, 3) := by decide +kernel
theorem dL_law_301 : decode cL_law 301 = .ok (.aload_n 2, 1) := by decide +kernel
theorem dL_law_302 : decode cL_law 302 = .ok (.aload_n 0, 1) := by decide +kernel
theorem dL_law_303 : decode cL_law 303 = .ok (.iload_n 3, 1) := by decide +kernel
theorem dL_law_304 : decode cL_law 304 = .ok (.iconst 1, 1) := by decide +kernel
theorem dL_law_305 : decode cL_law 305 = .ok (.iadd, 1) := by decide +kernel
theorem dL_law_306 : decode cL_law 306 = .ok (.iaload, 1) := by decide +kernel
theorem dL_law_307 : decode cL_law 307 = .ok (.aload_n 0, 1) := by decide +kernel
theorem dL_law_308 : decode cL_law 308 = .ok (.iload_n 3, 1) := by decide +kernel
theorem dL_law_309 : decode cL_law 309 = .ok (.iconst 2, 1) := by decide +kernel
theorem dL_law_310 : decode cL_law 310 = .ok (.iadd, 1) := by decide +kernel
theorem dL_law_311 : decode cL_law 311 = .ok (.iaload, 1) := by decide +kernel
theorem dL_law_312 : decode cL_law 312 = .ok (.invokevirtual 30, 3) := by decide +kernel
theorem dL_law_315 : decode cL_law 315 = .ok (.if_icmp .eq 934, 3) := by decide +kernel
theorem dL_law_318 : decode cL_law 318 = .ok (.iconst 0, 1) := by decide +kernel
theorem dL_law_319 : decode cL_law 319 = .ok (.ireturn, 1) := by decide +kernel
theorem dL_law_320 : decode cL_law 320 = .ok (.aload_n 1, 1) := by decide +kernel
theorem dL_law_321 : decode cL_law 321 = .ok (.aload_n 0, 1) := by decide +kernel
theorem dL_law_322 : decode cL_law 322 = .ok (.iload_n 3, 1) := by decide +kernel
theorem dL_law_323 : decode cL_law 323 = .ok (.iconst 1, 1) := by decide +kernel
theorem dL_law_324 : decode cL_law 324 = .ok (.iadd, 1) := by decide +kernel
theorem dL_law_325 : decode cL_law 325 = .ok (.iaload, 1) := by decide +kernel
theorem dL_law_326 : decode cL_law 326 = .ok (.aload_n 0, 1) := by decide +kernel
theorem dL_law_327 : decode cL_law 327 = .ok (.iload_n 3, 1) := by decide +kernel
theorem dL_law_328 : decode cL_law 328 = .ok (.iconst 2, 1) := by decide +kernel
theorem dL_law_329 : decode cL_law 329 = .ok (.iadd, 1) := by decide +kernel
theorem dL_law_330 : decode cL_law 330 = .ok (.iaload, 1) := by decide +kernel
theorem dL_law_331 : decode cL_law 331 = .ok (.invokevirtual 31, 3) := by decide +kernel
theorem dL_law_334 : decode cL_law 334 = .ok (.aload_n 2, 1) := by decide +kernel
theorem dL_law_335 : decode cL_law 335 = .ok (.aload_n 0, 1) := by decide +kernel
theorem dL_law_336 : decode cL_law 336 = .ok (.iload_n 3, 1) := by decide +kernel
theorem dL_law_337 : decode cL_law 337 = .ok (.iconst 1, 1) := by decide +kernel
theorem dL_law_338 : decode cL_law 338 = .ok (.iadd, 1) := by decide +kernel
theorem dL_law_339 : decode cL_law 339 = .ok (.iaload, 1) := by decide +kernel
theorem dL_law_340 : decode cL_law 340 = .ok (.aload_n 0, 1) := by decide +kernel
theorem dL_law_341 : decode cL_law 341 = .ok (.iload_n 3, 1) := by decide +kernel
theorem dL_law_342 : decode cL_law 342 = .ok (.iconst 2, 1) := by decide +kernel
theorem dL_law_343 : decode cL_law 343 = .ok (.iadd, 1) := by decide +kernel
theorem dL_law_344 : decode cL_law 344 = .ok (.iaload, 1) := by decide +kernel
theorem dL_law_345 : decode cL_law 345 = .ok (.invokevirtual 34, 3) := by decide +kernel
theorem dL_law_348 : decode cL_law 348 = .ok (.if_icmp .eq 901, 3) := by decide +kernel
theorem dL_law_351 : decode cL_law 351 = .ok (.iconst 0, 1) := by decide +kernel
theorem dL_law_352 : decode cL_law 352 = .ok (.ireturn, 1) := by decide +kernel
theorem dL_law_353 : decode cL_law 353 = .ok (.aload_n 1, 1) := by decide +kernel
theorem dL_law_354 : decode cL_law 354 = .ok (.aload_n 0, 1) := by decide +kernel
theorem dL_law_355 : decode cL_law 355 = .ok (.iload_n 3, 1) := by decide +kernel
theorem dL_law_356 : decode cL_law 356 = .ok (.iconst 1, 1) := by decide +kernel
theorem dL_law_357 : decode cL_law 357 = .ok (.iadd, 1) := by decide +kernel
theorem dL_law_358 : decode cL_law 358 = .ok (.iaload, 1) := by decide +kernel
theorem dL_law_359 : decode cL_law 359 = .ok (.aload_n 0, 1) := by decide +kernel
theorem dL_law_360 : decode cL_law 360 = .ok (.iload_n 3, 1) := by decide +kernel
theorem dL_law_361 : decode cL_law 361 = .ok (.iconst 2, 1) := by decide +kernel
theorem dL_law_362 : decode cL_law 362 = .ok (.iadd, 1) := by decide +kernel
theorem dL_law_363 : decode cL_law 363 = .ok (.iaload, 1) := by decide +kernel
theorem dL_law_364 : decode cL_law 364 = .ok (.invokevirtual 35, 3) := by decide +kernel
theorem dL_law_367 : decode cL_law 367 = .ok (.aload_n 2, 1) := by decide +kernel
theorem dL_law_368 : decode cL_law 368 = .ok (.aload_n 0, 1) := by decide +kernel
theorem dL_law_369 : decode cL_law 369 = .ok (.iload_n 3, 1) := by decide +kernel
theorem dL_law_370 : decode cL_law 370 = .ok (.iconst 1, 1) := by decide +kernel
theorem dL_law_371 : decode cL_law 371 = .ok (.iadd, 1) := by decide +kernel
theorem dL_law_372 : decode cL_law 372 = .ok (.iaload, 1) := by decide +kernel
theorem dL_law_373 : decode cL_law 373 = .ok (.aload_n 0, 1) := by decide +kernel
theorem dL_law_374 : decode cL_law 374 = .ok (.iload_n 3, 1) := by decide +kernel
theorem dL_law_375 : decode cL_law 375 = .ok (.iconst 2, 1) := by decide +kernel
theorem dL_law_376 : decode cL_law 376 = .ok (.iadd, 1) := by decide +kernel
theorem dL_law_377 : decode cL_law 377 = .ok (.iaload, 1) := by decide +kernel
theorem dL_law_378 : decode cL_law 378 = .ok (.invokevirtual 38, 3) := by decide +kernel
theorem dL_law_381 : decode cL_law 381 = .ok (.if_icmp .eq 868, 3) := by decide +kernel
theorem dL_law_384 : decode cL_law 384 = .ok (.iconst 0, 1) := by decide +kernel
theorem dL_law_385 : decode cL_law 385 = .ok (.ireturn, 1) := by decide +kernel
theorem dL_law_386 : decode cL_law 386 = .ok (.aload_n 1, 1) := by decide +kernel
theorem dL_law_387 : decode cL_law 387 = .ok (.aload_n 0, 1) := by decide +kernel
theorem dL_law_388 : decode cL_law 388 = .ok (.iload_n 3, 1) := by decide +kernel
theorem dL_law_389 : decode cL_law 389 = .ok (.iconst 1, 1) := by decide +kernel
theorem dL_law_390 : decode cL_law 390 = .ok (.iadd, 1) := by decide +kernel
theorem dL_law_391 : decode cL_law 391 = .ok (.iaload, 1) := by decide +kernel
theorem dL_law_392 : decode cL_law 392 = .ok (.aload_n 0, 1) := by decide +kernel
theorem dL_law_393 : decode cL_law 393 = .ok (.iload_n 3, 1) := by decide +kernel
theorem dL_law_394 : decode cL_law 394 = .ok (.iconst 2, 1) := by decide +kernel
theorem dL_law_395 : decode cL_law 395 = .ok (.iadd, 1) := by decide +kernel
theorem dL_law_396 : decode cL_law 396 = .ok (.iaload, 1) := by decide +kernel
theorem dL_law_397 : decode cL_law 397 = .ok (.invokevirtual 39, 3) := by decide +kernel
theorem dL_law_400 : decode cL_law 400 = .ok (.aload_n 2, 1) := by decide +kernel
theorem dL_law_401 : decode cL_law 401 = .ok (.aload_n 0, 1) := by decide +kernel
theorem dL_law_402 : decode cL_law 402 = .ok (.iload_n 3, 1) := by decide +kernel
theorem dL_law_403 : decode cL_law 403 = .ok (.iconst 1, 1) := by decide +kernel
theorem dL_law_404 : decode cL_law 404 = .ok (.iadd, 1) := by decide +kernel
theorem dL_law_405 : decode cL_law 405 = .ok (.iaload, 1) := by decide +kernel
theorem dL_law_406 : decode cL_law 406 = .ok (.aload_n 0, 1) := by decide +kernel
theorem dL_law_407 : decode cL_law 407 = .ok (.iload_n 3, 1) := by decide +kernel
theorem dL_law_408 : decode cL_law 408 = .ok (.iconst 2, 1) := by decide +kernel
theorem dL_law_409 : decode cL_law 409 = .ok (.iadd, 1) := by decide +kernel
theorem dL_law_410 : decode cL_law 410 = .ok (.iaload, 1) := by decide +kernel
theorem dL_law_411 : decode cL_law 411 = .ok (.invokevirtual 42, 3) := by decide +kernel
theorem dL_law_414 : decode cL_law 414 = .ok (.if_icmp .eq 835, 3) := by decide +kernel
theorem dL_law_417 : decode cL_law 417 = .ok (.iconst 0, 1) := by decide +kernel
theorem dL_law_418 : decode cL_law 418 = .ok (.ireturn, 1) := by decide +kernel
theorem dL_law_419 : decode cL_law 419 = .ok (.aload_n 1, 1) := by decide +kernel
theorem dL_law_420 : decode cL_law 420 = .ok (.aload_n 0, 1) := by decide +kernel
theorem dL_law_421 : decode cL_law 421 = .ok (.iload_n 3, 1) := by decide +kernel
theorem dL_law_422 : decode cL_law 422 = .ok (.iconst 1, 1) := by decide +kernel
theorem dL_law_423 : decode cL_law 423 = .ok (.iadd, 1) := by decide +kernel
theorem dL_law_424 : decode cL_law 424 = .ok (.iaload, 1) := by decide +kernel
theorem dL_law_425 : decode cL_law 425 = .ok (.aload_n 0, 1) := by decide +kernel
theorem dL_law_426 : decode cL_law 426 = .ok (.iload_n 3, 1) := by decide +kernel
theorem dL_law_427 : decode cL_law 427 = .ok (.iconst 2, 1) := by decide +kernel
theorem dL_law_428 : decode cL_law 428 = .ok (.iadd, 1) := by decide +kernel
theorem dL_law_429 : decode cL_law 429 = .ok (.iaload, 1) := by decide +kernel
theorem dL_law_430 : decode cL_law 430 = .ok (.invokevirtual 43, 3) := by decide +kernel
theorem dL_law_433 : decode cL_law 433 = .ok (.aload_n 2, 1) := by decide +kernel
theorem dL_law_434 : decode cL_law 434 = .ok (.aload_n 0, 1) := by decide +kernel
theorem dL_law_435 : decode cL_law 435 = .ok (.iload_n 3, 1) := by decide +kernel
theorem dL_law_436 : decode cL_law 436 = .ok (.iconst 1, 1) := by decide +kernel
theorem dL_law_437 : decode cL_law 437 = .ok (.iadd, 1) := by decide +kernel
theorem dL_law_438 : decode cL_law 438 = .ok (.iaload, 1) := by decide +kernel
theorem dL_law_439 : decode cL_law 439 = .ok (.aload_n 0, 1) := by decide +kernel
theorem dL_law_440 : decode cL_law 440 = .ok (.iload_n 3, 1) := by decide +kernel
theorem dL_law_441 : decode cL_law 441 = .ok (.iconst 2, 1) := by decide +kernel
theorem dL_law_442 : decode cL_law 442 = .ok (.iadd, 1) := by decide +kernel
theorem dL_law_443 : decode cL_law 443 = .ok (.iaload, 1) := by decide +kernel
theorem dL_law_444 : decode cL_law 444 = .ok (.invokevirtual 46, 3) := by decide +kernel
theorem dL_law_447 : decode cL_law 447 = .ok (.if_icmp .eq 802, 3) := by decide +kernel
theorem dL_law_450 : decode cL_law 450 = .ok (.iconst 0, 1) := by decide +kernel
theorem dL_law_451 : decode cL_law 451 = .ok (.ireturn, 1) := by decide +kernel
theorem dL_law_452 : decode cL_law 452 = .ok (.aload_n 1, 1) := by decide +kernel
theorem dL_law_453 : decode cL_law 453 = .ok (.aload_n 0, 1) := by decide +kernel
theorem dL_law_454 : decode cL_law 454 = .ok (.iload_n 3, 1) := by decide +kernel
theorem dL_law_455 : decode cL_law 455 = .ok (.iconst 1, 1) := by decide +kernel
theorem dL_law_456 : decode cL_law 456 = .ok (.iadd, 1) := by decide +kernel
theorem dL_law_457 : decode cL_law 457 = .ok (.iaload, 1) := by decide +kernel
theorem dL_law_458 : decode cL_law 458 = .ok (.aload_n 0, 1) := by decide +kernel
theorem dL_law_459 : decode cL_law 459 = .ok (.iload_n 3, 1) := by decide +kernel
theorem dL_law_460 : decode cL_law 460 = .ok (.iconst 2, 1) := by decide +kernel
theorem dL_law_461 : decode cL_law 461 = .ok (.iadd, 1) := by decide +kernel
theorem dL_law_462 : decode cL_law 462 = .ok (.iaload, 1) := by decide +kernel
theorem dL_law_463 : decode cL_law 463 = .ok (.invokevirtual 47, 3) := by decide +kernel
theorem dL_law_466 : decode cL_law 466 = .ok (.aload_n 2, 1) := by decide +kernel
theorem dL_law_467 : decode cL_law 467 = .ok (.aload_n 0, 1) := by decide +kernel
theorem dL_law_468 : decode cL_law 468 = .ok (.iload_n 3, 1) := by decide +kernel
theorem dL_law_469 : decode cL_law 469 = .ok (.iconst 1, 1) := by decide +kernel
theorem dL_law_470 : decode cL_law 470 = .ok (.iadd, 1) := by decide +kernel
theorem dL_law_471 : decode cL_law 471 = .ok (.iaload, 1) := by decide +kernel
theorem dL_law_472 : decode cL_law 472 = .ok (.aload_n 0, 1) := by decide +kernel
theorem dL_law_473 : decode cL_law 473 = .ok (.iload_n 3, 1) := by decide +kernel
theorem dL_law_474 : decode cL_law 474 = .ok (.iconst 2, 1) := by decide +kernel
theorem dL_law_475 : decode cL_law 475 = .ok (.iadd, 1) := by decide +kernel
theorem dL_law_476 : decode cL_law 476 = .ok (.iaload, 1) := by decide +kernel
theorem dL_law_477 : decode cL_law 477 = .ok (.invokevirtual 50, 3) := by decide +kernel
theorem dL_law_480 : decode cL_law 480 = .ok (.if_icmp .eq 769, 3) := by decide +kernel
theorem dL_law_483 : decode cL_law 483 = .ok (.iconst 0, 1) := by decide +kernel
theorem dL_law_484 : decode cL_law 484 = .ok (.ireturn, 1) := by decide +kernel
theorem dL_law_485 : decode cL_law 485 = .ok (.aload_n 1, 1) := by decide +kernel
theorem dL_law_486 : decode cL_law 486 = .ok (.aload_n 0, 1) := by decide +kernel
theorem dL_law_487 : decode cL_law 487 = .ok (.iload_n 3, 1) := by decide +kernel
theorem dL_law_488 : decode cL_law 488 = .ok (.iconst 1, 1) := by decide +kernel
theorem dL_law_489 : decode cL_law 489 = .ok (.iadd, 1) := by decide +kernel
theorem dL_law_490 : decode cL_law 490 = .ok (.iaload, 1) := by decide +kernel
theorem dL_law_491 : decode cL_law 491 = .ok (.aload_n 0, 1) := by decide +kernel
theorem dL_law_492 : decode cL_law 492 = .ok (.iload_n 3, 1) := by decide +kernel
theorem dL_law_493 : decode cL_law 493 = .ok (.iconst 2, 1) := by decide +kernel
theorem dL_law_494 : decode cL_law 494 = .ok (.iadd, 1) := by decide +kernel
theorem dL_law_495 : decode cL_law 495 = .ok (.iaload, 1) := by decide +kernel
theorem dL_law_496 : decode cL_law 496 = .ok (.invokevirtual 51, 3) := by decide +kernel
theorem dL_law_499 : decode cL_law 499 = .ok (.aload_n 2, 1) := by decide +kernel
theorem dL_law_500 : decode cL_law 500 = .ok (.aload_n 0, 1) := by decide +kernel
theorem dL_law_501 : decode cL_law 501 = .ok (.iload_n 3, 1) := by decide +kernel
theorem dL_law_502 : decode cL_law 502 = .ok (.iconst 1, 1) := by decide +kernel
theorem dL_law_503 : decode cL_law 503 = .ok (.iadd, 1) := by decide +kernel
theorem dL_law_504 : decode cL_law 504 = .ok (.iaload, 1) := by decide +kernel
theorem dL_law_505 : decode cL_law 505 = .ok (.aload_n 0, 1) := by decide +kernel
theorem dL_law_506 : decode cL_law 506 = .ok (.iload_n 3, 1) := by decide +kernel
theorem dL_law_507 : decode cL_law 507 = .ok (.iconst 2, 1) := by decide +kernel
theorem dL_law_508 : decode cL_law 508 = .ok (.iadd, 1) := by decide +kernel
theorem dL_law_509 : decode cL_law 509 = .ok (.iaload, 1) := by decide +kernel
theorem dL_law_510 : decode cL_law 510 = .ok (.invokevirtual 54, 3) := by decide +kernel
theorem dL_law_513 : decode cL_law 513 = .ok (.if_icmp .eq 736, 3) := by decide +kernel
theorem dL_law_516 : decode cL_law 516 = .ok (.iconst 0, 1) := by decide +kernel
theorem dL_law_517 : decode cL_law 517 = .ok (.ireturn, 1) := by decide +kernel
theorem dL_law_518 : decode cL_law 518 = .ok (.aload_n 1, 1) := by decide +kernel
theorem dL_law_519 : decode cL_law 519 = .ok (.aload_n 0, 1) := by decide +kernel
theorem dL_law_520 : decode cL_law 520 = .ok (.iload_n 3, 1) := by decide +kernel
theorem dL_law_521 : decode cL_law 521 = .ok (.iconst 1, 1) := by decide +kernel
theorem dL_law_522 : decode cL_law 522 = .ok (.iadd, 1) := by decide +kernel
theorem dL_law_523 : decode cL_law 523 = .ok (.iaload, 1) := by decide +kernel
theorem dL_law_524 : decode cL_law 524 = .ok (.aload_n 0, 1) := by decide +kernel
theorem dL_law_525 : decode cL_law 525 = .ok (.iload_n 3, 1) := by decide +kernel
theorem dL_law_526 : decode cL_law 526 = .ok (.iconst 2, 1) := by decide +kernel
theorem dL_law_527 : decode cL_law 527 = .ok (.iadd, 1) := by decide +kernel
theorem dL_law_528 : decode cL_law 528 = .ok (.iaload, 1) := by decide +kernel
theorem dL_law_529 : decode cL_law 529 = .ok (.invokevirtual 55, 3) := by decide +kernel
theorem dL_law_532 : decode cL_law 532 = .ok (.aload_n 2, 1) := by decide +kernel
theorem dL_law_533 : decode cL_law 533 = .ok (.aload_n 0, 1) := by decide +kernel
theorem dL_law_534 : decode cL_law 534 = .ok (.iload_n 3, 1) := by decide +kernel
theorem dL_law_535 : decode cL_law 535 = .ok (.iconst 1, 1) := by decide +kernel
theorem dL_law_536 : decode cL_law 536 = .ok (.iadd, 1) := by decide +kernel
theorem dL_law_537 : decode cL_law 537 = .ok (.iaload, 1) := by decide +kernel
theorem dL_law_538 : decode cL_law 538 = .ok (.aload_n 0, 1) := by decide +kernel
theorem dL_law_539 : decode cL_law 539 = .ok (.iload_n 3, 1) := by decide +kernel
theorem dL_law_540 : decode cL_law 540 = .ok (.iconst 2, 1) := by decide +kernel
theorem dL_law_541 : decode cL_law 541 = .ok (.iadd, 1) := by decide +kernel
theorem dL_law_542 : decode cL_law 542 = .ok (.iaload, 1) := by decide +kernel
theorem dL_law_543 : decode cL_law 543 = .ok (.invokevirtual 58, 3) := by decide +kernel
theorem dL_law_546 : decode cL_law 546 = .ok (.if_icmp .eq 703, 3) := by decide +kernel
theorem dL_law_549 : decode cL_law 549 = .ok (.iconst 0, 1) := by decide +kernel
theorem dL_law_550 : decode cL_law 550 = .ok (.ireturn, 1) := by decide +kernel
theorem dL_law_551 : decode cL_law 551 = .ok (.aload_n 1, 1) := by decide +kernel
theorem dL_law_552 : decode cL_law 552 = .ok (.aload_n 0, 1) := by decide +kernel
theorem dL_law_553 : decode cL_law 553 = .ok (.iload_n 3, 1) := by decide +kernel
theorem dL_law_554 : decode cL_law 554 = .ok (.iconst 1, 1) := by decide +kernel
theorem dL_law_555 : decode cL_law 555 = .ok (.iadd, 1) := by decide +kernel
theorem dL_law_556 : decode cL_law 556 = .ok (.iaload, 1) := by decide +kernel
theorem dL_law_557 : decode cL_law 557 = .ok (.aload_n 0, 1) := by decide +kernel
theorem dL_law_558 : decode cL_law 558 = .ok (.iload_n 3, 1) := by decide +kernel
theorem dL_law_559 : decode cL_law 559 = .ok (.iconst 2, 1) := by decide +kernel
theorem dL_law_560 : decode cL_law 560 = .ok (.iadd, 1) := by decide +kernel
theorem dL_law_561 : decode cL_law 561 = .ok (.iaload, 1) := by decide +kernel
theorem dL_law_562 : decode cL_law 562 = .ok (.aload_n 0, 1) := by decide +kernel
theorem dL_law_563 : decode cL_law 563 = .ok (.iload_n 3, 1) := by decide +kernel
theorem dL_law_564 : decode cL_law 564 = .ok (.iconst 3, 1) := by decide +kernel
theorem dL_law_565 : decode cL_law 565 = .ok (.iadd, 1) := by decide +kernel
theorem dL_law_566 : decode cL_law 566 = .ok (.iaload, 1) := by decide +kernel
theorem dL_law_567 : decode cL_law 567 = .ok (.invokevirtual 59, 3) := by decide +kernel
theorem dL_law_570 : decode cL_law 570 = .ok (.aload_n 2, 1) := by decide +kernel
theorem dL_law_571 : decode cL_law 571 = .ok (.aload_n 0, 1) := by decide +kernel
theorem dL_law_572 : decode cL_law 572 = .ok (.iload_n 3, 1) := by decide +kernel
theorem dL_law_573 : decode cL_law 573 = .ok (.iconst 1, 1) := by decide +kernel
theorem dL_law_574 : decode cL_law 574 = .ok (.iadd, 1) := by decide +kernel
theorem dL_law_575 : decode cL_law 575 = .ok (.iaload, 1) := by decide +kernel
theorem dL_law_576 : decode cL_law 576 = .ok (.aload_n 0, 1) := by decide +kernel
theorem dL_law_577 : decode cL_law 577 = .ok (.iload_n 3, 1) := by decide +kernel
theorem dL_law_578 : decode cL_law 578 = .ok (.iconst 2, 1) := by decide +kernel
theorem dL_law_579 : decode cL_law 579 = .ok (.iadd, 1) := by decide +kernel
theorem dL_law_580 : decode cL_law 580 = .ok (.iaload, 1) := by decide +kernel
theorem dL_law_581 : decode cL_law 581 = .ok (.aload_n 0, 1) := by decide +kernel
theorem dL_law_582 : decode cL_law 582 = .ok (.iload_n 3, 1) := by decide +kernel
theorem dL_law_583 : decode cL_law 583 = .ok (.iconst 3, 1) := by decide +kernel
theorem dL_law_584 : decode cL_law 584 = .ok (.iadd, 1) := by decide +kernel
theorem dL_law_585 : decode cL_law 585 = .ok (.iaload, 1) := by decide +kernel
theorem dL_law_586 : decode cL_law 586 = .ok (.invokevirtual 63, 3) := by decide +kernel
theorem dL_law_589 : decode cL_law 589 = .ok (.if_icmp .eq 660, 3) := by decide +kernel
theorem dL_law_592 : decode cL_law 592 = .ok (.iconst 0, 1) := by decide +kernel
theorem dL_law_593 : decode cL_law 593 = .ok (.ireturn, 1) := by decide +kernel
theorem dL_law_594 : decode cL_law 594 = .ok (.aload_n 1, 1) := by decide +kernel
theorem dL_law_595 : decode cL_law 595 = .ok (.aload_n 0, 1) := by decide +kernel
theorem dL_law_596 : decode cL_law 596 = .ok (.iload_n 3, 1) := by decide +kernel
theorem dL_law_597 : decode cL_law 597 = .ok (.iconst 1, 1) := by decide +kernel
theorem dL_law_598 : decode cL_law 598 = .ok (.iadd, 1) := by decide +kernel
theorem dL_law_599 : decode cL_law 599 = .ok (.iaload, 1) := by decide +kernel
theorem dL_law_600 : decode cL_law 600 = .ok (.aload_n 0, 1) := by decide +kernel
theorem dL_law_601 : decode cL_law 601 = .ok (.iload_n 3, 1) := by decide +kernel
theorem dL_law_602 : decode cL_law 602 = .ok (.iconst 2, 1) := by decide +kernel
theorem dL_law_603 : decode cL_law 603 = .ok (.iadd, 1) := by decide +kernel
theorem dL_law_604 : decode cL_law 604 = .ok (.iaload, 1) := by decide +kernel
theorem dL_law_605 : decode cL_law 605 = .ok (.invokevirtual 64, 3) := by decide +kernel
theorem dL_law_608 : decode cL_law 608 = .ok (.aload_n 2, 1) := by decide +kernel
theorem dL_law_609 : decode cL_law 609 = .ok (.aload_n 0, 1) := by decide +kernel
theorem dL_law_610 : decode cL_law 610 = .ok (.iload_n 3, 1) := by decide +kernel
theorem dL_law_611 : decode cL_law 611 = .ok (.iconst 1, 1) := by decide +kernel
theorem dL_law_612 : decode cL_law 612 = .ok (.iadd, 1) := by decide +kernel
theorem dL_law_613 : decode cL_law 613 = .ok (.iaload, 1) := by decide +kernel
theorem dL_law_614 : decode cL_law 614 = .ok (.aload_n 0, 1) := by decide +kernel
theorem dL_law_615 : decode cL_law 615 = .ok (.iload_n 3, 1) := by decide +kernel
theorem dL_law_616 : decode cL_law 616 = .ok (.iconst 2, 1) := by decide +kernel
theorem dL_law_617 : decode cL_law 617 = .ok (.iadd, 1) := by decide +kernel
theorem dL_law_618 : decode cL_law 618 = .ok (.iaload, 1) := by decide +kernel
theorem dL_law_619 : decode cL_law 619 = .ok (.invokevirtual 67, 3) := by decide +kernel
theorem dL_law_622 : decode cL_law 622 = .ok (.if_icmp .eq 627, 3) := by decide +kernel
theorem dL_law_625 : decode cL_law 625 = .ok (.iconst 0, 1) := by decide +kernel
theorem dL_law_626 : decode cL_law 626 = .ok (.ireturn, 1) := by decide +kernel
theorem dL_law_627 : decode cL_law 627 = .ok (.aload_n 1, 1) := by decide +kernel
theorem dL_law_628 : decode cL_law 628 = .ok (.aload_n 0, 1) := by decide +kernel
theorem dL_law_629 : decode cL_law 629 = .ok (.iload_n 3, 1) := by decide +kernel
theorem dL_law_630 : decode cL_law 630 = .ok (.iconst 1, 1) := by decide +kernel
theorem dL_law_631 : decode cL_law 631 = .ok (.iadd, 1) := by decide +kernel
theorem dL_law_632 : decode cL_law 632 = .ok (.iaload, 1) := by decide +kernel
theorem dL_law_633 : decode cL_law 633 = .ok (.aload_n 0, 1) := by decide +kernel
theorem dL_law_634 : decode cL_law 634 = .ok (.iload_n 3, 1) := by decide +kernel
theorem dL_law_635 : decode cL_law 635 = .ok (.iconst 2, 1) := by decide +kernel
theorem dL_law_636 : decode cL_law 636 = .ok (.iadd, 1) := by decide +kernel
theorem dL_law_637 : decode cL_law 637 = .ok (.iaload, 1) := by decide +kernel
theorem dL_law_638 : decode cL_law 638 = .ok (.aload_n 0, 1) := by decide +kernel
theorem dL_law_639 : decode cL_law 639 = .ok (.iload_n 3, 1) := by decide +kernel
theorem dL_law_640 : decode cL_law 640 = .ok (.iconst 3, 1) := by decide +kernel
theorem dL_law_641 : decode cL_law 641 = .ok (.iadd, 1) := by decide +kernel
theorem dL_law_642 : decode cL_law 642 = .ok (.iaload, 1) := by decide +kernel
theorem dL_law_643 : decode cL_law 643 = .ok (.invokevirtual 68, 3) := by decide +kernel
theorem dL_law_646 : decode cL_law 646 = .ok (.aload_n 2, 1) := by decide +kernel
theorem dL_law_647 : decode cL_law 647 = .ok (.aload_n 0, 1) := by decide +kernel
theorem dL_law_648 : decode cL_law 648 = .ok (.iload_n 3, 1) := by decide +kernel
theorem dL_law_649 : decode cL_law 649 = .ok (.iconst 1, 1) := by decide +kernel
theorem dL_law_650 : decode cL_law 650 = .ok (.iadd, 1) := by decide +kernel
theorem dL_law_651 : decode cL_law 651 = .ok (.iaload, 1) := by decide +kernel
theorem dL_law_652 : decode cL_law 652 = .ok (.aload_n 0, 1) := by decide +kernel
theorem dL_law_653 : decode cL_law 653 = .ok (.iload_n 3, 1) := by decide +kernel
theorem dL_law_654 : decode cL_law 654 = .ok (.iconst 2, 1) := by decide +kernel
theorem dL_law_655 : decode cL_law 655 = .ok (.iadd, 1) := by decide +kernel
theorem dL_law_656 : decode cL_law 656 = .ok (.iaload, 1) := by decide +kernel
theorem dL_law_657 : decode cL_law 657 = .ok (.aload_n 0, 1) := by decide +kernel
theorem dL_law_658 : decode cL_law 658 = .ok (.iload_n 3, 1) := by decide +kernel
theorem dL_law_659 : decode cL_law 659 = .ok (.iconst 3, 1) := by decide +kernel
theorem dL_law_660 : decode cL_law 660 = .ok (.iadd, 1) := by decide +kernel
theorem dL_law_661 : decode cL_law 661 = .ok (.iaload, 1) := by decide +kernel
theorem dL_law_662 : decode cL_law 662 = .ok (.invokevirtual 71, 3) := by decide +kernel
theorem dL_law_665 : decode cL_law 665 = .ok (.if_icmp .eq 584, 3) := by decide +kernel
theorem dL_law_668 : decode cL_law 668 = .ok (.iconst 0, 1) := by decide +kernel
theorem dL_law_669 : decode cL_law 669 = .ok (.ireturn, 1) := by decide +kernel
theorem dL_law_670 : decode cL_law 670 = .ok (.aload_n 1, 1) := by decide +kernel
theorem dL_law_671 : decode cL_law 671 = .ok (.aload_n 0, 1) := by decide +kernel
theorem dL_law_672 : decode cL_law 672 = .ok (.iload_n 3, 1) := by decide +kernel
theorem dL_law_673 : decode cL_law 673 = .ok (.iconst 1, 1) := by decide +kernel
theorem dL_law_674 : decode cL_law 674 = .ok (.iadd, 1) := by decide +kernel
theorem dL_law_675 : decode cL_law 675 = .ok (.iaload, 1) := by decide +kernel
theorem dL_law_676 : decode cL_law 676 = .ok (.aload_n 0, 1) := by decide +kernel
theorem dL_law_677 : decode cL_law 677 = .ok (.iload_n 3, 1) := by decide +kernel
theorem dL_law_678 : decode cL_law 678 = .ok (.iconst 2, 1) := by decide +kernel
theorem dL_law_679 : decode cL_law 679 = .ok (.iadd, 1) := by decide +kernel
theorem dL_law_680 : decode cL_law 680 = .ok (.iaload, 1) := by decide +kernel
theorem dL_law_681 : decode cL_law 681 = .ok (.aload_n 0, 1) := by decide +kernel
theorem dL_law_682 : decode cL_law 682 = .ok (.iload_n 3, 1) := by decide +kernel
theorem dL_law_683 : decode cL_law 683 = .ok (.iconst 3, 1) := by decide +kernel
theorem dL_law_684 : decode cL_law 684 = .ok (.iadd, 1) := by decide +kernel
theorem dL_law_685 : decode cL_law 685 = .ok (.iaload, 1) := by decide +kernel
theorem dL_law_686 : decode cL_law 686 = .ok (.invokevirtual 72, 3) := by decide +kernel
theorem dL_law_689 : decode cL_law 689 = .ok (.aload_n 2, 1) := by decide +kernel
theorem dL_law_690 : decode cL_law 690 = .ok (.aload_n 0, 1) := by decide +kernel
theorem dL_law_691 : decode cL_law 691 = .ok (.iload_n 3, 1) := by decide +kernel
theorem dL_law_692 : decode cL_law 692 = .ok (.iconst 1, 1) := by decide +kernel
theorem dL_law_693 : decode cL_law 693 = .ok (.iadd, 1) := by decide +kernel
theorem dL_law_694 : decode cL_law 694 = .ok (.iaload, 1) := by decide +kernel
theorem dL_law_695 : decode cL_law 695 = .ok (.aload_n 0, 1) := by decide +kernel
theorem dL_law_696 : decode cL_law 696 = .ok (.iload_n 3, 1) := by decide +kernel
theorem dL_law_697 : decode cL_law 697 = .ok (.iconst 2, 1) := by decide +kernel
theorem dL_law_698 : decode cL_law 698 = .ok (.iadd, 1) := by decide +kernel
theorem dL_law_699 : decode cL_law 699 = .ok (.iaload, 1) := by decide +kernel
theorem dL_law_700 : decode cL_law 700 = .ok (.aload_n 0, 1) := by decide +kernel
theorem dL_law_701 : decode cL_law 701 = .ok (.iload_n 3, 1) := by decide +kernel
theorem dL_law_702 : decode cL_law 702 = .ok (.iconst 3, 1) := by decide +kernel
theorem dL_law_703 : decode cL_law 703 = .ok (.iadd, 1) := by decide +kernel
theorem dL_law_704 : decode cL_law 704 = .ok (.iaload, 1) := by decide +kernel
theorem dL_law_705 : decode cL_law 705 = .ok (.invokevirtual 75, 3) := by decide +kernel
theorem dL_law_708 : decode cL_law 708 = .ok (.if_icmp .eq 541, 3) := by decide +kernel
theorem dL_law_711 : decode cL_law 711 = .ok (.iconst 0, 1) := by decide +kernel
theorem dL_law_712 : decode cL_law 712 = .ok (.ireturn, 1) := by decide +kernel
theorem dL_law_713 : decode cL_law 713 = .ok (.aload_n 1, 1) := by decide +kernel
theorem dL_law_714 : decode cL_law 714 = .ok (.aload_n 0, 1) := by decide +kernel
theorem dL_law_715 : decode cL_law 715 = .ok (.iload_n 3, 1) := by decide +kernel
theorem dL_law_716 : decode cL_law 716 = .ok (.iconst 1, 1) := by decide +kernel
theorem dL_law_717 : decode cL_law 717 = .ok (.iadd, 1) := by decide +kernel
theorem dL_law_718 : decode cL_law 718 = .ok (.iaload, 1) := by decide +kernel
theorem dL_law_719 : decode cL_law 719 = .ok (.aload_n 0, 1) := by decide +kernel
theorem dL_law_720 : decode cL_law 720 = .ok (.iload_n 3, 1) := by decide +kernel
theorem dL_law_721 : decode cL_law 721 = .ok (.iconst 2, 1) := by decide +kernel
theorem dL_law_722 : decode cL_law 722 = .ok (.iadd, 1) := by decide +kernel
theorem dL_law_723 : decode cL_law 723 = .ok (.iaload, 1) := by decide +kernel
theorem dL_law_724 : decode cL_law 724 = .ok (.invokevirtual 76, 3) := by decide +kernel
theorem dL_law_727 : decode cL_law 727 = .ok (.aload_n 2, 1) := by decide +kernel
theorem dL_law_728 : decode cL_law 728 = .ok (.aload_n 0, 1) := by decide +kernel
theorem dL_law_729 : decode cL_law 729 = .ok (.iload_n 3, 1) := by decide +kernel
theorem dL_law_730 : decode cL_law 730 = .ok (.iconst 1, 1) := by decide +kernel
theorem dL_law_731 : decode cL_law 731 = .ok (.iadd, 1) := by decide +kernel
theorem dL_law_732 : decode cL_law 732 = .ok (.iaload, 1) := by decide +kernel
theorem dL_law_733 : decode cL_law 733 = .ok (.aload_n 0, 1) := by decide +kernel
theorem dL_law_734 : decode cL_law 734 = .ok (.iload_n 3, 1) := by decide +kernel
theorem dL_law_735 : decode cL_law 735 = .ok (.iconst 2, 1) := by decide +kernel
theorem dL_law_736 : decode cL_law 736 = .ok (.iadd, 1) := by decide +kernel
theorem dL_law_737 : decode cL_law 737 = .ok (.iaload, 1) := by decide +kernel
theorem dL_law_738 : decode cL_law 738 = .ok (.invokevirtual 79, 3) := by decide +kernel
theorem dL_law_741 : decode cL_law 741 = .ok (.if_icmp .eq 508, 3) := by decide +kernel
theorem dL_law_744 : decode cL_law 744 = .ok (.iconst 0, 1) := by decide +kernel
theorem dL_law_745 : decode cL_law 745 = .ok (.ireturn, 1) := by decide +kernel
theorem dL_law_746 : decode cL_law 746 = .ok (.aload_n 1, 1) := by decide +kernel
theorem dL_law_747 : decode cL_law 747 = .ok (.aload_n 0, 1) := by decide +kernel
theorem dL_law_748 : decode cL_law 748 = .ok (.iload_n 3, 1) := by decide +kernel
theorem dL_law_749 : decode cL_law 749 = .ok (.iconst 1, 1) := by decide +kernel
theorem dL_law_750 : decode cL_law 750 = .ok (.iadd, 1) := by decide +kernel
theorem dL_law_751 : decode cL_law 751 = .ok (.iaload, 1) := by decide +kernel
theorem dL_law_752 : decode cL_law 752 = .ok (.aload_n 0, 1) := by decide +kernel
theorem dL_law_753 : decode cL_law 753 = .ok (.iload_n 3, 1) := by decide +kernel
theorem dL_law_754 : decode cL_law 754 = .ok (.iconst 2, 1) := by decide +kernel
theorem dL_law_755 : decode cL_law 755 = .ok (.iadd, 1) := by decide +kernel
theorem dL_law_756 : decode cL_law 756 = .ok (.iaload, 1) := by decide +kernel
theorem dL_law_757 : decode cL_law 757 = .ok (.aload_n 0, 1) := by decide +kernel
theorem dL_law_758 : decode cL_law 758 = .ok (.iload_n 3, 1) := by decide +kernel
theorem dL_law_759 : decode cL_law 759 = .ok (.iconst 3, 1) := by decide +kernel
theorem dL_law_760 : decode cL_law 760 = .ok (.iadd, 1) := by decide +kernel
theorem dL_law_761 : decode cL_law 761 = .ok (.iaload, 1) := by decide +kernel
theorem dL_law_762 : decode cL_law 762 = .ok (.aload_n 0, 1) := by decide +kernel
theorem dL_law_763 : decode cL_law 763 = .ok (.iload_n 3, 1) := by decide +kernel
theorem dL_law_764 : decode cL_law 764 = .ok (.iconst 4, 1) := by decide +kernel
theorem dL_law_765 : decode cL_law 765 = .ok (.iadd, 1) := by decide +kernel
theorem dL_law_766 : decode cL_law 766 = .ok (.iaload, 1) := by decide +kernel
theorem dL_law_767 : decode cL_law 767 = .ok (.invokevirtual 80, 3) := by decide +kernel
theorem dL_law_770 : decode cL_law 770 = .ok (.aload_n 2, 1) := by decide +kernel
theorem dL_law_771 : decode cL_law 771 = .ok (.aload_n 0, 1) := by decide +kernel
theorem dL_law_772 : decode cL_law 772 = .ok (.iload_n 3, 1) := by decide +kernel
theorem dL_law_773 : decode cL_law 773 = .ok (.iconst 1, 1) := by decide +kernel
theorem dL_law_774 : decode cL_law 774 = .ok (.iadd, 1) := by decide +kernel
theorem dL_law_775 : decode cL_law 775 = .ok (.iaload, 1) := by decide +kernel
theorem dL_law_776 : decode cL_law 776 = .ok (.aload_n 0, 1) := by decide +kernel
theorem dL_law_777 : decode cL_law 777 = .ok (.iload_n 3, 1) := by decide +kernel
theorem dL_law_778 : decode cL_law 778 = .ok (.iconst 2, 1) := by decide +kernel
theorem dL_law_779 : decode cL_law 779 = .ok (.iadd, 1) := by decide +kernel
theorem dL_law_780 : decode cL_law 780 = .ok (.iaload, 1) := by decide +kernel
theorem dL_law_781 : decode cL_law 781 = .ok (.aload_n 0, 1) := by decide +kernel
theorem dL_law_782 : decode cL_law 782 = .ok (.iload_n 3, 1) := by decide +kernel
theorem dL_law_783 : decode cL_law 783 = .ok (.iconst 3, 1) := by decide +kernel
theorem dL_law_784 : decode cL_law 784 = .ok (.iadd, 1) := by decide +kernel
theorem dL_law_785 : decode cL_law 785 = .ok (.iaload, 1) := by decide +kernel
theorem dL_law_786 : decode cL_law 786 = .ok (.aload_n 0, 1) := by decide +kernel
theorem dL_law_787 : decode cL_law 787 = .ok (.iload_n 3, 1) := by decide +kernel
theorem dL_law_788 : decode cL_law 788 = .ok (.iconst 4, 1) := by decide +kernel
theorem dL_law_789 : decode cL_law 789 = .ok (.iadd, 1) := by decide +kernel
theorem dL_law_790 : decode cL_law 790 = .ok (.iaload, 1) := by decide +kernel
theorem dL_law_791 : decode cL_law 791 = .ok (.invokevirtual 83, 3) := by decide +kernel
theorem dL_law_794 : decode cL_law 794 = .ok (.if_icmp .eq 455, 3) := by decide +kernel
theorem dL_law_797 : decode cL_law 797 = .ok (.iconst 0, 1) := by decide +kernel
theorem dL_law_798 : decode cL_law 798 = .ok (.ireturn, 1) := by decide +kernel
theorem dL_law_799 : decode cL_law 799 = .ok (.aload_n 1, 1) := by decide +kernel
theorem dL_law_800 : decode cL_law 800 = .ok (.aload_n 0, 1) := by decide +kernel
theorem dL_law_801 : decode cL_law 801 = .ok (.iload_n 3, 1) := by decide +kernel
theorem dL_law_802 : decode cL_law 802 = .ok (.iconst 1, 1) := by decide +kernel
theorem dL_law_803 : decode cL_law 803 = .ok (.iadd, 1) := by decide +kernel
theorem dL_law_804 : decode cL_law 804 = .ok (.iaload, 1) := by decide +kernel
theorem dL_law_805 : decode cL_law 805 = .ok (.aload_n 0, 1) := by decide +kernel
theorem dL_law_806 : decode cL_law 806 = .ok (.iload_n 3, 1) := by decide +kernel
theorem dL_law_807 : decode cL_law 807 = .ok (.iconst 2, 1) := by decide +kernel
theorem dL_law_808 : decode cL_law 808 = .ok (.iadd, 1) := by decide +kernel
theorem dL_law_809 : decode cL_law 809 = .ok (.iaload, 1) := by decide +kernel
theorem dL_law_810 : decode cL_law 810 = .ok (.aload_n 0, 1) := by decide +kernel
theorem dL_law_811 : decode cL_law 811 = .ok (.iload_n 3, 1) := by decide +kernel
theorem dL_law_812 : decode cL_law 812 = .ok (.iconst 3, 1) := by decide +kernel
theorem dL_law_813 : decode cL_law 813 = .ok (.iadd, 1) := by decide +kernel
theorem dL_law_814 : decode cL_law 814 = .ok (.iaload, 1) := by decide +kernel
theorem dL_law_815 : decode cL_law 815 = .ok (.aload_n 0, 1) := by decide +kernel
theorem dL_law_816 : decode cL_law 816 = .ok (.iload_n 3, 1) := by decide +kernel
theorem dL_law_817 : decode cL_law 817 = .ok (.iconst 4, 1) := by decide +kernel
theorem dL_law_818 : decode cL_law 818 = .ok (.iadd, 1) := by decide +kernel
theorem dL_law_819 : decode cL_law 819 = .ok (.iaload, 1) := by decide +kernel
theorem dL_law_820 : decode cL_law 820 = .ok (.aload_n 0, 1) := by decide +kernel
theorem dL_law_821 : decode cL_law 821 = .ok (.iload_n 3, 1) := by decide +kernel
theorem dL_law_822 : decode cL_law 822 = .ok (.iconst 5, 1) := by decide +kernel
theorem dL_law_823 : decode cL_law 823 = .ok (.iadd, 1) := by decide +kernel
theorem dL_law_824 : decode cL_law 824 = .ok (.iaload, 1) := by decide +kernel
theorem dL_law_825 : decode cL_law 825 = .ok (.invokevirtual 84, 3) := by decide +kernel
theorem dL_law_828 : decode cL_law 828 = .ok (.aload_n 2, 1) := by decide +kernel
theorem dL_law_829 : decode cL_law 829 = .ok (.aload_n 0, 1) := by decide +kernel
theorem dL_law_830 : decode cL_law 830 = .ok (.iload_n 3, 1) := by decide +kernel
theorem dL_law_831 : decode cL_law 831 = .ok (.iconst 1, 1) := by decide +kernel
theorem dL_law_832 : decode cL_law 832 = .ok (.iadd, 1) := by decide +kernel
theorem dL_law_833 : decode cL_law 833 = .ok (.iaload, 1) := by decide +kernel
theorem dL_law_834 : decode cL_law 834 = .ok (.aload_n 0, 1) := by decide +kernel
theorem dL_law_835 : decode cL_law 835 = .ok (.iload_n 3, 1) := by decide +kernel
theorem dL_law_836 : decode cL_law 836 = .ok (.iconst 2, 1) := by decide +kernel
theorem dL_law_837 : decode cL_law 837 = .ok (.iadd, 1) := by decide +kernel
theorem dL_law_838 : decode cL_law 838 = .ok (.iaload, 1) := by decide +kernel
theorem dL_law_839 : decode cL_law 839 = .ok (.aload_n 0, 1) := by decide +kernel
theorem dL_law_840 : decode cL_law 840 = .ok (.iload_n 3, 1) := by decide +kernel
theorem dL_law_841 : decode cL_law 841 = .ok (.iconst 3, 1) := by decide +kernel
theorem dL_law_842 : decode cL_law 842 = .ok (.iadd, 1) := by decide +kernel
theorem dL_law_843 : decode cL_law 843 = .ok (.iaload, 1) := by decide +kernel
theorem dL_law_844 : decode cL_law 844 = .ok (.aload_n 0, 1) := by decide +kernel
theorem dL_law_845 : decode cL_law 845 = .ok (.iload_n 3, 1) := by decide +kernel
theorem dL_law_846 : decode cL_law 846 = .ok (.iconst 4, 1) := by decide +kernel
theorem dL_law_847 : decode cL_law 847 = .ok (.iadd, 1) := by decide +kernel
theorem dL_law_848 : decode cL_law 848 = .ok (.iaload, 1) := by decide +kernel
theorem dL_law_849 : decode cL_law 849 = .ok (.aload_n 0, 1) := by decide +kernel
theorem dL_law_850 : decode cL_law 850 = .ok (.iload_n 3, 1) := by decide +kernel
theorem dL_law_851 : decode cL_law 851 = .ok (.iconst 5, 1) := by decide +kernel
theorem dL_law_852 : decode cL_law 852 = .ok (.iadd, 1) := by decide +kernel
theorem dL_law_853 : decode cL_law 853 = .ok (.iaload, 1) := by decide +kernel
theorem dL_law_854 : decode cL_law 854 = .ok (.invokevirtual 88, 3) := by decide +kernel
theorem dL_law_857 : decode cL_law 857 = .ok (.if_icmp .eq 392, 3) := by decide +kernel
theorem dL_law_860 : decode cL_law 860 = .ok (.iconst 0, 1) := by decide +kernel
theorem dL_law_861 : decode cL_law 861 = .ok (.ireturn, 1) := by decide +kernel
theorem dL_law_862 : decode cL_law 862 = .ok (.aload_n 1, 1) := by decide +kernel
theorem dL_law_863 : decode cL_law 863 = .ok (.aload_n 0, 1) := by decide +kernel
theorem dL_law_864 : decode cL_law 864 = .ok (.iload_n 3, 1) := by decide +kernel
theorem dL_law_865 : decode cL_law 865 = .ok (.iconst 1, 1) := by decide +kernel
theorem dL_law_866 : decode cL_law 866 = .ok (.iadd, 1) := by decide +kernel
theorem dL_law_867 : decode cL_law 867 = .ok (.iaload, 1) := by decide +kernel
theorem dL_law_868 : decode cL_law 868 = .ok (.aload_n 0, 1) := by decide +kernel
theorem dL_law_869 : decode cL_law 869 = .ok (.iload_n 3, 1) := by decide +kernel
theorem dL_law_870 : decode cL_law 870 = .ok (.iconst 2, 1) := by decide +kernel
theorem dL_law_871 : decode cL_law 871 = .ok (.iadd, 1) := by decide +kernel
theorem dL_law_872 : decode cL_law 872 = .ok (.iaload, 1) := by decide +kernel
theorem dL_law_873 : decode cL_law 873 = .ok (.aload_n 0, 1) := by decide +kernel
theorem dL_law_874 : decode cL_law 874 = .ok (.iload_n 3, 1) := by decide +kernel
theorem dL_law_875 : decode cL_law 875 = .ok (.iconst 3, 1) := by decide +kernel
theorem dL_law_876 : decode cL_law 876 = .ok (.iadd, 1) := by decide +kernel
theorem dL_law_877 : decode cL_law 877 = .ok (.iaload, 1) := by decide +kernel
theorem dL_law_878 : decode cL_law 878 = .ok (.invokevirtual 89, 3) := by decide +kernel
theorem dL_law_881 : decode cL_law 881 = .ok (.aload_n 2, 1) := by decide +kernel
theorem dL_law_882 : decode cL_law 882 = .ok (.aload_n 0, 1) := by decide +kernel
theorem dL_law_883 : decode cL_law 883 = .ok (.iload_n 3, 1) := by decide +kernel
theorem dL_law_884 : decode cL_law 884 = .ok (.iconst 1, 1) := by decide +kernel
theorem dL_law_885 : decode cL_law 885 = .ok (.iadd, 1) := by decide +kernel
theorem dL_law_886 : decode cL_law 886 = .ok (.iaload, 1) := by decide +kernel
theorem dL_law_887 : decode cL_law 887 = .ok (.aload_n 0, 1) := by decide +kernel
theorem dL_law_888 : decode cL_law 888 = .ok (.iload_n 3, 1) := by decide +kernel
theorem dL_law_889 : decode cL_law 889 = .ok (.iconst 2, 1) := by decide +kernel
theorem dL_law_890 : decode cL_law 890 = .ok (.iadd, 1) := by decide +kernel
theorem dL_law_891 : decode cL_law 891 = .ok (.iaload, 1) := by decide +kernel
theorem dL_law_892 : decode cL_law 892 = .ok (.aload_n 0, 1) := by decide +kernel
theorem dL_law_893 : decode cL_law 893 = .ok (.iload_n 3, 1) := by decide +kernel
theorem dL_law_894 : decode cL_law 894 = .ok (.iconst 3, 1) := by decide +kernel
theorem dL_law_895 : decode cL_law 895 = .ok (.iadd, 1) := by decide +kernel
theorem dL_law_896 : decode cL_law 896 = .ok (.iaload, 1) := by decide +kernel
theorem dL_law_897 : decode cL_law 897 = .ok (.invokevirtual 92, 3) := by decide +kernel
theorem dL_law_900 : decode cL_law 900 = .ok (.if_icmp .eq 349, 3) := by decide +kernel
theorem dL_law_903 : decode cL_law 903 = .ok (.iconst 0, 1) := by decide +kernel
theorem dL_law_904 : decode cL_law 904 = .ok (.ireturn, 1) := by decide +kernel
theorem dL_law_905 : decode cL_law 905 = .ok (.aload_n 1, 1) := by decide +kernel
theorem dL_law_906 : decode cL_law 906 = .ok (.aload_n 0, 1) := by decide +kernel
theorem dL_law_907 : decode cL_law 907 = .ok (.iload_n 3, 1) := by decide +kernel
theorem dL_law_908 : decode cL_law 908 = .ok (.iconst 1, 1) := by decide +kernel
theorem dL_law_909 : decode cL_law 909 = .ok (.iadd, 1) := by decide +kernel
theorem dL_law_910 : decode cL_law 910 = .ok (.iaload, 1) := by decide +kernel
theorem dL_law_911 : decode cL_law 911 = .ok (.aload_n 0, 1) := by decide +kernel
theorem dL_law_912 : decode cL_law 912 = .ok (.iload_n 3, 1) := by decide +kernel
theorem dL_law_913 : decode cL_law 913 = .ok (.iconst 2, 1) := by decide +kernel
theorem dL_law_914 : decode cL_law 914 = .ok (.iadd, 1) := by decide +kernel
theorem dL_law_915 : decode cL_law 915 = .ok (.iaload, 1) := by decide +kernel
theorem dL_law_916 : decode cL_law 916 = .ok (.aload_n 0, 1) := by decide +kernel
theorem dL_law_917 : decode cL_law 917 = .ok (.iload_n 3, 1) := by decide +kernel
theorem dL_law_918 : decode cL_law 918 = .ok (.iconst 3, 1) := by decide +kernel
theorem dL_law_919 : decode cL_law 919 = .ok (.iadd, 1) := by decide +kernel
theorem dL_law_920 : decode cL_law 920 = .ok (.iaload, 1) := by decide +kernel
theorem dL_law_921 : decode cL_law 921 = .ok (.invokevirtual 93, 3) := by decide +kernel
theorem dL_law_924 : decode cL_law 924 = .ok (.aload_n 2, 1) := by decide +kernel
theorem dL_law_925 : decode cL_law 925 = .ok (.aload_n 0, 1) := by decide +kernel
theorem dL_law_926 : decode cL_law 926 = .ok (.iload_n 3, 1) := by decide +kernel
theorem dL_law_927 : decode cL_law 927 = .ok (.iconst 1, 1) := by decide +kernel
theorem dL_law_928 : decode cL_law 928 = .ok (.iadd, 1) := by decide +kernel
theorem dL_law_929 : decode cL_law 929 = .ok (.iaload, 1) := by decide +kernel
theorem dL_law_930 : decode cL_law 930 = .ok (.aload_n 0, 1) := by decide +kernel
theorem dL_law_931 : decode cL_law 931 = .ok (.iload_n 3, 1) := by decide +kernel
theorem dL_law_932 : decode cL_law 932 = .ok (.iconst 2, 1) := by decide +kernel
theorem dL_law_933 : decode cL_law 933 = .ok (.iadd, 1) := by decide +kernel
theorem dL_law_934 : decode cL_law 934 = .ok (.iaload, 1) := by decide +kernel
theorem dL_law_935 : decode cL_law 935 = .ok (.aload_n 0, 1) := by decide +kernel
theorem dL_law_936 : decode cL_law 936 = .ok (.iload_n 3, 1) := by decide +kernel
theorem dL_law_937 : decode cL_law 937 = .ok (.iconst 3, 1) := by decide +kernel
theorem dL_law_938 : decode cL_law 938 = .ok (.iadd, 1) := by decide +kernel
theorem dL_law_939 : decode cL_law 939 = .ok (.iaload, 1) := by decide +kernel
theorem dL_law_940 : decode cL_law 940 = .ok (.invokevirtual 96, 3) := by decide +kernel
theorem dL_law_943 : decode cL_law 943 = .ok (.if_icmp .eq 306, 3) := by decide +kernel
theorem dL_law_946 : decode cL_law 946 = .ok (.iconst 0, 1) := by decide +kernel
theorem dL_law_947 : decode cL_law 947 = .ok (.ireturn, 1) := by decide +kernel
theorem dL_law_948 : decode cL_law 948 = .ok (.aload_n 1, 1) := by decide +kernel
theorem dL_law_949 : decode cL_law 949 = .ok (.aload_n 0, 1) := by decide +kernel
theorem dL_law_950 : decode cL_law 950 = .ok (.iload_n 3, 1) := by decide +kernel
theorem dL_law_951 : decode cL_law 951 = .ok (.iconst 1, 1) := by decide +kernel
theorem dL_law_952 : decode cL_law 952 = .ok (.iadd, 1) := by decide +kernel
theorem dL_law_953 : decode cL_law 953 = .ok (.iaload, 1) := by decide +kernel
theorem dL_law_954 : decode cL_law 954 = .ok (.invokevirtual 97, 3) := by decide +kernel
theorem dL_law_957 : decode cL_law 957 = .ok (.aload_n 2, 1) := by decide +kernel
theorem dL_law_958 : decode cL_law 958 = .ok (.aload_n 0, 1) := by decide +kernel
theorem dL_law_959 : decode cL_law 959 = .ok (.iload_n 3, 1) := by decide +kernel
theorem dL_law_960 : decode cL_law 960 = .ok (.iconst 1, 1) := by decide +kernel
theorem dL_law_961 : decode cL_law 961 = .ok (.iadd, 1) := by decide +kernel
theorem dL_law_962 : decode cL_law 962 = .ok (.iaload, 1) := by decide +kernel
theorem dL_law_963 : decode cL_law 963 = .ok (.invokevirtual 101, 3) := by decide +kernel
theorem dL_law_966 : decode cL_law 966 = .ok (.if_icmp .eq 283, 3) := by decide +kernel
theorem dL_law_969 : decode cL_law 969 = .ok (.iconst 0, 1) := by decide +kernel
theorem dL_law_970 : decode cL_law 970 = .ok (.ireturn, 1) := by decide +kernel
theorem dL_law_971 : decode cL_law 971 = .ok (.aload_n 1, 1) := by decide +kernel
theorem dL_law_972 : decode cL_law 972 = .ok (.aload_n 0, 1) := by decide +kernel
theorem dL_law_973 : decode cL_law 973 = .ok (.iload_n 3, 1) := by decide +kernel
theorem dL_law_974 : decode cL_law 974 = .ok (.iconst 1, 1) := by decide +kernel
theorem dL_law_975 : decode cL_law 975 = .ok (.iadd, 1) := by decide +kernel
theorem dL_law_976 : decode cL_law 976 = .ok (.iaload, 1) := by decide +kernel
theorem dL_law_977 : decode cL_law 977 = .ok (.aload_n 0, 1) := by decide +kernel
theorem dL_law_978 : decode cL_law 978 = .ok (.iload_n 3, 1) := by decide +kernel
theorem dL_law_979 : decode cL_law 979 = .ok (.iconst 2, 1) := by decide +kernel
theorem dL_law_980 : decode cL_law 980 = .ok (.iadd, 1) := by decide +kernel
theorem dL_law_981 : decode cL_law 981 = .ok (.iaload, 1) := by decide +kernel
theorem dL_law_982 : decode cL_law 982 = .ok (.aload_n 0, 1) := by decide +kernel
theorem dL_law_983 : decode cL_law 983 = .ok (.iload_n 3, 1) := by decide +kernel
theorem dL_law_984 : decode cL_law 984 = .ok (.iconst 3, 1) := by decide +kernel
theorem dL_law_985 : decode cL_law 985 = .ok (.iadd, 1) := by decide +kernel
theorem dL_law_986 : decode cL_law 986 = .ok (.iaload, 1) := by decide +kernel
theorem dL_law_987 : decode cL_law 987 = .ok (.invokevirtual 102, 3) := by decide +kernel
theorem dL_law_990 : decode cL_law 990 = .ok (.aload_n 2, 1) := by decide +kernel
theorem dL_law_991 : decode cL_law 991 = .ok (.aload_n 0, 1) := by decide +kernel
theorem dL_law_992 : decode cL_law 992 = .ok (.iload_n 3, 1) := by decide +kernel
theorem dL_law_993 : decode cL_law 993 = .ok (.iconst 1, 1) := by decide +kernel
theorem dL_law_994 : decode cL_law 994 = .ok (.iadd, 1) := by decide +kernel
theorem dL_law_995 : decode cL_law 995 = .ok (.iaload, 1) := by decide +kernel
theorem dL_law_996 : decode cL_law 996 = .ok (.aload_n 0, 1) := by decide +kernel
theorem dL_law_997 : decode cL_law 997 = .ok (.iload_n 3, 1) := by decide +kernel
theorem dL_law_998 : decode cL_law 998 = .ok (.iconst 2, 1) := by decide +kernel
theorem dL_law_999 : decode cL_law 999 = .ok (.iadd, 1) := by decide +kernel
theorem dL_law_1000 : decode cL_law 1000 = .ok (.iaload, 1) := by decide +kernel
theorem dL_law_1001 : decode cL_law 1001 = .ok (.aload_n 0, 1) := by decide +kernel
theorem dL_law_1002 : decode cL_law 1002 = .ok (.iload_n 3, 1) := by decide +kernel
theorem dL_law_1003 : decode cL_law 1003 = .ok (.iconst 3, 1) := by decide +kernel
theorem dL_law_1004 : decode cL_law 1004 = .ok (.iadd, 1) := by decide +kernel
theorem dL_law_1005 : decode cL_law 1005 = .ok (.iaload, 1) := by decide +kernel
theorem dL_law_1006 : decode cL_law 1006 = .ok (.invokevirtual 105, 3) := by decide +kernel
theorem dL_law_1009 : decode cL_law 1009 = .ok (.if_icmp .eq 240, 3) := by decide +kernel
theorem dL_law_1012 : decode cL_law 1012 = .ok (.iconst 0, 1) := by decide +kernel
theorem dL_law_1013 : decode cL_law 1013 = .ok (.ireturn, 1) := by decide +kernel
theorem dL_law_1014 : decode cL_law 1014 = .ok (.aload_n 1, 1) := by decide +kernel
theorem dL_law_1015 : decode cL_law 1015 = .ok (.aload_n 0, 1) := by decide +kernel
theorem dL_law_1016 : decode cL_law 1016 = .ok (.iload_n 3, 1) := by decide +kernel
theorem dL_law_1017 : decode cL_law 1017 = .ok (.iconst 1, 1) := by decide +kernel
theorem dL_law_1018 : decode cL_law 1018 = .ok (.iadd, 1) := by decide +kernel
theorem dL_law_1019 : decode cL_law 1019 = .ok (.iaload, 1) := by decide +kernel
theorem dL_law_1020 : decode cL_law 1020 = .ok (.aload_n 0, 1) := by decide +kernel
theorem dL_law_1021 : decode cL_law 1021 = .ok (.iload_n 3, 1) := by decide +kernel
theorem dL_law_1022 : decode cL_law 1022 = .ok (.iconst 2, 1) := by decide +kernel
theorem dL_law_1023 : decode cL_law 1023 = .ok (.iadd, 1) := by decide +kernel
theorem dL_law_1024 : decode cL_law 1024 = .ok (.iaload, 1) := by decide +kernel
theorem dL_law_1025 : decode cL_law 1025 = .ok (.aload_n 0, 1) := by decide +kernel
theorem dL_law_1026 : decode cL_law 1026 = .ok (.iload_n 3, 1) := by decide +kernel
theorem dL_law_1027 : decode cL_law 1027 = .ok (.iconst 3, 1) := by decide +kernel
theorem dL_law_1028 : decode cL_law 1028 = .ok (.iadd, 1) := by decide +kernel
theorem dL_law_1029 : decode cL_law 1029 = .ok (.iaload, 1) := by decide +kernel
theorem dL_law_1030 : decode cL_law 1030 = .ok (.invokevirtual 106, 3) := by decide +kernel
theorem dL_law_1033 : decode cL_law 1033 = .ok (.aload_n 2, 1) := by decide +kernel
theorem dL_law_1034 : decode cL_law 1034 = .ok (.aload_n 0, 1) := by decide +kernel
theorem dL_law_1035 : decode cL_law 1035 = .ok (.iload_n 3, 1) := by decide +kernel
theorem dL_law_1036 : decode cL_law 1036 = .ok (.iconst 1, 1) := by decide +kernel
theorem dL_law_1037 : decode cL_law 1037 = .ok (.iadd, 1) := by decide +kernel
theorem dL_law_1038 : decode cL_law 1038 = .ok (.iaload, 1) := by decide +kernel
theorem dL_law_1039 : decode cL_law 1039 = .ok (.aload_n 0, 1) := by decide +kernel
theorem dL_law_1040 : decode cL_law 1040 = .ok (.iload_n 3, 1) := by decide +kernel
theorem dL_law_1041 : decode cL_law 1041 = .ok (.iconst 2, 1) := by decide +kernel
theorem dL_law_1042 : decode cL_law 1042 = .ok (.iadd, 1) := by decide +kernel
theorem dL_law_1043 : decode cL_law 1043 = .ok (.iaload, 1) := by decide +kernel
theorem dL_law_1044 : decode cL_law 1044 = .ok (.aload_n 0, 1) := by decide +kernel
theorem dL_law_1045 : decode cL_law 1045 = .ok (.iload_n 3, 1) := by decide +kernel
theorem dL_law_1046 : decode cL_law 1046 = .ok (.iconst 3, 1) := by decide +kernel
theorem dL_law_1047 : decode cL_law 1047 = .ok (.iadd, 1) := by decide +kernel
theorem dL_law_1048 : decode cL_law 1048 = .ok (.iaload, 1) := by decide +kernel
theorem dL_law_1049 : decode cL_law 1049 = .ok (.invokevirtual 110, 3) := by decide +kernel
theorem dL_law_1052 : decode cL_law 1052 = .ok (.lcmp, 1) := by decide +kernel
theorem dL_law_1053 : decode cL_law 1053 = .ok (.ifCond .eq 196, 3) := by decide +kernel
theorem dL_law_1056 : decode cL_law 1056 = .ok (.iconst 0, 1) := by decide +kernel
theorem dL_law_1057 : decode cL_law 1057 = .ok (.ireturn, 1) := by decide +kernel
theorem dL_law_1058 : decode cL_law 1058 = .ok (.aload_n 1, 1) := by decide +kernel
theorem dL_law_1059 : decode cL_law 1059 = .ok (.aload_n 0, 1) := by decide +kernel
theorem dL_law_1060 : decode cL_law 1060 = .ok (.iload_n 3, 1) := by decide +kernel
theorem dL_law_1061 : decode cL_law 1061 = .ok (.iconst 1, 1) := by decide +kernel
theorem dL_law_1062 : decode cL_law 1062 = .ok (.iadd, 1) := by decide +kernel
theorem dL_law_1063 : decode cL_law 1063 = .ok (.iaload, 1) := by decide +kernel
theorem dL_law_1064 : decode cL_law 1064 = .ok (.aload_n 0, 1) := by decide +kernel
theorem dL_law_1065 : decode cL_law 1065 = .ok (.iload_n 3, 1) := by decide +kernel
theorem dL_law_1066 : decode cL_law 1066 = .ok (.iconst 2, 1) := by decide +kernel
theorem dL_law_1067 : decode cL_law 1067 = .ok (.iadd, 1) := by decide +kernel
theorem dL_law_1068 : decode cL_law 1068 = .ok (.iaload, 1) := by decide +kernel
theorem dL_law_1069 : decode cL_law 1069 = .ok (.aload_n 0, 1) := by decide +kernel
theorem dL_law_1070 : decode cL_law 1070 = .ok (.iload_n 3, 1) := by decide +kernel
theorem dL_law_1071 : decode cL_law 1071 = .ok (.iconst 3, 1) := by decide +kernel
theorem dL_law_1072 : decode cL_law 1072 = .ok (.iadd, 1) := by decide +kernel
theorem dL_law_1073 : decode cL_law 1073 = .ok (.iaload, 1) := by decide +kernel
theorem dL_law_1074 : decode cL_law 1074 = .ok (.aload_n 0, 1) := by decide +kernel
theorem dL_law_1075 : decode cL_law 1075 = .ok (.iload_n 3, 1) := by decide +kernel
theorem dL_law_1076 : decode cL_law 1076 = .ok (.iconst 4, 1) := by decide +kernel
theorem dL_law_1077 : decode cL_law 1077 = .ok (.iadd, 1) := by decide +kernel
theorem dL_law_1078 : decode cL_law 1078 = .ok (.iaload, 1) := by decide +kernel
theorem dL_law_1079 : decode cL_law 1079 = .ok (.aload_n 0, 1) := by decide +kernel
theorem dL_law_1080 : decode cL_law 1080 = .ok (.iload_n 3, 1) := by decide +kernel
theorem dL_law_1081 : decode cL_law 1081 = .ok (.iconst 5, 1) := by decide +kernel
theorem dL_law_1082 : decode cL_law 1082 = .ok (.iadd, 1) := by decide +kernel
theorem dL_law_1083 : decode cL_law 1083 = .ok (.iaload, 1) := by decide +kernel
theorem dL_law_1084 : decode cL_law 1084 = .ok (.invokevirtual 111, 3) := by decide +kernel
theorem dL_law_1087 : decode cL_law 1087 = .ok (.aload_n 2, 1) := by decide +kernel
theorem dL_law_1088 : decode cL_law 1088 = .ok (.aload_n 0, 1) := by decide +kernel
theorem dL_law_1089 : decode cL_law 1089 = .ok (.iload_n 3, 1) := by decide +kernel
theorem dL_law_1090 : decode cL_law 1090 = .ok (.iconst 1, 1) := by decide +kernel
theorem dL_law_1091 : decode cL_law 1091 = .ok (.iadd, 1) := by decide +kernel
theorem dL_law_1092 : decode cL_law 1092 = .ok (.iaload, 1) := by decide +kernel
theorem dL_law_1093 : decode cL_law 1093 = .ok (.aload_n 0, 1) := by decide +kernel
theorem dL_law_1094 : decode cL_law 1094 = .ok (.iload_n 3, 1) := by decide +kernel
theorem dL_law_1095 : decode cL_law 1095 = .ok (.iconst 2, 1) := by decide +kernel
theorem dL_law_1096 : decode cL_law 1096 = .ok (.iadd, 1) := by decide +kernel
theorem dL_law_1097 : decode cL_law 1097 = .ok (.iaload, 1) := by decide +kernel
theorem dL_law_1098 : decode cL_law 1098 = .ok (.aload_n 0, 1) := by decide +kernel
theorem dL_law_1099 : decode cL_law 1099 = .ok (.iload_n 3, 1) := by decide +kernel
theorem dL_law_1100 : decode cL_law 1100 = .ok (.iconst 3, 1) := by decide +kernel
theorem dL_law_1101 : decode cL_law 1101 = .ok (.iadd, 1) := by decide +kernel
theorem dL_law_1102 : decode cL_law 1102 = .ok (.iaload, 1) := by decide +kernel
theorem dL_law_1103 : decode cL_law 1103 = .ok (.aload_n 0, 1) := by decide +kernel
theorem dL_law_1104 : decode cL_law 1104 = .ok (.iload_n 3, 1) := by decide +kernel
theorem dL_law_1105 : decode cL_law 1105 = .ok (.iconst 4, 1) := by decide +kernel
theorem dL_law_1106 : decode cL_law 1106 = .ok (.iadd, 1) := by decide +kernel
theorem dL_law_1107 : decode cL_law 1107 = .ok (.iaload, 1) := by decide +kernel
theorem dL_law_1108 : decode cL_law 1108 = .ok (.aload_n 0, 1) := by decide +kernel
theorem dL_law_1109 : decode cL_law 1109 = .ok (.iload_n 3, 1) := by decide +kernel
theorem dL_law_1110 : decode cL_law 1110 = .ok (.iconst 5, 1) := by decide +kernel
theorem dL_law_1111 : decode cL_law 1111 = .ok (.iadd, 1) := by decide +kernel
theorem dL_law_1112 : decode cL_law 1112 = .ok (.iaload, 1) := by decide +kernel
theorem dL_law_1113 : decode cL_law 1113 = .ok (.invokevirtual 114, 3) := by decide +kernel
theorem dL_law_1116 : decode cL_law 1116 = .ok (.if_icmp .eq 133, 3) := by decide +kernel
theorem dL_law_1119 : decode cL_law 1119 = .ok (.iconst 0, 1) := by decide +kernel
theorem dL_law_1120 : decode cL_law 1120 = .ok (.ireturn, 1) := by decide +kernel
theorem dL_law_1121 : decode cL_law 1121 = .ok (.aload_n 1, 1) := by decide +kernel
theorem dL_law_1122 : decode cL_law 1122 = .ok (.aload_n 0, 1) := by decide +kernel
theorem dL_law_1123 : decode cL_law 1123 = .ok (.iload_n 3, 1) := by decide +kernel
theorem dL_law_1124 : decode cL_law 1124 = .ok (.iconst 1, 1) := by decide +kernel
theorem dL_law_1125 : decode cL_law 1125 = .ok (.iadd, 1) := by decide +kernel
theorem dL_law_1126 : decode cL_law 1126 = .ok (.iaload, 1) := by decide +kernel
theorem dL_law_1127 : decode cL_law 1127 = .ok (.invokevirtual 115, 3) := by decide +kernel
theorem dL_law_1130 : decode cL_law 1130 = .ok (.aload_n 2, 1) := by decide +kernel
theorem dL_law_1131 : decode cL_law 1131 = .ok (.aload_n 0, 1) := by decide +kernel
theorem dL_law_1132 : decode cL_law 1132 = .ok (.iload_n 3, 1) := by decide +kernel
theorem dL_law_1133 : decode cL_law 1133 = .ok (.iconst 1, 1) := by decide +kernel
theorem dL_law_1134 : decode cL_law 1134 = .ok (.iadd, 1) := by decide +kernel
theorem dL_law_1135 : decode cL_law 1135 = .ok (.iaload, 1) := by decide +kernel
theorem dL_law_1136 : decode cL_law 1136 = .ok (.invokevirtual 118, 3) := by decide +kernel
theorem dL_law_1139 : decode cL_law 1139 = .ok (.if_icmp .eq 110, 3) := by decide +kernel
theorem dL_law_1142 : decode cL_law 1142 = .ok (.iconst 0, 1) := by decide +kernel
theorem dL_law_1143 : decode cL_law 1143 = .ok (.ireturn, 1) := by decide +kernel
theorem dL_law_1144 : decode cL_law 1144 = .ok (.aload_n 1, 1) := by decide +kernel
theorem dL_law_1145 : decode cL_law 1145 = .ok (.aload_n 0, 1) := by decide +kernel
theorem dL_law_1146 : decode cL_law 1146 = .ok (.iload_n 3, 1) := by decide +kernel
theorem dL_law_1147 : decode cL_law 1147 = .ok (.iconst 1, 1) := by decide +kernel
theorem dL_law_1148 : decode cL_law 1148 = .ok (.iadd, 1) := by decide +kernel
theorem dL_law_1149 : decode cL_law 1149 = .ok (.iaload, 1) := by decide +kernel
theorem dL_law_1150 : decode cL_law 1150 = .ok (.invokevirtual 119, 3) := by decide +kernel
theorem dL_law_1153 : decode cL_law 1153 = .ok (.aload_n 2, 1) := by decide +kernel
theorem dL_law_1154 : decode cL_law 1154 = .ok (.aload_n 0, 1) := by decide +kernel
theorem dL_law_1155 : decode cL_law 1155 = .ok (.iload_n 3, 1) := by decide +kernel
theorem dL_law_1156 : decode cL_law 1156 = .ok (.iconst 1, 1) := by decide +kernel
theorem dL_law_1157 : decode cL_law 1157 = .ok (.iadd, 1) := by decide +kernel
theorem dL_law_1158 : decode cL_law 1158 = .ok (.iaload, 1) := by decide +kernel
theorem dL_law_1159 : decode cL_law 1159 = .ok (.invokevirtual 122, 3) := by decide +kernel
theorem dL_law_1162 : decode cL_law 1162 = .ok (.if_icmp .eq 87, 3) := by decide +kernel
theorem dL_law_1165 : decode cL_law 1165 = .ok (.iconst 0, 1) := by decide +kernel
theorem dL_law_1166 : decode cL_law 1166 = .ok (.ireturn, 1) := by decide +kernel
theorem dL_law_1167 : decode cL_law 1167 = .ok (.aload_n 1, 1) := by decide +kernel
theorem dL_law_1168 : decode cL_law 1168 = .ok (.aload_n 0, 1) := by decide +kernel
theorem dL_law_1169 : decode cL_law 1169 = .ok (.iload_n 3, 1) := by decide +kernel
theorem dL_law_1170 : decode cL_law 1170 = .ok (.iconst 1, 1) := by decide +kernel
theorem dL_law_1171 : decode cL_law 1171 = .ok (.iadd, 1) := by decide +kernel
theorem dL_law_1172 : decode cL_law 1172 = .ok (.iaload, 1) := by decide +kernel
theorem dL_law_1173 : decode cL_law 1173 = .ok (.aload_n 0, 1) := by decide +kernel
theorem dL_law_1174 : decode cL_law 1174 = .ok (.iload_n 3, 1) := by decide +kernel
theorem dL_law_1175 : decode cL_law 1175 = .ok (.iconst 2, 1) := by decide +kernel
theorem dL_law_1176 : decode cL_law 1176 = .ok (.iadd, 1) := by decide +kernel
theorem dL_law_1177 : decode cL_law 1177 = .ok (.iaload, 1) := by decide +kernel
theorem dL_law_1178 : decode cL_law 1178 = .ok (.invokevirtual 123, 3) := by decide +kernel
theorem dL_law_1181 : decode cL_law 1181 = .ok (.aload_n 2, 1) := by decide +kernel
theorem dL_law_1182 : decode cL_law 1182 = .ok (.aload_n 0, 1) := by decide +kernel
theorem dL_law_1183 : decode cL_law 1183 = .ok (.iload_n 3, 1) := by decide +kernel
theorem dL_law_1184 : decode cL_law 1184 = .ok (.iconst 1, 1) := by decide +kernel
theorem dL_law_1185 : decode cL_law 1185 = .ok (.iadd, 1) := by decide +kernel
theorem dL_law_1186 : decode cL_law 1186 = .ok (.iaload, 1) := by decide +kernel
theorem dL_law_1187 : decode cL_law 1187 = .ok (.aload_n 0, 1) := by decide +kernel
theorem dL_law_1188 : decode cL_law 1188 = .ok (.iload_n 3, 1) := by decide +kernel
theorem dL_law_1189 : decode cL_law 1189 = .ok (.iconst 2, 1) := by decide +kernel
theorem dL_law_1190 : decode cL_law 1190 = .ok (.iadd, 1) := by decide +kernel
theorem dL_law_1191 : decode cL_law 1191 = .ok (.iaload, 1) := by decide +kernel
theorem dL_law_1192 : decode cL_law 1192 = .ok (.invokevirtual 126, 3) := by decide +kernel
theorem dL_law_1195 : decode cL_law 1195 = .ok (.if_icmp .eq 54, 3) := by decide +kernel
theorem dL_law_1198 : decode cL_law 1198 = .ok (.iconst 0, 1) := by decide +kernel
theorem dL_law_1199 : decode cL_law 1199 = .ok (.ireturn, 1) := by decide +kernel
theorem dL_law_1200 : decode cL_law 1200 = .ok (.aload_n 1, 1) := by decide +kernel
theorem dL_law_1201 : decode cL_law 1201 = .ok (.invokevirtual 127, 3) := by decide +kernel
theorem dL_law_1204 : decode cL_law 1204 = .ok (.aload_n 2, 1) := by decide +kernel
theorem dL_law_1205 : decode cL_law 1205 = .ok (.invokevirtual 131, 3) := by decide +kernel
theorem dL_law_1208 : decode cL_law 1208 = .ok (.if_icmp .eq 41, 3) := by decide +kernel
theorem dL_law_1211 : decode cL_law 1211 = .ok (.iconst 0, 1) := by decide +kernel
theorem dL_law_1212 : decode cL_law 1212 = .ok (.ireturn, 1) := by decide +kernel
theorem dL_law_1213 : decode cL_law 1213 = .ok (.aload_n 1, 1) := by decide +kernel
theorem dL_law_1214 : decode cL_law 1214 = .ok (.invokevirtual 132, 3) := by decide +kernel
theorem dL_law_1217 : decode cL_law 1217 = .ok (.aload_n 2, 1) := by decide +kernel
theorem dL_law_1218 : decode cL_law 1218 = .ok (.invokevirtual 135, 3) := by decide +kernel
theorem dL_law_1221 : decode cL_law 1221 = .ok (.if_icmp .eq 28, 3) := by decide +kernel
theorem dL_law_1224 : decode cL_law 1224 = .ok (.iconst 0, 1) := by decide +kernel
theorem dL_law_1225 : decode cL_law 1225 = .ok (.ireturn, 1) := by decide +kernel
theorem dL_law_1226 : decode cL_law 1226 = .ok (.aload_n 1, 1) := by decide +kernel
theorem dL_law_1227 : decode cL_law 1227 = .ok (.aload_n 0, 1) := by decide +kernel
theorem dL_law_1228 : decode cL_law 1228 = .ok (.iload_n 3, 1) := by decide +kernel
theorem dL_law_1229 : decode cL_law 1229 = .ok (.iconst 1, 1) := by decide +kernel
theorem dL_law_1230 : decode cL_law 1230 = .ok (.iadd, 1) := by decide +kernel
theorem dL_law_1231 : decode cL_law 1231 = .ok (.iaload, 1) := by decide +kernel
theorem dL_law_1232 : decode cL_law 1232 = .ok (.invokevirtual 136, 3) := by decide +kernel
theorem dL_law_1235 : decode cL_law 1235 = .ok (.aload_n 2, 1) := by decide +kernel
theorem dL_law_1236 : decode cL_law 1236 = .ok (.aload_n 0, 1) := by decide +kernel
theorem dL_law_1237 : decode cL_law 1237 = .ok (.iload_n 3, 1) := by decide +kernel
theorem dL_law_1238 : decode cL_law 1238 = .ok (.iconst 1, 1) := by decide +kernel
theorem dL_law_1239 : decode cL_law 1239 = .ok (.iadd, 1) := by decide +kernel
theorem dL_law_1240 : decode cL_law 1240 = .ok (.iaload, 1) := by decide +kernel
theorem dL_law_1241 : decode cL_law 1241 = .ok (.invokevirtual 139, 3) := by decide +kernel
theorem dL_law_1244 : decode cL_law 1244 = .ok (.if_icmp .eq 5, 3) := by decide +kernel
theorem dL_law_1247 : decode cL_law 1247 = .ok (.iconst 0, 1) := by decide +kernel
theorem dL_law_1248 : decode cL_law 1248 = .ok (.ireturn, 1) := by decide +kernel
theorem dL_law_1249 : decode cL_law 1249 = .ok (.iinc 3 6, 3) := by decide +kernel
theorem dL_law_1252 : decode cL_law 1252 = .ok (.goto (-1234), 3) := by decide +kernel
theorem dL_law_1255 : decode cL_law 1255 = .ok (.iconst 1, 1) := by decide +kernel
theorem dL_law_1256 : decode cL_law 1256 = .ok (.ireturn, 1) := by decide +kernel
end
section
/-! a world is a list of cells (place 0: the script); values name cells by their places in it -/
abbrev sh_C : Type := (Nat × List Value) ⊕ (Nat × vp_A)
abbrev sh_G : Type := Launch × va_G × (Nat → ClassId) × Nat × Nat × Nat × (Nat → Int32)
abbrev sh_cl : List vw_C := [(RX0, TX0, 6), (RX1, TX1, 3), (RX2, TX2, 9), (RX3, TX3, 3), (RX4, TX4, 7), (RX5, TX5, 3), (RX6, TX6, 1), (RX7, TX7, 7), (RX8, TX8, 7), (RX9, TX9, 6), (RX10, TX10, 35)]
abbrev sh_M : Type := String × MethodName × ByteArray × Nat × Option FieldType × Nat × Nat
abbrev sh_D (G : sh_G) : va_G := G.2.1
abbrev sh_b (G : sh_G) : Nat := G.2.2.2.1
abbrev sh_B (G : sh_G) : Nat := G.2.2.2.2.1
abbrev sh_tys (G : sh_G) : List (ClassId × FieldType) := [(G.2.2.1 0, .int), (G.2.2.1 1, .boolean), (G.2.2.1 2, .long), (G.2.2.1 3, .object RX4), (G.2.2.1 4, .object RX3)]
def sh_ad (G : sh_G) (k : Nat) : Nat := match k with
  | 0 => sh_b G
  | j + 1 => sh_B G + j
def sh_tr (G : sh_G) (v : Value) : Value := match v with
  | .ref k => .ref (sh_ad G k)
  | v => v
def sh_cc (G : sh_G) (c : sh_C) : va_E := match c with
  | .inl o => .inr (o.1, o.2.map (sh_tr G))
  | .inr a => .inl (G.2.2.1 a.1, a.2.1, match a.2.2 with
    | .inr (.inr (.inr (.inr f))) => .inr (.inr (.inr (.inr (fun i => (f i).map (sh_ad G)))))
    | x => x)
def sh_im (G : sh_G) (w : List sh_C) : va_W := w.tail.mapIdx (fun j c => (sh_B G + j, sh_cc G c))
theorem sh_cat (G : sh_G) (v : Value) : (sh_tr G v).category = v.category := by cases v <;> rfl
theorem sh_im_at {G : sh_G} {w : List sh_C} {k : Nat} {c : sh_C} (h : w[k + 1]? = some c) : (sh_im G w)[k]? = some (sh_ad G (k + 1), sh_cc G c) := by
  unfold sh_im
  rw [List.getElem?_mapIdx, List.getElem?_tail, h]
  rfl
theorem sh_im_set {G : sh_G} {w : List sh_C} {k : Nat} {c : sh_C} : sh_im G (w.set (k + 1) c) = (sh_im G w).set k (sh_ad G (k + 1), sh_cc G c) := by
  cases w with
  | nil => rfl
  | cons x xs =>
    apply List.ext_getElem?
    intro i
    unfold sh_im
    simp only [List.set_cons_succ, List.tail_cons, List.getElem?_mapIdx, List.getElem?_set, List.length_mapIdx]
    by_cases h : k = i
    · subst h
      by_cases h2 : k < xs.length
      · simp [h2, sh_ad]
      · simp [h2]
    · simp [h]
theorem sh_im_push {G : sh_G} {w : List sh_C} {c : sh_C} (hw : w ≠ []) : sh_im G (w ++ [c]) = sh_im G w ++ [(sh_ad G w.length, sh_cc G c)] := by
  cases w with
  | nil => exact absurd rfl hw
  | cons x xs =>
    unfold sh_im
    simp only [List.cons_append, List.tail_cons, List.mapIdx_append, List.mapIdx_cons, List.mapIdx_nil, List.length_cons, sh_ad]
    simp
def sh_A (G : sh_G) : Nat → Prop := fun q => sh_B G ≤ q
def sh_ht (G : sh_G) (w : List sh_C) (H : Heap) : Prop := H.size + 1 = sh_B G + w.length ∧ va_P (sh_D G) sh_cl (sh_im G w) H ∧ va_D (sh_A G) (sh_im G w) ∧ w[0]? = some (.inr (9, G.2.2.2.2.2.1, .inl G.2.2.2.2.2.2))
theorem sh_ht.at {G : sh_G} {w : List sh_C} {H : Heap} (h : sh_ht G w H) {a : Nat} {c : sh_C} (ha : w[a]? = some c) (hn : ∀ x, c ≠ .inr (9, x)) : ∃ k, a = k + 1 ∧ (sh_im G w)[k]? = some (sh_ad G a, sh_cc G c) := by
  cases a with
  | zero =>
    rw [h.2.2.2] at ha
    exact absurd (Option.some.inj ha).symm (hn _)
  | succ k => exact ⟨k, rfl, sh_im_at ha⟩
theorem sh_ht.set {G : sh_G} {w : List sh_C} {H : Heap} (h : sh_ht G w H) {k : Nat} {c : sh_C} {H1 : Heap} (hz : H1.size = H.size) (hP : va_P (sh_D G) sh_cl ((sh_im G w).set k (sh_ad G (k + 1), sh_cc G c)) H1) (hD : va_D (sh_A G) ((sh_im G w).set k (sh_ad G (k + 1), sh_cc G c))) : sh_ht G (w.set (k + 1) c) H1 := by
  refine ⟨by rw [List.length_set, hz]; exact h.1, by rw [sh_im_set]; exact hP, by rw [sh_im_set]; exact hD, ?_⟩
  rw [List.getElem?_set_ne (by omega)]
  exact h.2.2.2
theorem sh_ht.ne {G : sh_G} {w : List sh_C} {H : Heap} (h : sh_ht G w H) : w ≠ [] := by
  intro e
  have := h.2.2.2
  rw [e] at this
  cases this
theorem sh_ht.len {G : sh_G} {w : List sh_C} {H : Heap} (h : sh_ht G w H) : ∃ j, w.length = j + 1 ∧ H.size = sh_B G + j := by
  have h0 := h.ne
  have h1 := h.1
  cases w with
  | nil => exact absurd rfl h0
  | cons x xs => exact ⟨xs.length, rfl, by simp only [List.length_cons] at h1; omega⟩
/-- the nest-mate links, (the class that holds the link, its entry, the method, the host) -/
def sh_nl : List (String × Nat × MethodName × String) := [(RX9, 19, yX1_init, RX9), (RX9, 26, yX0_init, RX9), (RX9, 33, yX2_init, RX9), (RX9, 40, yX6_init, RX9), (RX9, 45, yX3_init, RX9)]
def sh_sx (G : sh_G) (s : State) : Prop := va_K (sh_D G) sh_cl (sh_tys G) s ∧ va_X (sh_b G) G.2.2.2.2.2.1 G.2.2.2.2.2.2 s s.heap ∧ sh_b G < sh_B G ∧ sh_B G ≤ s.heap.size ∧ (∀ q ∈ sh_nl, va_Nw (.methodLinkNest q.1 q.2.1 q.2.2.1 q.2.2.2) s) ∧ va_AO RX4 s ∧ va_AO RX3 s ∧ ∀ k, k = 4 ∨ k = 7 ∨ k = 8 → s.vm.assignable ((sh_D G).1 k) ((sh_D G).1 4) = true
theorem sh_sx.go {G : sh_G} {s U : State} (h : sh_sx G s) (hW : s.WarmedH U.vm) (hb : U.heap[sh_b G]? = s.heap[sh_b G]?) (hz : sh_B G ≤ U.heap.size) : sh_sx G U := by
  obtain ⟨h1, h2, h3, h4, h5, h6, h7, h8⟩ := h
  exact ⟨h1.moved hW.alike, (h2.kept hb).moved hW.alike, h3, hz, fun q hq => va_Nw.warmM hW (h5 q hq), h6.moved hW.alike, h7.moved hW.alike, fun k hk => by rw [hW.alike.assignable]; exact h8 k hk⟩
/-! the locals -/
def sh_lo (G : sh_G) (nL : Nat) (ls : Array Slot) (lv : List (Option Value)) : Prop := ls.size = nL ∧ lv_wf ls ∧ lv.length ≤ nL ∧ ∀ (k : Nat) (v : Value), lv[k]? = some (some v) → ls[k]? = some (.val (sh_tr G v))
def sh_al (G : sh_G) (lv : List (Option Value)) : List (Nat × Value) := (List.range lv.length).filterMap (fun k => match lv[k]? with
  | some (some v) => some (k, sh_tr G v)
  | _ => none)
theorem sh_al_mem {G : sh_G} {lv : List (Option Value)} {k : Nat} {v : Value} (h : lv[k]? = some (some v)) : (k, sh_tr G v) ∈ sh_al G lv := by
  refine List.mem_filterMap.mpr ⟨k, List.mem_range.mpr ?_, ?_⟩
  · exact (List.getElem?_eq_some_iff.mp h).1
  · rw [h]
theorem sh_al_out {G : sh_G} {lv : List (Option Value)} {q : Nat × Value} (h : q ∈ sh_al G lv) : ∃ v, lv[q.1]? = some (some v) ∧ q.2 = sh_tr G v := by
  obtain ⟨k, -, h2⟩ := List.mem_filterMap.mp h
  split at h2
  · rename_i v hv
    cases h2
    exact ⟨v, hv, rfl⟩
  · cases h2
theorem sh_lo.has {G : sh_G} {nL : Nat} {ls : Array Slot} {lv : List (Option Value)} (h : sh_lo G nL ls lv) : lv_has ls nL (sh_al G lv) := by
  refine ⟨h.1, h.2.1, fun q hq => ?_⟩
  obtain ⟨v, h1, h2⟩ := sh_al_out hq
  rw [h2]
  exact h.2.2.2 _ _ h1
def sh_np (lv : List (Option Value)) (i : Nat) : Bool := match i with
  | 0 => true
  | j + 1 => match lv[j]? with
    | some (some (.long _)) => false
    | some (some (.double _)) => false
    | _ => true
theorem sh_lo_set1 {G : sh_G} {nL i : Nat} {ls' ls : Array Slot} {lv : List (Option Value)} {v : Value} (h0 : sh_lo G nL ls lv) (hi : i < lv.length) (hp : sh_np lv i = true) (h : lv_has ls' nL ((i, sh_tr G v) :: (sh_al G lv).filter (fun q => !(q.1 == i) && !(q.1 + 1 == i && q.2.category == 2)))) : sh_lo G nL ls' (lv.set i (some v)) := by
  refine ⟨h.1, h.2.1, by rw [List.length_set]; exact h0.2.2.1, fun k x hx => ?_⟩
  by_cases hk : k = i
  · subst hk
    rw [List.getElem?_set_self hi] at hx
    cases hx
    exact h.2.2 _ List.mem_cons_self
  · rw [List.getElem?_set_ne (Ne.symm hk)] at hx
    refine h.2.2 (k, sh_tr G x) (List.mem_cons_of_mem _ (List.mem_filter.mpr ⟨sh_al_mem hx, ?_⟩))
    have h1 : (k == i) = false := by simpa using hk
    simp only [h1, Bool.not_false, Bool.true_and, Bool.not_eq_true', Bool.and_eq_false_iff]
    by_cases h2 : k + 1 = i
    · right
      subst h2
      rw [sh_cat]
      simp only [sh_np] at hp
      rw [hx] at hp
      cases x <;> first | rfl | (simp at hp)
    · left
      simpa using h2
theorem sh_lo_set2 {G : sh_G} {nL i : Nat} {ls' ls : Array Slot} {lv : List (Option Value)} {v : Value} (h0 : sh_lo G nL ls lv) (hi : i < lv.length) (hp : sh_np lv i = true) (h : lv_has ls' nL ((i, sh_tr G v) :: (sh_al G lv).filter (fun q => !(q.1 == i) && (!(q.1 == i + 1) && !(q.1 + 1 == i && q.2.category == 2))))) : sh_lo G nL ls' ((lv.set i (some v)).set (i + 1) none) := by
  refine ⟨h.1, h.2.1, by rw [List.length_set, List.length_set]; exact h0.2.2.1, fun k x hx => ?_⟩
  by_cases hk1 : k = i + 1
  · subst hk1
    rw [List.getElem?_set] at hx
    simp only [if_true] at hx
    split at hx <;> cases hx
  rw [List.getElem?_set_ne (Ne.symm hk1)] at hx
  by_cases hk : k = i
  · subst hk
    rw [List.getElem?_set_self hi] at hx
    cases hx
    exact h.2.2 _ List.mem_cons_self
  · rw [List.getElem?_set_ne (Ne.symm hk)] at hx
    refine h.2.2 (k, sh_tr G x) (List.mem_cons_of_mem _ (List.mem_filter.mpr ⟨sh_al_mem hx, ?_⟩))
    have h1 : (k == i) = false := by simpa using hk
    have h3 : (k == i + 1) = false := by simpa using hk1
    simp only [h1, h3, Bool.not_false, Bool.true_and, Bool.not_eq_true', Bool.and_eq_false_iff]
    by_cases h2 : k + 1 = i
    · right
      subst h2
      rw [sh_cat]
      simp only [sh_np] at hp
      rw [hx] at hp
      cases x <;> first | rfl | (simp at hp)
    · left
      simpa using h2
def sh_ar : List Value → List (Option Value)
  | [] => []
  | v :: vs => if v.category = 2 then some v :: none :: sh_ar vs else some v :: sh_ar vs
def sh_en (nL : Nat) (As : List Value) : List (Option Value) := sh_ar As ++ List.replicate (nL - (sh_ar As).length) none
theorem sh_sl_len (G : sh_G) : ∀ As : List Value, (lg_sl (As.map (sh_tr G))).length = (sh_ar As).length
  | [] => rfl
  | v :: vs => by
    have ih := sh_sl_len G vs
    by_cases h : v.category = 2
    · have h2 : (sh_tr G v).category = 2 := by rw [sh_cat]; exact h
      simp only [List.map_cons, lg_sl, List.flatMap_cons, sh_ar, h, if_true] at ih ⊢
      simp [h2, ih]; try omega
    · have h2 : ¬ (sh_tr G v).category = 2 := by rw [sh_cat]; exact h
      simp only [List.map_cons, lg_sl, List.flatMap_cons, sh_ar, h, if_false] at ih ⊢
      simp [h2, ih]; try omega
theorem sh_args_mem (G : sh_G) : ∀ (As : List Value) (i k : Nat) (v : Value), (sh_ar As)[k]? = some (some v) → (i + k, sh_tr G v) ∈ lv_args i (As.map (sh_tr G))
  | [], i, k, v, h => by cases h
  | x :: xs, i, k, v, h => by
    by_cases hc : x.category = 2
    · have h2 : (sh_tr G x).category = 2 := by rw [sh_cat]; exact hc
      simp only [sh_ar, hc, if_true] at h
      simp only [List.map_cons, lv_args, h2, if_true]
      match k, h with
      | 0, h => cases h; exact List.mem_cons_self
      | 1, h => cases h
      | k + 2, h =>
        have := sh_args_mem G xs (i + 2) k v h
        rw [show i + (k + 2) = i + 2 + k by omega]
        exact List.mem_cons_of_mem _ this
    · have h2 : ¬ (sh_tr G x).category = 2 := by rw [sh_cat]; exact hc
      simp only [sh_ar, hc, if_false] at h
      simp only [List.map_cons, lv_args, h2, if_false]
      match k, h with
      | 0, h => cases h; exact List.mem_cons_self
      | k + 1, h =>
        have := sh_args_mem G xs (i + 1) k v h
        rw [show i + (k + 1) = i + 1 + k by omega]
        exact List.mem_cons_of_mem _ this
theorem sh_entry (G : sh_G) {nL : Nat} {As : List Value} (h : (sh_ar As).length ≤ nL) : sh_lo G nL ((lg_sl (As.map (sh_tr G)) ++ List.replicate (nL - (lg_sl (As.map (sh_tr G))).length) Slot.unset).toArray) (sh_en nL As) := by
  have h1 := lv_entry (As.map (sh_tr G)) (n := nL) (by rw [sh_sl_len]; exact h)
  refine ⟨h1.1, h1.2.1, by unfold sh_en; simp; omega, fun k v hk => ?_⟩
  unfold sh_en at hk
  by_cases hl : k < (sh_ar As).length
  · rw [List.getElem?_append_left hl] at hk
    have := sh_args_mem G As 0 k v hk
    rw [Nat.zero_add] at this
    exact h1.2.2 (k, sh_tr G v) this
  · rw [List.getElem?_append_right (by omega)] at hk
    have := List.eq_of_mem_replicate (List.mem_of_getElem? hk)
    cases this
/-! the words that go on unchanged through calls -/
def lw_g : List Cond := lw_tbl.filter goodWord
theorem lw_g_of {w : Cond} (h : w ∈ lw_tbl) (hg : goodWord w = true) : w ∈ lw_g := List.mem_filter.mpr ⟨h, hg⟩
theorem lw_g_good : GoodIn lw_g lw_g := fun _ h => ⟨h, good_of_word (List.mem_filter.mp h).2⟩
theorem lw_g_in {w : Cond} (h : w ∈ lw_tbl) (hg : goodWord w = true) : w ∈ lw_g ∧ ((w.onTables && w.keeps) = true ∨ ∃ ty, w = .arrayClass ty) := ⟨lw_g_of h hg, good_of_word hg⟩
/-! the judgement: from this frame of the method M, in the world w, making at most kc cells of ks slots, M comes to a return of v in a world w' with Q v w' -/
def sh_cx (M : sh_M) (p : Program) (s : State) (m : MethodId) (args : Array Value) (meth : Method) (c : Code) (R : Room) : Prop :=
  p.tables.exec = Jvm.exec ∧ c.code = M.2.2.1 ∧ c.maxLocals = M.2.2.2.1 ∧ s.vm.findClass M.1 = some m.cls ∧ (∀ w ∈ lw_g, w.before args s = true) ∧ meth.name = M.2.1.name ∧ M.2.2.2.2.2.1 ≤ R.frames ∧ M.2.2.2.2.2.2 ≤ R.locals
def sh_ri (M : sh_M) (v : Option Value) (pc : Nat) : Prop := match v with
  | none => decode M.2.2.1 pc = .ok (.return_, 1) ∧ M.2.2.2.2.1 = none
  | some (.int x) => decode M.2.2.1 pc = .ok (.ireturn, 1) ∧ ∃ ty, M.2.2.2.2.1 = some ty ∧ narrow ty (.int x) = .int x
  | some (.long _) => decode M.2.2.1 pc = .ok (.lreturn, 1) ∧ M.2.2.2.2.1 = some .long
  | some (.ref _) => decode M.2.2.1 pc = .ok (.areturn, 1) ∧ ∃ n, M.2.2.2.2.1 = some (.object n)
  | _ => False
def Ev (G : sh_G) (M : sh_M) (kc ks : Nat) (w : List sh_C) (pc : Nat) (lv : List (Option Value)) (st : List Value) (Q : Option Value → List sh_C → Prop) : Prop :=
  ∀ (p : Program) (e : Env) (R : Room) (s : State) (m : MethodId) (args : Array Value) (below : List Frame) (meth : Method) (c : Code) (H : Heap) (locs : List Loc) (cells slots : Nat) (ls : Array Slot) (Qf : State → Prop),
    sh_cx M p s m args meth c R → sh_sx G s → va_S (sh_A G) s.heap H locs → sh_ht G w H → sh_lo G M.2.2.2.1 ls lv → cells + kc ≤ R.cells → slots + ks ≤ R.slots →
    (∀ (v : Option Value) (w' : List sh_C) (H' : Heap) (locs' : List Loc) (cells' slots' pc' : Nat) (ls' : Array Slot), Q v w' → sh_ht G w' H' → va_S (sh_A G) s.heap H' locs' → cells' ≤ cells + kc → slots' ≤ slots + ks → sh_ri M v pc' → W p G.1 e R s m args below meth c H' locs' cells' slots' Qf (F0 m pc' ls' (v.toList.map (sh_tr G)))) →
    W p G.1 e R s m args below meth c H locs cells slots Qf (F0 m pc ls (st.map (sh_tr G)))
section SHR
variable {G : sh_G} {M : sh_M} {kc ks pc : Nat} {w : List sh_C} {lv : List (Option Value)} {st : List Value} {Q : Option Value → List sh_C → Prop}
theorem e_ret {v : Option Value} (hr : sh_ri M v pc) (hq : Q v w) : Ev G M kc ks w pc lv (v.toList) Q := by
  intro p e R s m args below meth c H locs cells slots ls Qf cx sx hS ht hl h1 h2 fin
  exact fin v w H locs cells slots pc ls hq ht hS (by omega) (by omega) hr
theorem e_w {w' : List sh_C} (h : w = w') (k : Ev G M kc ks w' pc lv st Q) : Ev G M kc ks w pc lv st Q := h ▸ k
theorem e_q {Q' : Option Value → List sh_C → Prop} (k : Ev G M kc ks w pc lv st Q') (h : ∀ v w', Q' v w' → Q v w') : Ev G M kc ks w pc lv st Q := by
  intro p e R s m args below meth c H locs cells slots ls Qf cx sx hS ht hl h1 h2 fin
  exact k p e R s m args below meth c H locs cells slots ls Qf cx sx hS ht hl h1 h2 (fun v w' H' locs' cells' slots' pc' ls' hq => fin v w' H' locs' cells' slots' pc' ls' (h v w' hq))
theorem e_room {kc' ks' : Nat} (k : Ev G M kc' ks' w pc lv st Q) (h1 : kc' ≤ kc) (h2 : ks' ≤ ks) : Ev G M kc ks w pc lv st Q := by
  intro p e R s m args below meth c H locs cells slots ls Qf cx sx hS ht hl h3 h4 fin
  exact k p e R s m args below meth c H locs cells slots ls Qf cx sx hS ht hl (by omega) (by omega) (fun v w' H' locs' cells' slots' pc' ls' hq ht' hS' hc hs => fin v w' H' locs' cells' slots' pc' ls' hq ht' hS' (by omega) (by omega))
end SHR
end
section
section SHS
variable {G : sh_G} {M : sh_M} {kc ks pc : Nat} {w : List sh_C} {lv : List (Option Value)} {st : List Value} {Q : Option Value → List sh_C → Prop}
theorem e_iconst {n : Int} {v : Int32} (d : decode M.2.2.1 pc = .ok (.iconst n, 1)) (hv : Int32.ofInt n = v) (k : Ev G M kc ks w (pc + 1) lv (.int v :: st) Q) : Ev G M kc ks w pc lv (st) Q := by
  intro p e R s m args below meth c H locs cells slots ls Qf cx sx hS ht hl h1 h2 fin
  exact lv_iconst cx.1 cx.2.1 d hv (k p e R s m args below meth c H locs cells slots ls Qf cx sx hS ht hl h1 h2 fin)
theorem e_bipush {n : Int} {v : Int32} (d : decode M.2.2.1 pc = .ok (.bipush n, 2)) (hv : (Int8.ofInt n).toInt32 = v) (k : Ev G M kc ks w (pc + 2) lv (.int v :: st) Q) : Ev G M kc ks w pc lv (st) Q := by
  intro p e R s m args below meth c H locs cells slots ls Qf cx sx hS ht hl h1 h2 fin
  exact lv_bipush cx.1 cx.2.1 d hv (k p e R s m args below meth c H locs cells slots ls Qf cx sx hS ht hl h1 h2 fin)
theorem e_sipush {n : Int} {v : Int32} (d : decode M.2.2.1 pc = .ok (.sipush n, 3)) (hv : (Int16.ofInt n).toInt32 = v) (k : Ev G M kc ks w (pc + 3) lv (.int v :: st) Q) : Ev G M kc ks w pc lv (st) Q := by
  intro p e R s m args below meth c H locs cells slots ls Qf cx sx hS ht hl h1 h2 fin
  exact lv_sipush cx.1 cx.2.1 d hv (k p e R s m args below meth c H locs cells slots ls Qf cx sx hS ht hl h1 h2 fin)
theorem e_lconst {n : Fin 2} {v : Int64} (d : decode M.2.2.1 pc = .ok (.lconst n, 1)) (hv : Int64.ofNat (n : Nat) = v) (k : Ev G M kc ks w (pc + 1) lv (.long v :: st) Q) : Ev G M kc ks w pc lv (st) Q := by
  intro p e R s m args below meth c H locs cells slots ls Qf cx sx hS ht hl h1 h2 fin
  exact lv_lconst cx.1 cx.2.1 d hv (k p e R s m args below meth c H locs cells slots ls Qf cx sx hS ht hl h1 h2 fin)
theorem e_iadd {x y : Int32} (d : decode M.2.2.1 pc = .ok (.iadd, 1)) (k : Ev G M kc ks w (pc + 1) lv (.int (x + y) :: st) Q) : Ev G M kc ks w pc lv (.int y :: .int x :: st) Q := by
  intro p e R s m args below meth c H locs cells slots ls Qf cx sx hS ht hl h1 h2 fin
  exact lv_iadd cx.1 cx.2.1 d (k p e R s m args below meth c H locs cells slots ls Qf cx sx hS ht hl h1 h2 fin)
theorem e_isub {x y : Int32} (d : decode M.2.2.1 pc = .ok (.isub, 1)) (k : Ev G M kc ks w (pc + 1) lv (.int (x - y) :: st) Q) : Ev G M kc ks w pc lv (.int y :: .int x :: st) Q := by
  intro p e R s m args below meth c H locs cells slots ls Qf cx sx hS ht hl h1 h2 fin
  exact lv_isub cx.1 cx.2.1 d (k p e R s m args below meth c H locs cells slots ls Qf cx sx hS ht hl h1 h2 fin)
theorem e_imul {x y : Int32} (d : decode M.2.2.1 pc = .ok (.imul, 1)) (k : Ev G M kc ks w (pc + 1) lv (.int (x * y) :: st) Q) : Ev G M kc ks w pc lv (.int y :: .int x :: st) Q := by
  intro p e R s m args below meth c H locs cells slots ls Qf cx sx hS ht hl h1 h2 fin
  exact lv_imul cx.1 cx.2.1 d (k p e R s m args below meth c H locs cells slots ls Qf cx sx hS ht hl h1 h2 fin)
theorem e_iand {x y : Int32} (d : decode M.2.2.1 pc = .ok (.iand, 1)) (k : Ev G M kc ks w (pc + 1) lv (.int (x &&& y) :: st) Q) : Ev G M kc ks w pc lv (.int y :: .int x :: st) Q := by
  intro p e R s m args below meth c H locs cells slots ls Qf cx sx hS ht hl h1 h2 fin
  exact lv_iand cx.1 cx.2.1 d (k p e R s m args below meth c H locs cells slots ls Qf cx sx hS ht hl h1 h2 fin)
theorem e_ior {x y : Int32} (d : decode M.2.2.1 pc = .ok (.ior, 1)) (k : Ev G M kc ks w (pc + 1) lv (.int (x ||| y) :: st) Q) : Ev G M kc ks w pc lv (.int y :: .int x :: st) Q := by
  intro p e R s m args below meth c H locs cells slots ls Qf cx sx hS ht hl h1 h2 fin
  exact lv_ior cx.1 cx.2.1 d (k p e R s m args below meth c H locs cells slots ls Qf cx sx hS ht hl h1 h2 fin)
theorem e_ixor {x y : Int32} (d : decode M.2.2.1 pc = .ok (.ixor, 1)) (k : Ev G M kc ks w (pc + 1) lv (.int (x ^^^ y) :: st) Q) : Ev G M kc ks w pc lv (.int y :: .int x :: st) Q := by
  intro p e R s m args below meth c H locs cells slots ls Qf cx sx hS ht hl h1 h2 fin
  exact lv_ixor cx.1 cx.2.1 d (k p e R s m args below meth c H locs cells slots ls Qf cx sx hS ht hl h1 h2 fin)
theorem e_ishl {x y : Int32} (d : decode M.2.2.1 pc = .ok (.ishl, 1)) (k : Ev G M kc ks w (pc + 1) lv (.int (x <<< (y &&& 31)) :: st) Q) : Ev G M kc ks w pc lv (.int y :: .int x :: st) Q := by
  intro p e R s m args below meth c H locs cells slots ls Qf cx sx hS ht hl h1 h2 fin
  exact lv_ishl cx.1 cx.2.1 d (k p e R s m args below meth c H locs cells slots ls Qf cx sx hS ht hl h1 h2 fin)
theorem e_ishr {x y : Int32} (d : decode M.2.2.1 pc = .ok (.ishr, 1)) (k : Ev G M kc ks w (pc + 1) lv (.int (x >>> (y &&& 31)) :: st) Q) : Ev G M kc ks w pc lv (.int y :: .int x :: st) Q := by
  intro p e R s m args below meth c H locs cells slots ls Qf cx sx hS ht hl h1 h2 fin
  exact lv_ishr cx.1 cx.2.1 d (k p e R s m args below meth c H locs cells slots ls Qf cx sx hS ht hl h1 h2 fin)
theorem e_iushr {x y : Int32} (d : decode M.2.2.1 pc = .ok (.iushr, 1)) (k : Ev G M kc ks w (pc + 1) lv (.int ((x.toUInt32 >>> (y.toUInt32 &&& Int32.toUInt32 31)).toInt32) :: st) Q) : Ev G M kc ks w pc lv (.int y :: .int x :: st) Q := by
  intro p e R s m args below meth c H locs cells slots ls Qf cx sx hS ht hl h1 h2 fin
  exact lv_iushr cx.1 cx.2.1 d rfl (k p e R s m args below meth c H locs cells slots ls Qf cx sx hS ht hl h1 h2 fin)
theorem e_idiv {x y : Int32} (d : decode M.2.2.1 pc = .ok (.idiv, 1)) (hne : ¬ y = 0) (k : Ev G M kc ks w (pc + 1) lv (.int (x / y) :: st) Q) : Ev G M kc ks w pc lv (.int y :: .int x :: st) Q := by
  intro p e R s m args below meth c H locs cells slots ls Qf cx sx hS ht hl h1 h2 fin
  exact lv_idiv cx.1 cx.2.1 d hne (k p e R s m args below meth c H locs cells slots ls Qf cx sx hS ht hl h1 h2 fin)
theorem e_irem {x y : Int32} (d : decode M.2.2.1 pc = .ok (.irem, 1)) (hne : ¬ y = 0) (k : Ev G M kc ks w (pc + 1) lv (.int (x - x / y * y) :: st) Q) : Ev G M kc ks w pc lv (.int y :: .int x :: st) Q := by
  intro p e R s m args below meth c H locs cells slots ls Qf cx sx hS ht hl h1 h2 fin
  exact lv_irem cx.1 cx.2.1 d hne (k p e R s m args below meth c H locs cells slots ls Qf cx sx hS ht hl h1 h2 fin)
theorem e_ineg {x : Int32} (d : decode M.2.2.1 pc = .ok (.ineg, 1)) (k : Ev G M kc ks w (pc + 1) lv (.int (-x) :: st) Q) : Ev G M kc ks w pc lv (.int x :: st) Q := by
  intro p e R s m args below meth c H locs cells slots ls Qf cx sx hS ht hl h1 h2 fin
  exact lv_ineg cx.1 cx.2.1 d (k p e R s m args below meth c H locs cells slots ls Qf cx sx hS ht hl h1 h2 fin)
theorem e_ladd {x y : Int64} (d : decode M.2.2.1 pc = .ok (.ladd, 1)) (k : Ev G M kc ks w (pc + 1) lv (.long (x + y) :: st) Q) : Ev G M kc ks w pc lv (.long y :: .long x :: st) Q := by
  intro p e R s m args below meth c H locs cells slots ls Qf cx sx hS ht hl h1 h2 fin
  exact lv_ladd cx.1 cx.2.1 d (k p e R s m args below meth c H locs cells slots ls Qf cx sx hS ht hl h1 h2 fin)
theorem e_lsub {x y : Int64} (d : decode M.2.2.1 pc = .ok (.lsub, 1)) (k : Ev G M kc ks w (pc + 1) lv (.long (x - y) :: st) Q) : Ev G M kc ks w pc lv (.long y :: .long x :: st) Q := by
  intro p e R s m args below meth c H locs cells slots ls Qf cx sx hS ht hl h1 h2 fin
  exact lv_lsub cx.1 cx.2.1 d (k p e R s m args below meth c H locs cells slots ls Qf cx sx hS ht hl h1 h2 fin)
theorem e_land {x y : Int64} (d : decode M.2.2.1 pc = .ok (.land, 1)) (k : Ev G M kc ks w (pc + 1) lv (.long (x &&& y) :: st) Q) : Ev G M kc ks w pc lv (.long y :: .long x :: st) Q := by
  intro p e R s m args below meth c H locs cells slots ls Qf cx sx hS ht hl h1 h2 fin
  exact lv_land cx.1 cx.2.1 d (k p e R s m args below meth c H locs cells slots ls Qf cx sx hS ht hl h1 h2 fin)
theorem e_lor {x y : Int64} (d : decode M.2.2.1 pc = .ok (.lor, 1)) (k : Ev G M kc ks w (pc + 1) lv (.long (x ||| y) :: st) Q) : Ev G M kc ks w pc lv (.long y :: .long x :: st) Q := by
  intro p e R s m args below meth c H locs cells slots ls Qf cx sx hS ht hl h1 h2 fin
  exact lv_lor cx.1 cx.2.1 d (k p e R s m args below meth c H locs cells slots ls Qf cx sx hS ht hl h1 h2 fin)
theorem e_lshl {x : Int64} {y : Int32} (d : decode M.2.2.1 pc = .ok (.lshl, 1)) (k : Ev G M kc ks w (pc + 1) lv (.long (x <<< (y.toInt64 &&& 63)) :: st) Q) : Ev G M kc ks w pc lv (.int y :: .long x :: st) Q := by
  intro p e R s m args below meth c H locs cells slots ls Qf cx sx hS ht hl h1 h2 fin
  exact lv_lshl cx.1 cx.2.1 d rfl (k p e R s m args below meth c H locs cells slots ls Qf cx sx hS ht hl h1 h2 fin)
theorem e_lcmp {x y : Int64} (d : decode M.2.2.1 pc = .ok (.lcmp, 1)) (k : Ev G M kc ks w (pc + 1) lv (.int (lg_cmp x y) :: st) Q) : Ev G M kc ks w pc lv (.long y :: .long x :: st) Q := by
  intro p e R s m args below meth c H locs cells slots ls Qf cx sx hS ht hl h1 h2 fin
  exact W.lcmp cx.1 cx.2.1 d (k p e R s m args below meth c H locs cells slots ls Qf cx sx hS ht hl h1 h2 fin)
theorem e_i2l {x : Int32} (d : decode M.2.2.1 pc = .ok (.i2l, 1)) (k : Ev G M kc ks w (pc + 1) lv (.long x.toInt64 :: st) Q) : Ev G M kc ks w pc lv (.int x :: st) Q := by
  intro p e R s m args below meth c H locs cells slots ls Qf cx sx hS ht hl h1 h2 fin
  exact lv_i2l cx.1 cx.2.1 d rfl (k p e R s m args below meth c H locs cells slots ls Qf cx sx hS ht hl h1 h2 fin)
theorem e_i2b {x : Int32} (d : decode M.2.2.1 pc = .ok (.i2b, 1)) (k : Ev G M kc ks w (pc + 1) lv (.int x.toInt8.toInt32 :: st) Q) : Ev G M kc ks w pc lv (.int x :: st) Q := by
  intro p e R s m args below meth c H locs cells slots ls Qf cx sx hS ht hl h1 h2 fin
  exact lv_i2b cx.1 cx.2.1 d rfl (k p e R s m args below meth c H locs cells slots ls Qf cx sx hS ht hl h1 h2 fin)
theorem e_i2s {x : Int32} (d : decode M.2.2.1 pc = .ok (.i2s, 1)) (k : Ev G M kc ks w (pc + 1) lv (.int x.toInt16.toInt32 :: st) Q) : Ev G M kc ks w pc lv (.int x :: st) Q := by
  intro p e R s m args below meth c H locs cells slots ls Qf cx sx hS ht hl h1 h2 fin
  exact lv_i2s cx.1 cx.2.1 d rfl (k p e R s m args below meth c H locs cells slots ls Qf cx sx hS ht hl h1 h2 fin)
theorem e_dup {v : Value} (d : decode M.2.2.1 pc = .ok (.dup, 1)) (hc : v.category = 1) (k : Ev G M kc ks w (pc + 1) lv (v :: v :: st) Q) : Ev G M kc ks w pc lv (v :: st) Q := by
  intro p e R s m args below meth c H locs cells slots ls Qf cx sx hS ht hl h1 h2 fin
  exact lv_dup cx.1 cx.2.1 d (by rw [sh_cat]; exact hc) (k p e R s m args below meth c H locs cells slots ls Qf cx sx hS ht hl h1 h2 fin)
theorem e_dup_x1 {a b : Value} (d : decode M.2.2.1 pc = .ok (.dup_x1, 1)) (ha : a.category = 1) (hb : b.category = 1) (k : Ev G M kc ks w (pc + 1) lv (a :: b :: a :: st) Q) : Ev G M kc ks w pc lv (a :: b :: st) Q := by
  intro p e R s m args below meth c H locs cells slots ls Qf cx sx hS ht hl h1 h2 fin
  exact lv_dup_x1 cx.1 cx.2.1 d (by rw [sh_cat]; exact ha) (by rw [sh_cat]; exact hb) (k p e R s m args below meth c H locs cells slots ls Qf cx sx hS ht hl h1 h2 fin)
theorem e_dup2 {a b : Value} (d : decode M.2.2.1 pc = .ok (.dup2, 1)) (ha : a.category = 1) (hb : b.category = 1) (k : Ev G M kc ks w (pc + 1) lv (a :: b :: a :: b :: st) Q) : Ev G M kc ks w pc lv (a :: b :: st) Q := by
  intro p e R s m args below meth c H locs cells slots ls Qf cx sx hS ht hl h1 h2 fin
  exact lv_dup2_11 cx.1 cx.2.1 d (by rw [sh_cat]; exact ha) (by rw [sh_cat]; exact hb) (k p e R s m args below meth c H locs cells slots ls Qf cx sx hS ht hl h1 h2 fin)
theorem e_ldcw {i : Nat} {v : Int32} (d : decode M.2.2.1 pc = .ok (.ldc_w i, 3)) (hk : Cond.constant M.1 i v ∈ lw_tbl) (k : Ev G M kc ks w (pc + 3) lv (.int v :: st) Q) : Ev G M kc ks w pc lv st Q := by
  intro p e R s m args below meth c H locs cells slots ls Qf cx sx hS ht hl h1 h2 fin
  exact lv_ldcw cx.1 cx.2.1 cx.2.2.2.1 (cx.2.2.2.2.1 _ (lw_g_of hk rfl)) d (k p e R s m args below meth c H locs cells slots ls Qf cx sx hS ht hl h1 h2 fin)
theorem e_ldc2 {i : Nat} {v : Int64} (d : decode M.2.2.1 pc = .ok (.ldc2_w i, 3)) (hk : Cond.constantLong M.1 i v ∈ lw_tbl) (k : Ev G M kc ks w (pc + 3) lv (.long v :: st) Q) : Ev G M kc ks w pc lv st Q := by
  intro p e R s m args below meth c H locs cells slots ls Qf cx sx hS ht hl h1 h2 fin
  exact lv_ldc2 cx.1 cx.2.1 cx.2.2.2.1 (cx.2.2.2.2.1 _ (lw_g_of hk rfl)) d (k p e R s m args below meth c H locs cells slots ls Qf cx sx hS ht hl h1 h2 fin)
theorem e_iload_n {j : Fin 4} {x : Int32} (i : Nat) (d : decode M.2.2.1 pc = .ok (.iload_n j, 1)) (hj : (j : Nat) = i) (h : lv[i]? = some (some (.int x))) (k : Ev G M kc ks w (pc + 1) lv (.int x :: st) Q) : Ev G M kc ks w pc lv st Q := by
  intro p e R s m args below meth c H locs cells slots ls Qf cx sx hS ht hl h1 h2 fin
  exact lv_iload_n cx.1 cx.2.1 d hj (hl.2.2.2 _ _ h) (k p e R s m args below meth c H locs cells slots ls Qf cx sx hS ht hl h1 h2 fin)
theorem e_iload {i : Nat} {x : Int32} (d : decode M.2.2.1 pc = .ok (.iload i, 2)) (h : lv[i]? = some (some (.int x))) (k : Ev G M kc ks w (pc + 2) lv (.int x :: st) Q) : Ev G M kc ks w pc lv st Q := by
  intro p e R s m args below meth c H locs cells slots ls Qf cx sx hS ht hl h1 h2 fin
  exact lv_iload cx.1 cx.2.1 d (hl.2.2.2 _ _ h) (k p e R s m args below meth c H locs cells slots ls Qf cx sx hS ht hl h1 h2 fin)
theorem e_lload_n {j : Fin 4} {x : Int64} (i : Nat) (d : decode M.2.2.1 pc = .ok (.lload_n j, 1)) (hj : (j : Nat) = i) (h : lv[i]? = some (some (.long x))) (k : Ev G M kc ks w (pc + 1) lv (.long x :: st) Q) : Ev G M kc ks w pc lv st Q := by
  intro p e R s m args below meth c H locs cells slots ls Qf cx sx hS ht hl h1 h2 fin
  exact lv_lload_n cx.1 cx.2.1 d hj (hl.2.2.2 _ _ h) (k p e R s m args below meth c H locs cells slots ls Qf cx sx hS ht hl h1 h2 fin)
theorem e_lload {i : Nat} {x : Int64} (d : decode M.2.2.1 pc = .ok (.lload i, 2)) (h : lv[i]? = some (some (.long x))) (k : Ev G M kc ks w (pc + 2) lv (.long x :: st) Q) : Ev G M kc ks w pc lv st Q := by
  intro p e R s m args below meth c H locs cells slots ls Qf cx sx hS ht hl h1 h2 fin
  exact lv_lload cx.1 cx.2.1 d (hl.2.2.2 _ _ h) (k p e R s m args below meth c H locs cells slots ls Qf cx sx hS ht hl h1 h2 fin)
theorem e_aload_n {j : Fin 4} {x : Nat} (i : Nat) (d : decode M.2.2.1 pc = .ok (.aload_n j, 1)) (hj : (j : Nat) = i) (h : lv[i]? = some (some (.ref x))) (k : Ev G M kc ks w (pc + 1) lv (.ref x :: st) Q) : Ev G M kc ks w pc lv st Q := by
  intro p e R s m args below meth c H locs cells slots ls Qf cx sx hS ht hl h1 h2 fin
  exact lv_aload_n cx.1 cx.2.1 d hj (hl.2.2.2 _ _ h) (k p e R s m args below meth c H locs cells slots ls Qf cx sx hS ht hl h1 h2 fin)
theorem e_aload {i : Nat} {x : Nat} (d : decode M.2.2.1 pc = .ok (.aload i, 2)) (h : lv[i]? = some (some (.ref x))) (k : Ev G M kc ks w (pc + 2) lv (.ref x :: st) Q) : Ev G M kc ks w pc lv st Q := by
  intro p e R s m args below meth c H locs cells slots ls Qf cx sx hS ht hl h1 h2 fin
  exact lv_aload cx.1 cx.2.1 d (hl.2.2.2 _ _ h) (k p e R s m args below meth c H locs cells slots ls Qf cx sx hS ht hl h1 h2 fin)
theorem e_istore_n {j : Fin 4} {x : Int32} {lv' : List (Option Value)} (i : Nat) (d : decode M.2.2.1 pc = .ok (.istore_n j, 1)) (hj : (j : Nat) = i) (hi : i < lv.length) (hp : sh_np lv i = true) (he : lv.set i (some (.int x)) = lv') (k : Ev G M kc ks w (pc + 1) lv' st Q) : Ev G M kc ks w pc lv (.int x :: st) Q := by
  subst he
  intro p e R s m args below meth c H locs cells slots ls Qf cx sx hS ht hl h1 h2 fin
  exact lv_istore_n cx.1 cx.2.1 d hj hl.has (Nat.lt_of_lt_of_le hi hl.2.2.1) rfl (fun ls2 hl2 => k p e R s m args below meth c H locs cells slots ls2 Qf cx sx hS ht (sh_lo_set1 hl hi hp hl2) h1 h2 fin)
theorem e_istore {i : Nat} {x : Int32} {lv' : List (Option Value)} (d : decode M.2.2.1 pc = .ok (.istore i, 2)) (hi : i < lv.length) (hp : sh_np lv i = true) (he : lv.set i (some (.int x)) = lv') (k : Ev G M kc ks w (pc + 2) lv' st Q) : Ev G M kc ks w pc lv (.int x :: st) Q := by
  subst he
  intro p e R s m args below meth c H locs cells slots ls Qf cx sx hS ht hl h1 h2 fin
  exact lv_istore cx.1 cx.2.1 d hl.has (Nat.lt_of_lt_of_le hi hl.2.2.1) rfl (fun ls2 hl2 => k p e R s m args below meth c H locs cells slots ls2 Qf cx sx hS ht (sh_lo_set1 hl hi hp hl2) h1 h2 fin)
theorem e_astore_n {j : Fin 4} {x : Nat} {lv' : List (Option Value)} (i : Nat) (d : decode M.2.2.1 pc = .ok (.astore_n j, 1)) (hj : (j : Nat) = i) (hi : i < lv.length) (hp : sh_np lv i = true) (he : lv.set i (some (.ref x)) = lv') (k : Ev G M kc ks w (pc + 1) lv' st Q) : Ev G M kc ks w pc lv (.ref x :: st) Q := by
  subst he
  intro p e R s m args below meth c H locs cells slots ls Qf cx sx hS ht hl h1 h2 fin
  exact lv_astore_n cx.1 cx.2.1 d hj hl.has (Nat.lt_of_lt_of_le hi hl.2.2.1) rfl (fun ls2 hl2 => k p e R s m args below meth c H locs cells slots ls2 Qf cx sx hS ht (sh_lo_set1 hl hi hp hl2) h1 h2 fin)
theorem e_astore {i : Nat} {x : Nat} {lv' : List (Option Value)} (d : decode M.2.2.1 pc = .ok (.astore i, 2)) (hi : i < lv.length) (hp : sh_np lv i = true) (he : lv.set i (some (.ref x)) = lv') (k : Ev G M kc ks w (pc + 2) lv' st Q) : Ev G M kc ks w pc lv (.ref x :: st) Q := by
  subst he
  intro p e R s m args below meth c H locs cells slots ls Qf cx sx hS ht hl h1 h2 fin
  exact lv_astore cx.1 cx.2.1 d hl.has (Nat.lt_of_lt_of_le hi hl.2.2.1) rfl (fun ls2 hl2 => k p e R s m args below meth c H locs cells slots ls2 Qf cx sx hS ht (sh_lo_set1 hl hi hp hl2) h1 h2 fin)
theorem e_lstore {i : Nat} {x : Int64} {lv' : List (Option Value)} (d : decode M.2.2.1 pc = .ok (.lstore i, 2)) (hi : i + 1 < lv.length) (hp : sh_np lv i = true) (he : (lv.set i (some (.long x))).set (i + 1) none = lv') (k : Ev G M kc ks w (pc + 2) lv' st Q) : Ev G M kc ks w pc lv (.long x :: st) Q := by
  subst he
  intro p e R s m args below meth c H locs cells slots ls Qf cx sx hS ht hl h1 h2 fin
  exact lv_lstore cx.1 cx.2.1 d hl.has (Nat.lt_of_lt_of_le hi hl.2.2.1) rfl (fun ls2 hl2 => k p e R s m args below meth c H locs cells slots ls2 Qf cx sx hS ht (sh_lo_set2 hl (Nat.lt_of_succ_lt hi) hp hl2) h1 h2 fin)
theorem e_iinc {i : Nat} {n : Int} {x v : Int32} {lv' : List (Option Value)} (d : decode M.2.2.1 pc = .ok (.iinc i n, 3)) (h : lv[i]? = some (some (.int x))) (hi : i < lv.length) (hp : sh_np lv i = true) (hv : x + Int32.ofInt n = v) (he : lv.set i (some (.int v)) = lv') (k : Ev G M kc ks w (pc + 3) lv' st Q) : Ev G M kc ks w pc lv st Q := by
  subst he
  intro p e R s m args below meth c H locs cells slots ls Qf cx sx hS ht hl h1 h2 fin
  obtain ⟨j, hj⟩ := List.getElem?_of_mem (sh_al_mem (G := G) h)
  exact lv_iinc cx.1 cx.2.1 d hl.has hj hv (Nat.lt_of_lt_of_le hi hl.2.2.1) rfl (fun ls2 hl2 => k p e R s m args below meth c H locs cells slots ls2 Qf cx sx hS ht (sh_lo_set1 hl hi hp hl2) h1 h2 fin)
theorem e_if_eq {x : Int32} {off : Int} {tgt : Nat} (d : decode M.2.2.1 pc = .ok (.ifCond .eq off, 3)) (htg : (pc : Int) + off = (tgt : Int)) (kt : x = 0 → Ev G M kc ks w tgt lv st Q) (kf : ¬ x = 0 → Ev G M kc ks w (pc + 3) lv st Q) : Ev G M kc ks w pc lv (.int x :: st) Q := by
  intro p e R s m args below meth c H locs cells slots ls Qf cx sx hS ht hl h1 h2 fin
  exact lv_if_eq cx.1 cx.2.1 d htg (fun h => kt h p e R s m args below meth c H locs cells slots ls Qf cx sx hS ht hl h1 h2 fin) (fun h => kf h p e R s m args below meth c H locs cells slots ls Qf cx sx hS ht hl h1 h2 fin)
theorem e_icmp_eq {x y : Int32} {off : Int} {tgt : Nat} (d : decode M.2.2.1 pc = .ok (.if_icmp .eq off, 3)) (htg : (pc : Int) + off = (tgt : Int)) (kt : x = y → Ev G M kc ks w tgt lv st Q) (kf : ¬ x = y → Ev G M kc ks w (pc + 3) lv st Q) : Ev G M kc ks w pc lv (.int y :: .int x :: st) Q := by
  intro p e R s m args below meth c H locs cells slots ls Qf cx sx hS ht hl h1 h2 fin
  exact lv_icmp_eq cx.1 cx.2.1 d htg (fun h => kt h p e R s m args below meth c H locs cells slots ls Qf cx sx hS ht hl h1 h2 fin) (fun h => kf h p e R s m args below meth c H locs cells slots ls Qf cx sx hS ht hl h1 h2 fin)
theorem e_if_ne {x : Int32} {off : Int} {tgt : Nat} (d : decode M.2.2.1 pc = .ok (.ifCond .ne off, 3)) (htg : (pc : Int) + off = (tgt : Int)) (kt : x ≠ 0 → Ev G M kc ks w tgt lv st Q) (kf : x = 0 → Ev G M kc ks w (pc + 3) lv st Q) : Ev G M kc ks w pc lv (.int x :: st) Q := by
  intro p e R s m args below meth c H locs cells slots ls Qf cx sx hS ht hl h1 h2 fin
  exact lv_if_ne cx.1 cx.2.1 d htg (fun h => kt h p e R s m args below meth c H locs cells slots ls Qf cx sx hS ht hl h1 h2 fin) (fun h => kf h p e R s m args below meth c H locs cells slots ls Qf cx sx hS ht hl h1 h2 fin)
theorem e_icmp_ne {x y : Int32} {off : Int} {tgt : Nat} (d : decode M.2.2.1 pc = .ok (.if_icmp .ne off, 3)) (htg : (pc : Int) + off = (tgt : Int)) (kt : x ≠ y → Ev G M kc ks w tgt lv st Q) (kf : x = y → Ev G M kc ks w (pc + 3) lv st Q) : Ev G M kc ks w pc lv (.int y :: .int x :: st) Q := by
  intro p e R s m args below meth c H locs cells slots ls Qf cx sx hS ht hl h1 h2 fin
  exact lv_icmp_ne cx.1 cx.2.1 d htg (fun h => kt h p e R s m args below meth c H locs cells slots ls Qf cx sx hS ht hl h1 h2 fin) (fun h => kf h p e R s m args below meth c H locs cells slots ls Qf cx sx hS ht hl h1 h2 fin)
theorem e_if_lt {x : Int32} {off : Int} {tgt : Nat} (d : decode M.2.2.1 pc = .ok (.ifCond .lt off, 3)) (htg : (pc : Int) + off = (tgt : Int)) (kt : x < 0 → Ev G M kc ks w tgt lv st Q) (kf : ¬ x < 0 → Ev G M kc ks w (pc + 3) lv st Q) : Ev G M kc ks w pc lv (.int x :: st) Q := by
  intro p e R s m args below meth c H locs cells slots ls Qf cx sx hS ht hl h1 h2 fin
  exact lv_if_lt cx.1 cx.2.1 d htg (fun h => kt h p e R s m args below meth c H locs cells slots ls Qf cx sx hS ht hl h1 h2 fin) (fun h => kf h p e R s m args below meth c H locs cells slots ls Qf cx sx hS ht hl h1 h2 fin)
theorem e_icmp_lt {x y : Int32} {off : Int} {tgt : Nat} (d : decode M.2.2.1 pc = .ok (.if_icmp .lt off, 3)) (htg : (pc : Int) + off = (tgt : Int)) (kt : x < y → Ev G M kc ks w tgt lv st Q) (kf : ¬ x < y → Ev G M kc ks w (pc + 3) lv st Q) : Ev G M kc ks w pc lv (.int y :: .int x :: st) Q := by
  intro p e R s m args below meth c H locs cells slots ls Qf cx sx hS ht hl h1 h2 fin
  exact lv_icmp_lt cx.1 cx.2.1 d htg (fun h => kt h p e R s m args below meth c H locs cells slots ls Qf cx sx hS ht hl h1 h2 fin) (fun h => kf h p e R s m args below meth c H locs cells slots ls Qf cx sx hS ht hl h1 h2 fin)
theorem e_if_ge {x : Int32} {off : Int} {tgt : Nat} (d : decode M.2.2.1 pc = .ok (.ifCond .ge off, 3)) (htg : (pc : Int) + off = (tgt : Int)) (kt : 0 ≤ x → Ev G M kc ks w tgt lv st Q) (kf : ¬ 0 ≤ x → Ev G M kc ks w (pc + 3) lv st Q) : Ev G M kc ks w pc lv (.int x :: st) Q := by
  intro p e R s m args below meth c H locs cells slots ls Qf cx sx hS ht hl h1 h2 fin
  exact lv_if_ge cx.1 cx.2.1 d htg (fun h => kt h p e R s m args below meth c H locs cells slots ls Qf cx sx hS ht hl h1 h2 fin) (fun h => kf h p e R s m args below meth c H locs cells slots ls Qf cx sx hS ht hl h1 h2 fin)
theorem e_icmp_ge {x y : Int32} {off : Int} {tgt : Nat} (d : decode M.2.2.1 pc = .ok (.if_icmp .ge off, 3)) (htg : (pc : Int) + off = (tgt : Int)) (kt : y ≤ x → Ev G M kc ks w tgt lv st Q) (kf : ¬ y ≤ x → Ev G M kc ks w (pc + 3) lv st Q) : Ev G M kc ks w pc lv (.int y :: .int x :: st) Q := by
  intro p e R s m args below meth c H locs cells slots ls Qf cx sx hS ht hl h1 h2 fin
  exact lv_icmp_ge cx.1 cx.2.1 d htg (fun h => kt h p e R s m args below meth c H locs cells slots ls Qf cx sx hS ht hl h1 h2 fin) (fun h => kf h p e R s m args below meth c H locs cells slots ls Qf cx sx hS ht hl h1 h2 fin)
theorem e_if_gt {x : Int32} {off : Int} {tgt : Nat} (d : decode M.2.2.1 pc = .ok (.ifCond .gt off, 3)) (htg : (pc : Int) + off = (tgt : Int)) (kt : 0 < x → Ev G M kc ks w tgt lv st Q) (kf : ¬ 0 < x → Ev G M kc ks w (pc + 3) lv st Q) : Ev G M kc ks w pc lv (.int x :: st) Q := by
  intro p e R s m args below meth c H locs cells slots ls Qf cx sx hS ht hl h1 h2 fin
  exact lv_if_gt cx.1 cx.2.1 d htg (fun h => kt h p e R s m args below meth c H locs cells slots ls Qf cx sx hS ht hl h1 h2 fin) (fun h => kf h p e R s m args below meth c H locs cells slots ls Qf cx sx hS ht hl h1 h2 fin)
theorem e_icmp_gt {x y : Int32} {off : Int} {tgt : Nat} (d : decode M.2.2.1 pc = .ok (.if_icmp .gt off, 3)) (htg : (pc : Int) + off = (tgt : Int)) (kt : y < x → Ev G M kc ks w tgt lv st Q) (kf : ¬ y < x → Ev G M kc ks w (pc + 3) lv st Q) : Ev G M kc ks w pc lv (.int y :: .int x :: st) Q := by
  intro p e R s m args below meth c H locs cells slots ls Qf cx sx hS ht hl h1 h2 fin
  exact lv_icmp_gt cx.1 cx.2.1 d htg (fun h => kt h p e R s m args below meth c H locs cells slots ls Qf cx sx hS ht hl h1 h2 fin) (fun h => kf h p e R s m args below meth c H locs cells slots ls Qf cx sx hS ht hl h1 h2 fin)
theorem e_if_le {x : Int32} {off : Int} {tgt : Nat} (d : decode M.2.2.1 pc = .ok (.ifCond .le off, 3)) (htg : (pc : Int) + off = (tgt : Int)) (kt : x ≤ 0 → Ev G M kc ks w tgt lv st Q) (kf : ¬ x ≤ 0 → Ev G M kc ks w (pc + 3) lv st Q) : Ev G M kc ks w pc lv (.int x :: st) Q := by
  intro p e R s m args below meth c H locs cells slots ls Qf cx sx hS ht hl h1 h2 fin
  exact lv_if_le cx.1 cx.2.1 d htg (fun h => kt h p e R s m args below meth c H locs cells slots ls Qf cx sx hS ht hl h1 h2 fin) (fun h => kf h p e R s m args below meth c H locs cells slots ls Qf cx sx hS ht hl h1 h2 fin)
theorem e_icmp_le {x y : Int32} {off : Int} {tgt : Nat} (d : decode M.2.2.1 pc = .ok (.if_icmp .le off, 3)) (htg : (pc : Int) + off = (tgt : Int)) (kt : x ≤ y → Ev G M kc ks w tgt lv st Q) (kf : ¬ x ≤ y → Ev G M kc ks w (pc + 3) lv st Q) : Ev G M kc ks w pc lv (.int y :: .int x :: st) Q := by
  intro p e R s m args below meth c H locs cells slots ls Qf cx sx hS ht hl h1 h2 fin
  exact lv_icmp_le cx.1 cx.2.1 d htg (fun h => kt h p e R s m args below meth c H locs cells slots ls Qf cx sx hS ht hl h1 h2 fin) (fun h => kf h p e R s m args below meth c H locs cells slots ls Qf cx sx hS ht hl h1 h2 fin)
theorem e_goto {off : Int} {tgt : Nat} (d : decode M.2.2.1 pc = .ok (.goto off, 3)) (htg : (pc : Int) + off = (tgt : Int)) (k : Ev G M kc ks w tgt lv st Q) : Ev G M kc ks w pc lv st Q := by
  intro p e R s m args below meth c H locs cells slots ls Qf cx sx hS ht hl h1 h2 fin
  exact lv_goto cx.1 cx.2.1 d htg (k p e R s m args below meth c H locs cells slots ls Qf cx sx hS ht hl h1 h2 fin)
theorem e_lookup {dflt : Int} {ps : Array (Int × Int)} {len : Nat} {x : Int32} {off : Int} {tgt : Nat} (d : decode M.2.2.1 pc = .ok (.lookupswitch dflt ps, len)) (hp : (ps.toList.zip (ps.toList.drop 1)).all (fun (a, next) => a.1 < next.1) = true) (ho : Op.lookupswitch.offset ps.toList dflt x.toInt = off) (htg : (pc : Int) + off = (tgt : Int)) (k : Ev G M kc ks w tgt lv st Q) : Ev G M kc ks w pc lv (.int x :: st) Q := by
  intro p e R s m args below meth c H locs cells slots ls Qf cx sx hS ht hl h1 h2 fin
  exact lv_lookup cx.1 cx.2.1 d hp ho htg (k p e R s m args below meth c H locs cells slots ls Qf cx sx hS ht hl h1 h2 fin)
theorem e_tableOut {dflt lo hi : Int} {offs : Array Int} {len : Nat} {x : Int32} {tgt : Nat} (d : decode M.2.2.1 pc = .ok (.tableswitch dflt lo hi offs, len)) (h : x.toInt < lo ∨ hi < x.toInt) (htg : (pc : Int) + dflt = (tgt : Int)) (k : Ev G M kc ks w tgt lv st Q) : Ev G M kc ks w pc lv (.int x :: st) Q := by
  intro p e R s m args below meth c H locs cells slots ls Qf cx sx hS ht hl h1 h2 fin
  exact lv_tableOut cx.1 cx.2.1 d h htg (k p e R s m args below meth c H locs cells slots ls Qf cx sx hS ht hl h1 h2 fin)
theorem e_tableIn {dflt lo hi : Int} {offs : Array Int} {len : Nat} {x : Int32} {off : Int} {tgt : Nat} (d : decode M.2.2.1 pc = .ok (.tableswitch dflt lo hi offs, len)) (h3 : ¬ x.toInt < lo) (h4 : ¬ hi < x.toInt) (ho : offs[(x.toInt - lo).toNat]? = some off) (htg : (pc : Int) + off = (tgt : Int)) (k : Ev G M kc ks w tgt lv st Q) : Ev G M kc ks w pc lv (.int x :: st) Q := by
  intro p e R s m args below meth c H locs cells slots ls Qf cx sx hS ht hl h1 h2 fin
  exact lv_tableIn cx.1 cx.2.1 d h3 h4 ho htg (k p e R s m args below meth c H locs cells slots ls Qf cx sx hS ht hl h1 h2 fin)
end SHS
end
section
section SHM
variable {G : sh_G} {M : sh_M} {kc ks pc : Nat} {w : List sh_C} {lv : List (Option Value)} {st : List Value} {Q : Option Value → List sh_C → Prop}
theorem sh_ht.in {w : List sh_C} {H : Heap} (h : sh_ht G w H) {q : Nat} {e : va_E} (hq : (sh_im G w)[q]? = some (sh_ad G (q + 1), e)) : sh_A G (sh_ad G (q + 1)) := h.2.2.1.2 q _ hq
theorem sh_ht.put {w : List sh_C} {H H1 : Heap} (h : sh_ht G w H) {q : Nat} {e : va_E} {c : sh_C} (hq : (sh_im G w)[q]? = some (sh_ad G (q + 1), e)) (he : va_at (sh_D G) sh_cl (sh_ad G (q + 1), sh_cc G c) H1) (z : H1.size = H.size) (oq : ∀ x : Nat, x ≠ sh_ad G (q + 1) → H1[x]? = H[x]?) : sh_ht G (w.set (q + 1) c) H1 :=
  h.set z (h.2.1.set h.2.2.1 hq he oq) (h.2.2.1.set hq)
/-- a field reference: entry idx of the class own names field k of the class ci -/
def sh_fl (own : String) (idx ci k : Nat) : Prop := ∃ (C : String) (T : u_T) (N : Nat) (ref : String), sh_cl[ci]? = some (C, T, N) ∧ k < N ∧ (∀ w ∈ u_ws C T N, w ∈ lw_g) ∧ Cond.fieldLink own idx ref (T k).2.1 (T k).2.2.1 ∈ lw_tbl ∧ ref = (T k).1
theorem e_getfield {idx a ci : Nat} {fs : List Value} {v : Value} (k : Nat) (d : decode M.2.2.1 pc = .ok (.getfield idx, 3)) (hf : sh_fl M.1 idx ci k) (ha : w[a]? = some (.inl (ci, fs))) (hv : fs[k]? = some v) (kk : Ev G M kc ks w (pc + 3) lv (v :: st) Q) : Ev G M kc ks w pc lv (.ref a :: st) Q := by
  intro p e R s m args below meth c H locs cells slots ls Qf cx sx hS ht hl h1 h2 fin
  obtain ⟨C, T, N, ref, f1, f2, f3, f4, rfl⟩ := hf
  obtain ⟨q, rfl, hq⟩ := ht.at ha (fun x h => by cases h)
  have hv' : (fs.map (sh_tr G))[k]? = some (sh_tr G v) := by rw [List.getElem?_map, hv]; rfl
  exact va_get (D := sh_D G) (cl := sh_cl) (tys := sh_tys G) cx.1 cx.2.1 cx.2.2.2.2.1 f3 cx.2.2.2.1 sx.1 ht.2.1 q hq f1 k f2 (cx.2.2.2.2.1 _ (lw_g_of f4 rfl)) (fun _ h9 => h9) hv' d (kk p e R s m args below meth c H locs cells slots ls Qf cx sx hS ht hl h1 h2 fin)
/-- what a field's type takes -/
def sh_fit (ty : FieldType) (v : Value) : Prop := ∀ G : sh_G, narrow ty (sh_tr G v) = sh_tr G v ∧ fits ty (sh_tr G v) = true
theorem sh_fit_i (x : Int32) : sh_fit .int (.int x) := fun _ => ⟨rfl, rfl⟩
theorem sh_fit_a (t : FieldType) (q : Nat) : sh_fit (.array t) (.ref q) := fun _ => ⟨rfl, rfl⟩
theorem sh_fit_o (n : String) (q : Nat) : sh_fit (.object n) (.ref q) := fun _ => ⟨rfl, rfl⟩
/-- a field reference for a store: not final, or final and stored by its own class's constructor -/
def sh_fp (M : sh_M) (idx ci k : Nat) (ty : FieldType) : Prop := ∃ (C : String) (T : u_T) (N : Nat) (ref : String) (tf : Nat → FieldType), sh_cl[ci]? = some (C, T, N) ∧ k < N ∧ (∀ w ∈ u_ws C T N, w ∈ lw_g) ∧ Cond.fieldLink M.1 idx ref (T k).2.1 (T k).2.2.1 ∈ lw_tbl ∧ ref = (T k).1 ∧ (∀ j, j < N → parseFieldDescriptor (T j).2.2.1 = some (tf j)) ∧ (∀ a, a < N → ∀ b, b < N → a ≠ b → (T a).2.1 ≠ (T b).2.1) ∧ tf k = ty ∧ ((T k).2.2.2 = false ∨ ((T k).2.2.2 = true ∧ M.2.1.name = "<init>" ∧ (T k).1 = M.1))
theorem e_putfield {idx a ci : Nat} {fs : List Value} {v : Value} {ty : FieldType} (k : Nat) (d : decode M.2.2.1 pc = .ok (.putfield idx, 3)) (hf : sh_fp M idx ci k ty) (hv : sh_fit ty v) (ha : w[a]? = some (.inl (ci, fs))) (hl0 : k < fs.length) (kk : Ev G M kc ks (w.set a (.inl (ci, fs.set k v))) (pc + 3) lv st Q) : Ev G M kc ks w pc lv (v :: .ref a :: st) Q := by
  intro p e R s m args below meth c H locs cells slots ls Qf cx sx hS ht hl h1 h2 fin
  obtain ⟨C, T, N, ref, tf, f1, f2, f3, f4, rfl, f6, f7, rfl, f9⟩ := hf
  obtain ⟨q, rfl, hq⟩ := ht.at ha (fun x h => by cases h)
  have hts := cx.2.2.2.2.1
  have hlen : k < (fs.map (sh_tr G)).length := by rw [List.length_map]; exact hl0
  have hap := va_apart (D := sh_D G) (cl := sh_cl) (tys := sh_tys G) (own := C) hts f3 tf f6 f7 sx.1 f1
  obtain ⟨r, g1, cell, q1, q2, q3, q4⟩ := ht.2.1 q _ hq
  have hr : r = (C, T, N) := Option.some.inj (g1.symm.trans f1)
  subst hr
  obtain ⟨hSl, hfc, kC, hkC, hkind⟩ := sx.1.1 ci _ f1
  obtain ⟨cf, kf, fi, f, hi, hsl⟩ := hSl k f2
  have hlay := hts _ (f3 _ (u_in_lay f2))
  have hst := (u_facts hfc hkC (u_lays hts f3 f2) hi).1
  have go : ∀ H' : Heap, H'[sh_ad G (q + 1)]? = some (cell.setSlot f.slot (sh_tr G v)) → H'.size = H.size → (∀ x : Nat, x ≠ sh_ad G (q + 1) → H'[x]? = H[x]?) → W p G.1 e R s m args below meth c H' (locs ++ [⟨sh_ad G (q + 1), f.slot⟩]) cells slots Qf (F0 m (pc + 3) ls (st.map (sh_tr G))) := by
    intro H' e1 e2 e3
    rw [hsl] at e1 ⊢
    have hcell : va_at (sh_D G) sh_cl (sh_ad G (q + 1), sh_cc G (.inl (ci, fs.set k v))) H' := by
      have hq4 := t_set q4 hap f2 (sh_tr G v)
      refine ⟨_, f1, t_OB.to (V := updV (vp_V (fs.map (sh_tr G))) k (sh_tr G v)) ⟨_, e1, q2, q3, hq4⟩ (fun j _ => ?_)⟩
      have := vp_updV_set hlen (sh_tr G v) j
      rw [← List.map_set] at this
      exact this
    exact kk p e R s m args below meth c H' _ cells slots ls Qf cx sx (hS.put e2 e3 (ht.in hq)) (ht.put hq hcell e2 e3) hl h1 h2 fin
  rcases f9 with g | ⟨g2, g3, g4⟩
  · unfold u_lay at hlay
    rw [if_neg (by rw [g]; decide)] at hlay
    have h6 := u_store hfc hkC hkind hlay hi (f6 k f2) (hv G).1 (hv G).2
    exact W.putK cx.1 cx.2.1 (f := f) ⟨cx.2.2.2.1, hts _ (lw_g_of f4 rfl), ⟨_, _, _, hi⟩, hst⟩ (by rw [q2]; exact h6) q1 q3 (by rw [hsl]; exact k2_hasslot (q4 k f2)) rfl rfl d go
  · unfold u_lay at hlay
    rw [if_pos g2] at hlay
    have hcf : m.cls = cf := by
      obtain ⟨_, _, c', _, _, _, -, -, hf', -, -, -, hown2, -⟩ := Cond.laysFinal_spec hlay
      have e1 : c' = cf := by have := hi.symm.trans hf'; simp at this; exact this.1.symm
      rw [g4] at hown2
      rw [← e1]; exact Option.some.inj (cx.2.2.2.1.symm.trans hown2)
    have h6 := u_fits hfc hkC hkind (Or.inr hlay) hi (f6 k f2) (hv G).1 (hv G).2
    exact W.putFinK cx.1 cx.2.1 cx.2.2.2.1 (hts _ (lw_g_of f4 rfl)) hi hst hcf (cx.2.2.2.2.2.1.trans g3) (by rw [q2]; exact h6) q1 q3 (by rw [hsl]; exact k2_hasslot (q4 k f2)) rfl rfl d go
/-! arrays: 0 int, 1 boolean, 2 long, 3 Sill, 4 Sheet -/
theorem e_iaload {a n : Nat} {f : Nat → Int32} {i : Int32} (d : decode M.2.2.1 pc = .ok (.iaload, 1)) (ha : w[a]? = some (.inr (0, n, .inl f))) (hi : vp_in i n) (kk : Ev G M kc ks w (pc + 1) lv (.int (f i.toNatClampNeg) :: st) Q) : Ev G M kc ks w pc lv (.int i :: .ref a :: st) Q := by
  intro p e R s m args below meth c H locs cells slots ls Qf cx sx hS ht hl h1 h2 fin
  obtain ⟨q, rfl, hq⟩ := ht.at ha (fun x h => by cases h)
  exact va_iald (D := sh_D G) (cl := sh_cl) (tys := sh_tys G) cx.1 cx.2.1 sx.1 ht.2.1 q 0 hq rfl hi d (kk p e R s m args below meth c H locs cells slots ls Qf cx sx hS ht hl h1 h2 fin)
theorem e_zaload {a n : Nat} {f : Nat → Int32} {i : Int32} (d : decode M.2.2.1 pc = .ok (.baload, 1)) (ha : w[a]? = some (.inr (1, n, .inl f))) (hi : vp_in i n) (kk : Ev G M kc ks w (pc + 1) lv (.int (f i.toNatClampNeg) :: st) Q) : Ev G M kc ks w pc lv (.int i :: .ref a :: st) Q := by
  intro p e R s m args below meth c H locs cells slots ls Qf cx sx hS ht hl h1 h2 fin
  obtain ⟨q, rfl, hq⟩ := ht.at ha (fun x h => by cases h)
  exact va_zald (D := sh_D G) (cl := sh_cl) (tys := sh_tys G) cx.1 cx.2.1 sx.1 ht.2.1 q 1 hq rfl hi d (kk p e R s m args below meth c H locs cells slots ls Qf cx sx hS ht hl h1 h2 fin)
theorem e_laload {a n : Nat} {f : Nat → Int64} {i : Int32} (d : decode M.2.2.1 pc = .ok (.laload, 1)) (ha : w[a]? = some (.inr (2, n, .inr (.inl f)))) (hi : vp_in i n) (kk : Ev G M kc ks w (pc + 1) lv (.long (f i.toNatClampNeg) :: st) Q) : Ev G M kc ks w pc lv (.int i :: .ref a :: st) Q := by
  intro p e R s m args below meth c H locs cells slots ls Qf cx sx hS ht hl h1 h2 fin
  obtain ⟨q, rfl, hq⟩ := ht.at ha (fun x h => by cases h)
  exact va_lald (D := sh_D G) (cl := sh_cl) (tys := sh_tys G) cx.1 cx.2.1 sx.1 ht.2.1 q 2 hq rfl hi d (kk p e R s m args below meth c H locs cells slots ls Qf cx sx hS ht hl h1 h2 fin)
theorem e_aaload {t a n : Nat} {f : Nat → Option Nat} {i : Int32} {r : Nat} (d : decode M.2.2.1 pc = .ok (.aaload, 1)) (ha : w[a]? = some (.inr (t, n, .inr (.inr (.inr (.inr f)))))) (ht0 : t = 3 ∨ t = 4) (hi : vp_in i n) (hr : f i.toNatClampNeg = some r) (kk : Ev G M kc ks w (pc + 1) lv (.ref r :: st) Q) : Ev G M kc ks w pc lv (.int i :: .ref a :: st) Q := by
  intro p e R s m args below meth c H locs cells slots ls Qf cx sx hS ht hl h1 h2 fin
  obtain ⟨q, rfl, hq⟩ := ht.at ha (fun x h => by cases h; rcases ht0 with h | h <;> cases h)
  have k2 := kk p e R s m args below meth c H locs cells slots ls Qf cx sx hS ht hl h1 h2 fin
  rcases ht0 with rfl | rfl
  · refine va_aldq (D := sh_D G) (cl := sh_cl) (tys := sh_tys G) cx.1 cx.2.1 sx.1 ht.2.1 q 3 hq rfl hi d ?_
    rw [hr]
    exact k2
  · refine va_aldq (D := sh_D G) (cl := sh_cl) (tys := sh_tys G) cx.1 cx.2.1 sx.1 ht.2.1 q 4 hq rfl hi d ?_
    rw [hr]
    exact k2
theorem e_alen {a n : Nat} {f : Nat → Int32} (d : decode M.2.2.1 pc = .ok (.arraylength, 1)) (ha : w[a]? = some (.inr (0, n, .inl f))) (kk : Ev G M kc ks w (pc + 1) lv (.int (nI n) :: st) Q) : Ev G M kc ks w pc lv (.ref a :: st) Q := by
  intro p e R s m args below meth c H locs cells slots ls Qf cx sx hS ht hl h1 h2 fin
  obtain ⟨q, rfl, hq⟩ := ht.at ha (fun x h => by cases h)
  exact va_alen (D := sh_D G) (cl := sh_cl) (tys := sh_tys G) cx.1 cx.2.1 sx.1 ht.2.1 q 0 hq rfl rfl d (kk p e R s m args below meth c H locs cells slots ls Qf cx sx hS ht hl h1 h2 fin)
/-- the script: at place 0 -/
theorem e_slen (d : decode M.2.2.1 pc = .ok (.arraylength, 1)) (kk : Ev G M kc ks w (pc + 1) lv (.int (nI G.2.2.2.2.2.1) :: st) Q) : Ev G M kc ks w pc lv (.ref 0 :: st) Q := by
  intro p e R s m args below meth c H locs cells slots ls Qf cx sx hS ht hl h1 h2 fin
  exact va_slen cx.1 cx.2.1 sx.2.1 (Nat.lt_of_lt_of_le sx.2.2.1 sx.2.2.2.1) (Nat.not_le.mpr sx.2.2.1) hS d (kk p e R s m args below meth c H locs cells slots ls Qf cx sx hS ht hl h1 h2 fin)
theorem e_sald {i : Int32} (d : decode M.2.2.1 pc = .ok (.iaload, 1)) (hi : vp_in i G.2.2.2.2.2.1) (kk : Ev G M kc ks w (pc + 1) lv (.int (G.2.2.2.2.2.2 i.toNatClampNeg) :: st) Q) : Ev G M kc ks w pc lv (.int i :: .ref 0 :: st) Q := by
  intro p e R s m args below meth c H locs cells slots ls Qf cx sx hS ht hl h1 h2 fin
  exact va_sld cx.1 cx.2.1 sx.2.1 (Nat.lt_of_lt_of_le sx.2.2.1 sx.2.2.2.1) (Nat.not_le.mpr sx.2.2.1) hS hi d (kk p e R s m args below meth c H locs cells slots ls Qf cx sx hS ht hl h1 h2 fin)
theorem e_iastore {a n : Nat} {f : Nat → Int32} {i x : Int32} (d : decode M.2.2.1 pc = .ok (.iastore, 1)) (ha : w[a]? = some (.inr (0, n, .inl f))) (hi : vp_in i n) (kk : Ev G M kc ks (w.set a (.inr (0, n, .inl (upd f i.toNatClampNeg x)))) (pc + 1) lv st Q) : Ev G M kc ks w pc lv (.int x :: .int i :: .ref a :: st) Q := by
  intro p e R s m args below meth c H locs cells slots ls Qf cx sx hS ht hl h1 h2 fin
  obtain ⟨q, rfl, hq⟩ := ht.at ha (fun x h => by cases h)
  refine W.iast cx.1 cx.2.1 (ht.2.1 q _ hq) ((sx.1.2 0 _ rfl).1 n (fun j => .int (f j))) (fun q => by cases q) (by show ¬ (i < 0 ∨ (arrV _ _ _).slots.size ≤ _); rw [arrV_size]; exact hi) rfl rfl d fun H1 e1 z oq => ?_
  refine kk p e R s m args below meth c H1 _ cells slots ls Qf cx sx (hS.put z oq (ht.in hq)) (ht.put hq ?_ z oq) hl h1 h2 fin
  show H1[sh_ad G (q + 1)]? = some (vp_cell _ _)
  rw [e1]
  show some ((vp_cell (G.2.2.1 0) (n, .inl f)).setSlot _ _) = some (vp_cell (G.2.2.1 0) (n, .inl (upd f i.toNatClampNeg x)))
  rw [vp_cell_i, vp_cell_i, arrV_store]
  congr 2
  funext y
  by_cases hy : y = i.toNatClampNeg
  · subst hy
    simp [updV, upd]
  · simp [updV, upd, hy]
theorem e_zastore {a n : Nat} {f : Nat → Int32} {i x : Int32} (d : decode M.2.2.1 pc = .ok (.bastore, 1)) (ha : w[a]? = some (.inr (1, n, .inl f))) (hi : vp_in i n) (hx : narrow .boolean (.int x) = .int x) (kk : Ev G M kc ks (w.set a (.inr (1, n, .inl (upd f i.toNatClampNeg x)))) (pc + 1) lv st Q) : Ev G M kc ks w pc lv (.int x :: .int i :: .ref a :: st) Q := by
  intro p e R s m args below meth c H locs cells slots ls Qf cx sx hS ht hl h1 h2 fin
  obtain ⟨q, rfl, hq⟩ := ht.at ha (fun x h => by cases h)
  refine W.zast cx.1 cx.2.1 (ht.2.1 q _ hq) ((sx.1.2 1 _ rfl).1 n (fun j => .int (f j))) (fun q => by cases q) (by show ¬ (i < 0 ∨ (arrV _ _ _).slots.size ≤ _); rw [arrV_size]; exact hi) rfl rfl d fun H1 e1 z oq => ?_
  refine kk p e R s m args below meth c H1 _ cells slots ls Qf cx sx (hS.put z oq (ht.in hq)) (ht.put hq ?_ z oq) hl h1 h2 fin
  show H1[sh_ad G (q + 1)]? = some (vp_cell _ _)
  rw [e1, hx]
  show some ((vp_cell (G.2.2.1 1) (n, .inl f)).setSlot _ _) = some (vp_cell (G.2.2.1 1) (n, .inl (upd f i.toNatClampNeg x)))
  rw [vp_cell_i, vp_cell_i, arrV_store]
  congr 2
  funext y
  by_cases hy : y = i.toNatClampNeg
  · subst hy
    simp [updV, upd]
  · simp [updV, upd, hy]
theorem e_lastore {a n : Nat} {f : Nat → Int64} {i : Int32} {x : Int64} (d : decode M.2.2.1 pc = .ok (.lastore, 1)) (ha : w[a]? = some (.inr (2, n, .inr (.inl f)))) (hi : vp_in i n) (kk : Ev G M kc ks (w.set a (.inr (2, n, .inr (.inl (vp_updL f i.toNatClampNeg x))))) (pc + 1) lv st Q) : Ev G M kc ks w pc lv (.long x :: .int i :: .ref a :: st) Q := by
  intro p e R s m args below meth c H locs cells slots ls Qf cx sx hS ht hl h1 h2 fin
  obtain ⟨q, rfl, hq⟩ := ht.at ha (fun x h => by cases h)
  refine W.last cx.1 cx.2.1 (ht.2.1 q _ hq) ((sx.1.2 2 _ rfl).1 n (fun j => .long (f j))) (fun q => by cases q) (by show ¬ (i < 0 ∨ (arrV _ _ _).slots.size ≤ _); rw [arrV_size]; exact hi) rfl rfl d fun H1 e1 z oq => ?_
  refine kk p e R s m args below meth c H1 _ cells slots ls Qf cx sx (hS.put z oq (ht.in hq)) (ht.put hq ?_ z oq) hl h1 h2 fin
  show H1[sh_ad G (q + 1)]? = some (vp_cell _ _)
  rw [e1]
  show some ((vp_cell (G.2.2.1 2) (n, .inr (.inl f))).setSlot _ _) = some (vp_cell (G.2.2.1 2) (n, .inr (.inl (vp_updL f i.toNatClampNeg x))))
  rw [vp_cell_l, vp_cell_l, arrV_store]
  congr 2
  funext y
  by_cases hy : y = i.toNatClampNeg
  · subst hy
    simp [updV, vp_updL]
  · simp [updV, vp_updL, hy]
/-- the class ci may lie in a row of the type t -/
def sh_el (t ci : Nat) : Prop := (t = 3 ∧ (ci = 4 ∨ ci = 7 ∨ ci = 8)) ∨ (t = 4 ∧ ci = 3)
theorem e_aastore {t a n r ci : Nat} {fs : List Value} {f : Nat → Option Nat} {i : Int32} (d : decode M.2.2.1 pc = .ok (.aastore, 1)) (ha : w[a]? = some (.inr (t, n, .inr (.inr (.inr (.inr f)))))) (hr : w[r]? = some (.inl (ci, fs))) (hel : sh_el t ci) (hi : vp_in i n) (kk : Ev G M kc ks (w.set a (.inr (t, n, .inr (.inr (.inr (.inr (va_up f i.toNatClampNeg (some r)))))))) (pc + 1) lv st Q) : Ev G M kc ks w pc lv (.ref r :: .int i :: .ref a :: st) Q := by
  intro p e R s m args below meth c H locs cells slots ls Qf cx sx hS ht hl h1 h2 fin
  obtain ⟨q, rfl, hq⟩ := ht.at ha (fun x h => by cases h; rcases hel with ⟨h, -⟩ | ⟨h, -⟩ <;> cases h)
  obtain ⟨q2, rfl, hq2⟩ := ht.at hr (fun x h => by cases h)
  have hlt : i.toNatClampNeg < n := Nat.not_le.mp fun q => hi (Or.inr q)
  have h0 : ¬ i < 0 := fun q => hi (Or.inl q)
  obtain ⟨rr, hrr, cellV, g1, g2, g3, -⟩ := ht.2.1 q2 _ hq2
  have hcls := (sx.1.1 ci rr hrr).2
  obtain ⟨kC, hkC, -⟩ := hcls.2
  have key : ∃ (C : String) (kA : Class) (comp : ClassId) (kE : Class), (sh_tys G)[t]? = some (G.2.2.1 t, .object C) ∧ s.vm.classes[G.2.2.1 t]? = some kA ∧ kA.kind = .array comp (.object C) ∧ s.vm.classes[comp]? = some kE ∧ s.vm.assignable ((sh_D G).1 ci) comp = true := by
    rcases hel with ⟨rfl, hci⟩ | ⟨rfl, rfl⟩
    · obtain ⟨kA, comp, k1, k2, k3, -⟩ := (sx.1.2 3 _ rfl).2
      obtain ⟨kE, hkE, -⟩ := Vm.findClass_spec k3
      have e4 : comp = (sh_D G).1 4 := Option.some.inj (k3.symm.trans (sx.1.1 4 _ rfl).2.1)
      exact ⟨_, kA, comp, kE, rfl, k1, k2, hkE, by rw [e4]; exact sx.2.2.2.2.2.2.2 ci hci⟩
    · obtain ⟨kA, comp, k1, k2, k3, -⟩ := (sx.1.2 4 _ rfl).2
      obtain ⟨kE, hkE, -⟩ := Vm.findClass_spec k3
      have e4 : comp = (sh_D G).1 3 := Option.some.inj (k3.symm.trans (sx.1.1 3 _ rfl).2.1)
      exact ⟨_, kA, comp, kE, rfl, k1, k2, hkE, by rw [e4]; exact va_asg _ _⟩
  obtain ⟨C, kA, comp, kE, hty, k1, k2, hkE, hasg⟩ := key
  refine W.aast cx.1 cx.2.1 (ht.2.1 q _ hq) (fun q h => by cases h) (fun h => by cases h) k1 k2 rfl hkE ⟨h0, by show _ < (arrV _ _ _).slots.size; rw [arrV_size]; exact hlt⟩ g1 (fun q h => by rw [g3] at h; cases h) (by rw [g2]; exact hkC) (by rw [g2]; exact hasg) rfl rfl d fun H1 e1 z oq => ?_
  refine kk p e R s m args below meth c H1 _ cells slots ls Qf cx sx (hS.put z oq (ht.in hq)) (ht.put hq ?_ z oq) hl h1 h2 fin
  show H1[sh_ad G (q + 1)]? = some (vp_cell _ _)
  rw [e1]
  show some ((vp_cell (G.2.2.1 t) (n, .inr (.inr (.inr (.inr (fun i => (f i).map (sh_ad G))))))).setSlot _ _) = some (vp_cell (G.2.2.1 t) (n, .inr (.inr (.inr (.inr (fun j => (va_up f i.toNatClampNeg (some (q2 + 1)) j).map (sh_ad G)))))))
  rw [vp_cell_q, vp_cell_q, arrV_store]
  congr 2
  funext y
  by_cases hy : y = i.toNatClampNeg
  · subst hy
    simp [updV, va_up, va_rf]
  · simp [updV, va_up, hy]
end SHM
end
section
section SHK
variable {G : sh_G} {M N : sh_M} {kc ks pc : Nat} {w : List sh_C} {lv : List (Option Value)} {st : List Value} {Q Q1 : Option Value → List sh_C → Prop}
def sh_Qc (G : sh_G) (Q : Option Value → List sh_C → Prop) : Array Value → State → Outcome → State → Prop := fun _ st oc t => (∃ (v : Option Value) (w' : List sh_C), oc = .returned (v.map (sh_tr G)) ∧ Q v w' ∧ sh_ht G w' t.heap) ∧ va_F (sh_A G) st t
def sh_Pc (G : sh_G) (w : List sh_C) (As : List Value) : Array Value → State → Prop := va_Pc (As.map (sh_tr G)) (fun U => sh_sx G U ∧ sh_ht G w U.heap)
def sh_rm (M : sh_M) (kc ks : Nat) : Room := { frames := M.2.2.2.2.2.1, cells := kc, slots := ks, locals := M.2.2.2.2.2.2 }
def sh_ws (M : sh_M) : List Cond := Cond.code M.2.1 M.2.2.1 M.2.2.2.1 M.2.2.2.2.1 :: lw_g
/-- a method's contract out of the judgement at its entry -/
theorem sh_met {As : List Value} (hpl : plainName M.2.1.cls = true) (hown : M.1 = M.2.1.cls) (hlen : (sh_ar As).length ≤ M.2.2.2.1) (hE : Ev G M kc ks w 0 (sh_en M.2.2.2.1 As) [] Q) : Met G.1 M.2.1 (sh_ws M) (sh_rm M kc ks) (sh_Pc G w As) (sh_Qc G Q) kc ks (sh_A G) := by
  refine Met.ofW (cc := M.2.2.1) (maxL := M.2.2.2.1) (ret := M.2.2.2.2.1) hpl rfl ?_
  intro p e s m args below meth c s₁ B hml hv
  obtain ⟨rfl, sx, ht⟩ := hv
  have hx := B.exec
  have hb := B.bytes
  have hr := B.returns
  have hts := atoms_spec (ws := sh_ws M) B.pre
  have hlocks := B.notSynchronized
  have hfc : s.vm.findClass M.2.1.cls = some m.cls := findClass_of_methodNamed B.named
  have hnm : meth.name = M.2.1.name := (name_of_methodNamed B.named B.method).1
  rw [lg_entry_eq]
  refine hE p e _ s m _ below meth c s.heap [] 0 0 _ _ ⟨hx, hb, hml, by rw [hown]; exact hfc, fun w hw => hts w (List.mem_cons_of_mem _ hw), hnm, Nat.le_refl _, Nat.le_refl _⟩ sx va_S.rf ht (sh_entry G hlen) (by show 0 + kc ≤ kc; omega) (by show 0 + ks ≤ ks; omega) ?_
  intro v w' H' locs' cells' slots' pc' ls' hq ht' hS' hc hs hri
  refine W.widen (k := kc) (n := ks) (by omega) (by omega) ?_
  match v, hri with
  | none, ⟨hd, hret⟩ => exact W.vret hx hb (hr.trans hret) (fun t ht2 hW => ⟨⟨none, w', rfl, hq, by rw [ht2]; exact ht'⟩, hS'.F ht2⟩) hS'.2.2 hd
  | some (.int x), ⟨hd, ty, g1, g2⟩ => exact W.zret hx hb (hr.trans g1) g2 (fun t ht2 hW => ⟨⟨some (.int x), w', rfl, hq, by rw [ht2]; exact ht'⟩, hS'.F ht2⟩) hS'.2.2 hd
  | some (.long x), ⟨hd, g1⟩ => exact W.lret hx hb (hr.trans g1) (fun t ht2 hW => ⟨⟨some (.long x), w', rfl, hq, by rw [ht2]; exact ht'⟩, hS'.F ht2⟩) hS'.2.2 hd
  | some (.ref x), ⟨hd, n, g1⟩ => exact W.aret (v := .ref (sh_ad G x)) hx hb (hr.trans g1) (Or.inl ⟨n, rfl⟩) (Or.inr ⟨_, rfl⟩) (fun t ht2 hW => ⟨⟨some (.ref x), w', rfl, hq, by rw [ht2]; exact ht'⟩, hS'.F ht2⟩) hS'.2.2 hd
theorem sh_blind {As : List Value} : FrameBlind (sh_Pc G w As) := by
  intro a U g mk h
  obtain ⟨h1, ⟨g1, g2, g3, g4, g5, g6, g7, g8⟩, h2⟩ := h
  exact ⟨h1, ⟨va_K.moved (u := U) (U := U.calling g mk a) (Vm.Alike.refl U.vm) g1, va_X.moved (u := U) (U := U.calling g mk a) (Vm.Alike.refl U.vm) g2, g3, g4, fun q hq => va_Nw.same rfl rfl (g5 q hq), va_AO.moved (u := U) (U := U.calling g mk a) (Vm.Alike.refl U.vm) g6, va_AO.moved (u := U) (U := U.calling g mk a) (Vm.Alike.refl U.vm) g7, g8⟩, h2⟩
theorem sh_pre {s : State} {H : Heap} {locs : List Loc} {As : List Value} (sx : sh_sx G s) (hS : va_S (sh_A G) s.heap H locs) (ht : sh_ht G w H) (U : State) (hU : U.heap = H) (hW : s.WarmedH U.vm) : sh_Pc G w As (As.map (sh_tr G)).toArray U := by
  refine ⟨rfl, sx.go hW ?_ ?_, by rw [hU]; exact ht⟩
  · rw [hU]
    exact hS.2.1 _ (Nat.lt_of_lt_of_le sx.2.2.1 sx.2.2.2.1) (Nat.not_le.mpr sx.2.2.1)
  · rw [hU]
    exact Nat.le_trans sx.2.2.2.1 hS.1
/-- behind a call -/
theorem sh_call {p : Program} {e : Env} {R : Room} {s : State} {m : MethodId} {args : Array Value} {below : List Frame} {meth : Method} {c : Code} {H : Heap} {locs : List Loc} {cells slots mc ms kc2 ks2 : Nat} {ls : Array Slot} {Qf : State → Prop} {stR : List Value} {a : Array Value}
    (hr : va_Run p G.1 e R s m args below meth c H locs cells slots mc ms (F0 m pc ls stR) (st.map (sh_tr G)) (sh_Qc G Q1 a) (sh_A G))
    (cx : sh_cx M p s m args meth c R) (sx : sh_sx G s) (hS : va_S (sh_A G) s.heap H locs) (hl : sh_lo G M.2.2.2.1 ls lv) (h1 : cells + (mc + kc2) ≤ R.cells) (h2 : slots + (ms + ks2) ≤ R.slots)
    (kk : ∀ (v : Option Value) (w' : List sh_C), Q1 v w' → Ev G M kc2 ks2 w' (pc + 3) lv (v.toList ++ st) Q)
    (fin : ∀ (v : Option Value) (w' : List sh_C) (H' : Heap) (locs' : List Loc) (cells' slots' pc' : Nat) (ls' : Array Slot), Q v w' → sh_ht G w' H' → va_S (sh_A G) s.heap H' locs' → cells' ≤ cells + (mc + kc2) → slots' ≤ slots + (ms + ks2) → sh_ri M v pc' → W p G.1 e R s m args below meth c H' locs' cells' slots' Qf (F0 m pc' ls' (v.toList.map (sh_tr G)))) :
    W p G.1 e R s m args below meth c H locs cells slots Qf (F0 m pc ls stR) := by
  intro T hT X
  obtain ⟨v, st₀, t, T', L, e0, X', hL, e1, e2, ⟨⟨v1, w1, hv, hq, ht1⟩, hz, hk⟩, st2⟩ := hr T hT X
  cases hv
  rw [e0] at hz hk
  have hS1 : va_S (sh_A G) s.heap T'.heap (locs ++ L) := ⟨Nat.le_trans hS.1 (by rw [e1]; exact hz), fun q g1 g2 => by rw [e1, hk q (Nat.lt_of_lt_of_le g1 hS.1) g2]; exact hS.2.1 q g1 g2, fun q hq => by
    rcases List.mem_append.mp hq with h | h
    · exact hS.2.2 q h
    · exact hL q h⟩
  obtain ⟨t2, a1, b1⟩ := kk v1 w1 hq p e R s m args below meth c T'.heap (locs ++ L) (cells + mc) (slots + ms) ls Qf cx sx hS1 (by rw [e1]; exact ht1) hl (by omega) (by omega) (fun v w' H' locs' cells' slots' pc' ls' q1 q2 q3 q4 q5 q6 => fin v w' H' locs' cells' slots' pc' ls' q1 q2 q3 (by omega) (by omega) q6) T' rfl X'
  have hst : (v1.toList ++ st).map (sh_tr G) = (v1.map (sh_tr G)).toList ++ st.map (sh_tr G) := by cases v1 <;> simp
  rw [hst] at a1
  exact ⟨t2, st2 t2 a1, b1⟩
/-- a callee: its words are there -/
def sh_ok (N : sh_M) (n : Nat) : Prop := Cond.code N.2.1 N.2.2.1 N.2.2.2.1 N.2.2.2.2.1 ∈ lw_tbl ∧ Cond.initialized N.2.1.cls ∈ lw_tbl ∧ (N.2.1.cls ≠ "java/lang/invoke/MethodHandle" ∧ N.2.1.cls ≠ "java/lang/invoke/VarHandle") ∧ (parseMethodDescriptor N.2.1.desc).map (fun d => d.parameters.length) = some n ∧ plainName N.2.1.cls = true ∧ N.1 = N.2.1.cls
theorem sh_ok.good {n : Nat} (h : sh_ok N n) : GoodIn lw_g (sh_ws N) := by
  intro w hw
  rcases List.mem_cons.mp hw with rfl | hw
  · exact lw_g_in h.1 rfl
  · exact lw_g_good w hw
theorem sh_gapp {a : List Cond} {N : sh_M} {n : Nat} (h : ∀ w ∈ a, w ∈ lw_tbl ∧ goodWord w = true) (hN : sh_ok N n) : GoodIn lw_g (a ++ sh_ws N) := by
  intro w hw
  rcases List.mem_append.mp hw with hw | hw
  · exact lw_g_in (h w hw).1 (h w hw).2
  · exact hN.good w hw
/-- the callee fits into the caller's room -/
def sh_rr (M N : sh_M) : Prop := N.2.2.2.2.2.1 + 1 ≤ M.2.2.2.2.2.1 ∧ 8 + (N.2.2.2.1 + 11) + N.2.2.2.2.2.2 ≤ M.2.2.2.2.2.2
theorem sh_rr.of {p : Program} {s : State} {m : MethodId} {args : Array Value} {meth : Method} {c : Code} {R : Room} {kc ks : Nat} (h : sh_rr M N) (cx : sh_cx M p s m args meth c R) : (sh_rm N kc ks).frames + 1 ≤ R.frames ∧ 8 + (N.2.2.2.1 + 11) + (sh_rm N kc ks).locals ≤ R.locals := ⟨Nat.le_trans h.1 cx.2.2.2.2.2.2.1, Nat.le_trans h.2 cx.2.2.2.2.2.2.2⟩
theorem sh_cats (G : sh_G) (st : List Value) : ((st.map (sh_tr G)).map fun v => v.category) = st.map fun v => v.category := by
  rw [List.map_map]
  exact List.map_congr_left (fun v _ => sh_cat G v)
variable {mc ms kc2 ks2 idx n a ci : Nat} {As rest : List Value} {fs : List Value}
theorem e_callS (hN : sh_ok N n) (hrr : sh_rr M N) (d : decode M.2.2.1 pc = .ok (.invokestatic idx, 3)) (hl1 : Cond.methodLink M.1 idx N.2.1 ∈ lw_tbl) (hl2 : Cond.static N.2.1 ∈ lw_tbl) (hn : As.length = n) (hst : st = As.reverse ++ rest) (hcat : (rest.map fun v => v.category).sum ≤ 8) (har : (sh_ar As).length ≤ N.2.2.2.1)
    (hE : Ev G N mc ms w 0 (sh_en N.2.2.2.1 As) [] Q1) (kk : ∀ (v : Option Value) (w' : List sh_C), Q1 v w' → Ev G M kc2 ks2 w' (pc + 3) lv (v.toList ++ rest) Q) : Ev G M (mc + kc2) (ms + ks2) w pc lv st Q := by
  intro p e R s m args below meth c H locs cells slots ls Qf cx sx hS ht hl h1 h2 fin
  refine sh_call (va_runS (Ts := lw_g) (n := n) (As := As.map (sh_tr G)) (rest := rest.map (sh_tr G)) ⟨cx.1, cx.2.1, cx.2.2.1, cx.2.2.2.1, cx.2.2.2.2.1⟩ (sh_met hN.2.2.2.2.1 hN.2.2.2.2.2 har hE) (va_cwS n cx.2.2.2.2.1 (sh_gapp (fun w hw => ?_) hN) rfl rfl rfl ⟨hN.2.2.1.1, hN.2.2.1.2, hN.2.2.2.1⟩ (hrr.of cx)) ⟨sh_blind, sh_pre sx hS ht⟩ rfl (by rw [List.length_map]; exact hn) hl.1 (by rw [hst]; simp) (lv_room (by rw [sh_cats]; exact hcat)) d ⟨by omega, by omega⟩) cx sx hS hl h1 h2 kk fin
  rcases List.mem_cons.mp hw with rfl | hw
  · exact ⟨hl1, rfl⟩
  rcases List.mem_cons.mp hw with rfl | hw
  · exact ⟨hl2, rfl⟩
  rcases List.mem_cons.mp hw with rfl | hw
  · exact ⟨hN.2.1, rfl⟩
  cases hw
/-- a virtual call of a method of the receiver's own class -/
theorem e_callV {T : u_T} {K : Nat} (hN : sh_ok N n) (hrr : sh_rr M N) (d : decode M.2.2.1 pc = .ok (.invokevirtual idx, 3)) (hl1 : Cond.methodLink M.1 idx N.2.1 ∈ lw_tbl) (hl2 : Cond.instanceMethod N.2.1 ∈ lw_tbl) (hl3 : Cond.selects N.2.1.cls N.2.1 N.2.1 ∈ lw_tbl) (ha : w[a]? = some (.inl (ci, fs))) (hc : sh_cl[ci]? = some (N.2.1.cls, T, K)) (hn : As.length = n) (hst : st = As.reverse ++ .ref a :: rest) (hcat : (rest.map fun v => v.category).sum ≤ 8) (har : (sh_ar (.ref a :: As)).length ≤ N.2.2.2.1)
    (hE : Ev G N mc ms w 0 (sh_en N.2.2.2.1 (.ref a :: As)) [] Q1) (kk : ∀ (v : Option Value) (w' : List sh_C), Q1 v w' → Ev G M kc2 ks2 w' (pc + 3) lv (v.toList ++ rest) Q) : Ev G M (mc + kc2) (ms + ks2) w pc lv st Q := by
  intro p e R s m args below meth c H locs cells slots ls Qf cx sx hS ht hl h1 h2 fin
  obtain ⟨q, hq0, hq⟩ := ht.at ha (fun x h => by cases h)
  have hpre := sh_pre (As := .ref a :: As) sx hS ht
  refine sh_call (va_runV (Ts := lw_g) (n := n) (C := N.2.1.cls) (b := sh_ad G a) (As := As.map (sh_tr G)) (rest := rest.map (sh_tr G)) ⟨cx.1, cx.2.1, cx.2.2.1, cx.2.2.2.1, cx.2.2.2.2.1⟩ (sh_met hN.2.2.2.2.1 hN.2.2.2.2.2 har hE) (cwV n cx.2.2.2.2.1 (sh_gapp (fun w hw => ?_) hN) rfl rfl rfl ⟨rfl, hN.2.2.1.1, hN.2.2.1.2, hN.2.2.2.1⟩ (hrr.of cx)) ⟨sh_blind, va_recv sx.1 ht.2.1 hc hq, hpre⟩ rfl (by rw [List.length_map]; exact hn) hl.1 (by rw [hst]; simp [sh_tr]) (lv_room (by rw [sh_cats]; exact hcat)) d ⟨by omega, by omega⟩) cx sx hS hl h1 h2 kk fin
  rcases List.mem_cons.mp hw with rfl | hw
  · exact ⟨hl1, rfl⟩
  rcases List.mem_cons.mp hw with rfl | hw
  · exact ⟨hl2, rfl⟩
  rcases List.mem_cons.mp hw with rfl | hw
  · exact ⟨hl3, rfl⟩
  rcases List.mem_cons.mp hw with rfl | hw
  · exact ⟨hN.2.1, rfl⟩
  cases hw
/-- a virtual call of an inherited method -/
theorem e_callU {x : MethodName} {C : String} {T : u_T} {K : Nat} (hN : sh_ok N n) (hrr : sh_rr M N) (d : decode M.2.2.1 pc = .ok (.invokevirtual idx, 3)) (hyx : N.2.1 = ⟨N.2.1.cls, x.name, x.desc⟩) (hl1 : Cond.methodLink M.1 idx x ∈ lw_tbl) (hl2 : Cond.instanceMethod N.2.1 ∈ lw_tbl) (hl3 : Cond.selects C x N.2.1 ∈ lw_tbl) (hl4 : Cond.sameMethod x.cls N.2.1.cls x.name x.desc ∈ lw_tbl) (ha : w[a]? = some (.inl (ci, fs))) (hc : sh_cl[ci]? = some (C, T, K)) (hn : As.length = n) (hst : st = As.reverse ++ .ref a :: rest) (hcat : (rest.map fun v => v.category).sum ≤ 8) (har : (sh_ar (.ref a :: As)).length ≤ N.2.2.2.1)
    (hE : Ev G N mc ms w 0 (sh_en N.2.2.2.1 (.ref a :: As)) [] Q1) (kk : ∀ (v : Option Value) (w' : List sh_C), Q1 v w' → Ev G M kc2 ks2 w' (pc + 3) lv (v.toList ++ rest) Q) : Ev G M (mc + kc2) (ms + ks2) w pc lv st Q := by
  intro p e R s m args below meth c H locs cells slots ls Qf cx sx hS ht hl h1 h2 fin
  obtain ⟨q, hq0, hq⟩ := ht.at ha (fun x h => by cases h)
  have hpre := sh_pre (As := .ref a :: As) sx hS ht
  have hpd : (parseMethodDescriptor x.desc).map (fun d => d.parameters.length) = some n := by
    have := hN.2.2.2.1
    rw [hyx] at this
    exact this
  refine sh_call (va_runU (Ts := lw_g) (n := n) (x := x) (owner := N.2.1.cls) (C := C) (b := sh_ad G a) (As := As.map (sh_tr G)) (rest := rest.map (sh_tr G)) ⟨cx.1, cx.2.1, cx.2.2.1, cx.2.2.2.1, cx.2.2.2.2.1⟩ (sh_met hN.2.2.2.2.1 hN.2.2.2.2.2 har hE) (va_cwU n cx.2.2.2.2.1 (sh_gapp (fun w hw => ?_) hN) rfl rfl rfl hyx ⟨hN.2.2.1.1, hN.2.2.1.2, hpd⟩ (hrr.of cx)) ⟨sh_blind, va_recv sx.1 ht.2.1 hc hq, hpre⟩ rfl (by rw [List.length_map]; exact hn) hl.1 (by rw [hst]; simp [sh_tr]) (lv_room (by rw [sh_cats]; exact hcat)) d ⟨by omega, by omega⟩) cx sx hS hl h1 h2 kk fin
  rcases List.mem_cons.mp hw with rfl | hw
  · exact ⟨hl1, rfl⟩
  rcases List.mem_cons.mp hw with rfl | hw
  · exact ⟨hl4, rfl⟩
  rcases List.mem_cons.mp hw with rfl | hw
  · exact ⟨hl3, rfl⟩
  rcases List.mem_cons.mp hw with rfl | hw
  · exact ⟨hl2, rfl⟩
  rcases List.mem_cons.mp hw with rfl | hw
  · exact ⟨hN.2.1, rfl⟩
  cases hw
/-- a virtual call of an overriding method -/
theorem e_callO {x : MethodName} {C owner : String} {T : u_T} {K : Nat} {b0 : ByteArray} {m0 : Nat} {r0 : Option FieldType} (hN : sh_ok N n) (hrr : sh_rr M N) (d : decode M.2.2.1 pc = .ok (.invokevirtual idx, 3)) (how : owner ≠ "java/lang/invoke/MethodHandle" ∧ owner ≠ "java/lang/invoke/VarHandle") (hxd : x.desc = N.2.1.desc) (h0 : Cond.code ⟨owner, x.name, x.desc⟩ b0 m0 r0 ∈ lw_tbl) (hl1 : Cond.methodLink M.1 idx x ∈ lw_tbl) (hl2 : Cond.instanceMethod N.2.1 ∈ lw_tbl) (hl3 : Cond.selects C x N.2.1 ∈ lw_tbl) (hl4 : Cond.sameMethod x.cls owner x.name x.desc ∈ lw_tbl) (hl5 : Cond.instanceMethod ⟨owner, x.name, x.desc⟩ ∈ lw_tbl) (ha : w[a]? = some (.inl (ci, fs))) (hc : sh_cl[ci]? = some (C, T, K)) (hn : As.length = n) (hst : st = As.reverse ++ .ref a :: rest) (hcat : (rest.map fun v => v.category).sum ≤ 8) (har : (sh_ar (.ref a :: As)).length ≤ N.2.2.2.1)
    (hE : Ev G N mc ms w 0 (sh_en N.2.2.2.1 (.ref a :: As)) [] Q1) (kk : ∀ (v : Option Value) (w' : List sh_C), Q1 v w' → Ev G M kc2 ks2 w' (pc + 3) lv (v.toList ++ rest) Q) : Ev G M (mc + kc2) (ms + ks2) w pc lv st Q := by
  intro p e R s m args below meth c H locs cells slots ls Qf cx sx hS ht hl h1 h2 fin
  obtain ⟨q, hq0, hq⟩ := ht.at ha (fun x h => by cases h)
  have hpre := sh_pre (As := .ref a :: As) sx hS ht
  have hpd : (parseMethodDescriptor x.desc).map (fun d => d.parameters.length) = some n := by rw [hxd]; exact hN.2.2.2.1
  refine sh_call (va_runU (Ts := lw_g) (n := n) (x := x) (owner := owner) (C := C) (b := sh_ad G a) (As := As.map (sh_tr G)) (rest := rest.map (sh_tr G)) ⟨cx.1, cx.2.1, cx.2.2.1, cx.2.2.2.1, cx.2.2.2.2.1⟩ (sh_met hN.2.2.2.2.1 hN.2.2.2.2.2 har hE) (va_cwO n cx.2.2.2.2.1 (sh_gapp (fun w hw => ?_) hN) rfl rfl rfl (lw_g_of h0 rfl) ⟨how.1, how.2, hpd⟩ (hrr.of cx)) ⟨sh_blind, va_recv sx.1 ht.2.1 hc hq, hpre⟩ rfl (by rw [List.length_map]; exact hn) hl.1 (by rw [hst]; simp [sh_tr]) (lv_room (by rw [sh_cats]; exact hcat)) d ⟨by omega, by omega⟩) cx sx hS hl h1 h2 kk fin
  rcases List.mem_cons.mp hw with rfl | hw
  · exact ⟨hl1, rfl⟩
  rcases List.mem_cons.mp hw with rfl | hw
  · exact ⟨hl4, rfl⟩
  rcases List.mem_cons.mp hw with rfl | hw
  · exact ⟨hl5, rfl⟩
  rcases List.mem_cons.mp hw with rfl | hw
  · exact ⟨hl3, rfl⟩
  rcases List.mem_cons.mp hw with rfl | hw
  · exact ⟨hl2, rfl⟩
  rcases List.mem_cons.mp hw with rfl | hw
  · exact ⟨hN.2.1, rfl⟩
  cases hw
/-- a constructor -/
theorem e_callI (hN : sh_ok N n) (hret : N.2.2.2.2.1 = none) (hrr : sh_rr M N) (d : decode M.2.2.1 pc = .ok (.invokespecial idx, 3)) (hnm : N.2.1.name = "<init>") (hl1 : Cond.methodLink M.1 idx N.2.1 ∈ lw_tbl) (hl2 : Cond.instanceMethod N.2.1 ∈ lw_tbl) (hn : As.length = n) (hst : st = As.reverse ++ .ref a :: rest) (hcat : (rest.map fun v => v.category).sum ≤ 8) (har : (sh_ar (.ref a :: As)).length ≤ N.2.2.2.1)
    (hE : Ev G N mc ms w 0 (sh_en N.2.2.2.1 (.ref a :: As)) [] Q1) (kk : ∀ (v : Option Value) (w' : List sh_C), Q1 v w' → Ev G M kc2 ks2 w' (pc + 3) lv (v.toList ++ rest) Q) : Ev G M (mc + kc2) (ms + ks2) w pc lv st Q := by
  intro p e R s m args below meth c H locs cells slots ls Qf cx sx hS ht hl h1 h2 fin
  have hpre := sh_pre (As := .ref a :: As) sx hS ht
  have hw0 : sh_ws N = Cond.code N.2.1 N.2.2.1 N.2.2.2.1 none :: lw_g := by unfold sh_ws; rw [hret]
  exact sh_call (va_runI (Ts := lw_g) (n := n) (b := sh_ad G a) (As := As.map (sh_tr G)) (rest := rest.map (sh_tr G)) ⟨cx.1, cx.2.1, cx.2.2.1, cx.2.2.2.1, cx.2.2.2.2.1⟩ (sh_met hN.2.2.2.2.1 hN.2.2.2.2.2 har hE) (cwI n cx.2.2.2.2.1 hN.good hw0 rfl rfl (cx.2.2.2.2.1 _ (lw_g_of hN.2.1 rfl)) (cx.2.2.2.2.1 _ (lw_g_of hl1 rfl)) (cx.2.2.2.2.1 _ (lw_g_of hl2 rfl)) hnm ⟨hN.2.2.1.1, hN.2.2.1.2, hN.2.2.2.1⟩ (hrr.of cx)) ⟨sh_blind, hpre⟩ rfl (by rw [List.length_map]; exact hn) hl.1 (by rw [hst]; simp [sh_tr]) (lv_room (by rw [sh_cats]; exact hcat)) d ⟨by omega, by omega⟩) cx sx hS hl h1 h2 kk fin
/-- a nest mate's private constructor -/
theorem e_callIN {host : String} (hN : sh_ok N n) (hret : N.2.2.2.2.1 = none) (hrr : sh_rr M N) (d : decode M.2.2.1 pc = .ok (.invokespecial idx, 3)) (hnm : N.2.1.name = "<init>") (hl1 : (M.1, idx, N.2.1, host) ∈ sh_nl) (hl2 : Cond.instanceMethod N.2.1 ∈ lw_tbl) (hn : As.length = n) (hst : st = As.reverse ++ .ref a :: rest) (hcat : (rest.map fun v => v.category).sum ≤ 8) (har : (sh_ar (.ref a :: As)).length ≤ N.2.2.2.1)
    (hE : Ev G N mc ms w 0 (sh_en N.2.2.2.1 (.ref a :: As)) [] Q1) (kk : ∀ (v : Option Value) (w' : List sh_C), Q1 v w' → Ev G M kc2 ks2 w' (pc + 3) lv (v.toList ++ rest) Q) : Ev G M (mc + kc2) (ms + ks2) w pc lv st Q := by
  intro p e R s m args below meth c H locs cells slots ls Qf cx sx hS ht hl h1 h2 fin
  have hpre := sh_pre (As := .ref a :: As) sx hS ht
  have hw0 : sh_ws N = Cond.code N.2.1 N.2.2.1 N.2.2.2.1 none :: lw_g := by unfold sh_ws; rw [hret]
  exact sh_call (va_runIN (Ts := lw_g) (n := n) (b := sh_ad G a) (As := As.map (sh_tr G)) (rest := rest.map (sh_tr G)) ⟨cx.1, cx.2.1, cx.2.2.1, cx.2.2.2.1, cx.2.2.2.2.1⟩ (sh_met hN.2.2.2.2.1 hN.2.2.2.2.2 har hE) ⟨va_cnB n cx.2.2.2.2.1 hN.good hw0 rfl rfl (sx.2.2.2.2.1 _ hl1) (cx.2.2.2.2.1 _ (lw_g_of hN.2.1 rfl)) ⟨hN.2.2.1.1, hN.2.2.1.2, hN.2.2.2.1⟩ (hrr.of cx), hnm, cx.2.2.2.2.1 _ (lw_g_of hl2 rfl)⟩ ⟨sh_blind, hpre⟩ rfl (by rw [List.length_map]; exact hn) hl.1 (by rw [hst]; simp [sh_tr]) (lv_room (by rw [sh_cats]; exact hcat)) d ⟨by omega, by omega⟩) cx sx hS hl h1 h2 kk fin
/-- a superclass's method, by super -/
theorem e_callP {C : String} {T : u_T} {K : Nat} (hN : sh_ok N n) (hrr : sh_rr M N) (d : decode M.2.2.1 pc = .ok (.invokespecial idx, 3)) (hnm : N.2.1.name ≠ "<init>") (hl1 : Cond.methodLink M.1 idx N.2.1 ∈ lw_tbl) (hl2 : Cond.instanceMethod N.2.1 ∈ lw_tbl) (hl3 : Cond.sameMethod N.2.1.cls N.2.1.cls N.2.1.name N.2.1.desc ∈ lw_tbl) (hl4 : Cond.superclass M.1 N.2.1.cls ∈ lw_tbl) (ha : w[a]? = some (.inl (ci, fs))) (hc : sh_cl[ci]? = some (C, T, K)) (hn : As.length = n) (hst : st = As.reverse ++ .ref a :: rest) (hcat : (rest.map fun v => v.category).sum ≤ 8) (har : (sh_ar (.ref a :: As)).length ≤ N.2.2.2.1)
    (hE : Ev G N mc ms w 0 (sh_en N.2.2.2.1 (.ref a :: As)) [] Q1) (kk : ∀ (v : Option Value) (w' : List sh_C), Q1 v w' → Ev G M kc2 ks2 w' (pc + 3) lv (v.toList ++ rest) Q) : Ev G M (mc + kc2) (ms + ks2) w pc lv st Q := by
  intro p e R s m args below meth c H locs cells slots ls Qf cx sx hS ht hl h1 h2 fin
  obtain ⟨q, hq0, hq⟩ := ht.at ha (fun x h => by cases h)
  have hpre := sh_pre (As := .ref a :: As) sx hS ht
  refine sh_call (va_runSU (Ts := lw_g) (n := n) (C := C) (cC := (sh_D G).1 ci) (b := sh_ad G a) (As := As.map (sh_tr G)) (rest := rest.map (sh_tr G)) (sx.1.1 ci _ hc).2 ⟨cx.1, cx.2.1, cx.2.2.1, cx.2.2.2.1, cx.2.2.2.2.1⟩ (sh_met hN.2.2.2.2.1 hN.2.2.2.2.2 har hE) (va_cwSU n cx.2.2.2.2.1 (sh_gapp (fun w hw => ?_) hN) rfl rfl rfl ⟨hnm, hN.2.2.2.1⟩ (hrr.of cx)) ⟨sh_blind, va_recv sx.1 ht.2.1 hc hq, hpre⟩ rfl (by rw [List.length_map]; exact hn) hl.1 (by rw [hst]; simp [sh_tr]) (lv_room (by rw [sh_cats]; exact hcat)) d ⟨by omega, by omega⟩) cx sx hS hl h1 h2 kk fin
  rcases List.mem_cons.mp hw with rfl | hw
  · exact ⟨hl1, rfl⟩
  rcases List.mem_cons.mp hw with rfl | hw
  · exact ⟨hl3, rfl⟩
  rcases List.mem_cons.mp hw with rfl | hw
  · exact ⟨hl4, rfl⟩
  rcases List.mem_cons.mp hw with rfl | hw
  · exact ⟨hl2, rfl⟩
  rcases List.mem_cons.mp hw with rfl | hw
  · exact ⟨hN.2.1, rfl⟩
  cases hw
end SHK
end
section
section SHN
variable {G : sh_G} {M N : sh_M} {kc ks pc : Nat} {w : List sh_C} {lv : List (Option Value)} {st : List Value} {Q : Option Value → List sh_C → Prop}
/-- the world with one more cell -/
theorem sh_ht.push {H H1 : Heap} (h : sh_ht G w H) {c : sh_C} (he : va_at (sh_D G) sh_cl (sh_ad G w.length, sh_cc G c) H1) (z : H1.size = H.size + 1) (oq : ∀ x : Nat, x < H.size → H1[x]? = H[x]?) : sh_ht G (w ++ [c]) H1 := by
  obtain ⟨j, hj, hs⟩ := h.len
  have had : sh_ad G w.length = H.size := by rw [hj, hs]; rfl
  refine ⟨by rw [z, List.length_append]; simp only [List.length_cons, List.length_nil]; have := h.1; omega, ?_, ?_, ?_⟩
  · rw [sh_im_push h.ne]
    refine (h.2.1.kept (fun k q hk => oq q.1 (h.2.1 k q hk).lt)).app (fun k q hk => ?_)
    have hz : k < 1 := (List.getElem?_eq_some_iff.mp hk).1
    rw [show k = 0 by omega] at hk
    cases hk
    exact he
  · rw [sh_im_push h.ne]
    exact h.2.2.1.push h.2.1 had (by rw [had, hs]; exact Nat.le_add_right _ _)
  · rw [List.getElem?_append_left (by omega)]
    exact h.2.2.2
theorem sh_S_push {A : Nat → Prop} {H0 H H1 : Heap} {locs : List Loc} (h : va_S A H0 H locs) (z : H1.size = H.size + 1) (oq : ∀ x : Nat, x < H.size → H1[x]? = H[x]?) : va_S A H0 H1 locs := ⟨Nat.le_trans h.1 (by omega), fun x h1 h2 => (oq x (Nat.lt_of_lt_of_le h1 h.1)).trans (h.2.1 x h1 h2), h.2.2⟩
theorem sh_ht.ad {H : Heap} (h : sh_ht G w H) : sh_ad G w.length = H.size := by
  obtain ⟨j, hj, hs⟩ := h.len
  rw [hj, hs]; rfl
/-- a new object of the class ci -/
def sh_nw (M : sh_M) (idx ci N : Nat) (fs : List Value) : Prop := ∃ (C : String) (T : u_T) (tf : Nat → FieldType), sh_cl[ci]? = some (C, T, N) ∧ Cond.classLink M.1 idx C ∈ lw_tbl ∧ Cond.instantiable C N ∈ lw_tbl ∧ Cond.initialized C ∈ lw_tbl ∧ (∀ w ∈ u_ws C T N, w ∈ lw_g) ∧ (∀ j, j < N → parseFieldDescriptor (T j).2.2.1 = some (tf j)) ∧ ∀ (G : sh_G) (j : Nat), j < N → defaultValue (tf j) = vp_V (fs.map (sh_tr G)) j
theorem e_new {idx ci N : Nat} {fs : List Value} (d : decode M.2.2.1 pc = .ok (.new idx, 3)) (hk : sh_nw M idx ci N fs) (kk : Ev G M kc ks (w ++ [.inl (ci, fs)]) (pc + 3) lv (.ref w.length :: st) Q) : Ev G M (kc + 1) (ks + N) w pc lv st Q := by
  intro p e R s m args below meth c H locs cells slots ls Qf cx sx hS ht hl h1 h2 fin
  obtain ⟨C, T, tf, f1, f2, f3, f4, f5, f6, f7⟩ := hk
  have hts := cx.2.2.2.2.1
  have hKn := sx.1.1 ci _ f1
  refine W.newcK cx.1 cx.2.1 cx.2.2.2.1 (hts _ (lw_g_of f2 rfl)) (hts _ (lw_g_of f3 rfl)) (hts _ (lw_g_of f4 rfl)) rfl d (by omega) (by omega) hKn.2.1 rfl fun H1 kC hkC e1 z1 o1 => ?_
  have had := ht.ad
  have hcell : va_at (sh_D G) sh_cl (sh_ad G w.length, sh_cc G (.inl (ci, fs))) H1 := by
    rw [had]
    exact ⟨_, f1, (u_born tf hts f5 hKn hkC e1 f6).to (fun j hj => f7 G j hj)⟩
  have hstk : (Value.ref H.size :: st.map (sh_tr G)) = ((.ref w.length :: st).map (sh_tr G)) := by
    rw [← had]; rfl
  show W p G.1 e R s m args below meth c H1 locs (cells + 1) (slots + N) Qf (F0 m (pc + 3) ls (Value.ref H.size :: st.map (sh_tr G)))
  rw [hstk]
  exact kk p e R s m args below meth c H1 locs (cells + 1) (slots + N) ls Qf cx sx (sh_S_push hS z1 o1) (ht.push hcell z1 o1) hl (by omega) (by omega) (fun v w' H' locs' cells' slots' pc' ls' q1 q2 q3 q4 q5 q6 => fin v w' H' locs' cells' slots' pc' ls' q1 q2 q3 (by omega) (by omega) q6)
theorem e_newi {n : Int32} (K : Nat) (d : decode M.2.2.1 pc = .ok (.newarray .int, 2)) (hk : Cond.arrayClass .int ∈ lw_tbl) (hn : ¬ n < 0) (hN : n.toNatClampNeg = K) (hb : K * 4 ≤ 536870912) (kk : Ev G M kc ks (w ++ [.inr (0, K, .inl (fun _ => 0))]) (pc + 2) lv (.ref w.length :: st) Q) : Ev G M (kc + 1) (ks + K) w pc lv (.int n :: st) Q := by
  intro p e R s m args below meth c H locs cells slots ls Qf cx sx hS ht hl h1 h2 fin
  refine va_newaK (atype := .int) cx.1 cx.2.1 (cx.2.2.2.2.1 _ (lw_g_of hk rfl)) rfl d rfl hn hN hb (by omega) (by omega) rfl fun H1 cA e1 z1 o1 hAr hNm => ?_
  have had := ht.ad
  have hcA : cA = G.2.2.1 0 := Option.some.inj (hNm.symm.trans (sx.1.2 0 _ rfl).2)
  subst hcA
  have hcell : va_at (sh_D G) sh_cl (sh_ad G w.length, sh_cc G (.inr (0, K, .inl (fun _ => 0)))) H1 := by
    rw [had]
    exact e1
  show W p G.1 e R s m args below meth c H1 locs (cells + 1) (slots + K) Qf (F0 m (pc + 2) ls (Value.ref H.size :: st.map (sh_tr G)))
  rw [show (Value.ref H.size :: st.map (sh_tr G)) = ((.ref w.length :: st).map (sh_tr G)) by rw [← had]; rfl]
  exact kk p e R s m args below meth c H1 locs (cells + 1) (slots + K) ls Qf cx sx (sh_S_push hS z1 o1) (ht.push hcell z1 o1) hl (by omega) (by omega) (fun v w' H' locs' cells' slots' pc' ls' q1 q2 q3 q4 q5 q6 => fin v w' H' locs' cells' slots' pc' ls' q1 q2 q3 (by omega) (by omega) q6)
theorem e_newz {n : Int32} (K : Nat) (d : decode M.2.2.1 pc = .ok (.newarray .boolean, 2)) (hk : Cond.arrayClass .boolean ∈ lw_tbl) (hn : ¬ n < 0) (hN : n.toNatClampNeg = K) (hb : K * 1 ≤ 536870912) (kk : Ev G M kc ks (w ++ [.inr (1, K, .inl (fun _ => 0))]) (pc + 2) lv (.ref w.length :: st) Q) : Ev G M (kc + 1) (ks + K) w pc lv (.int n :: st) Q := by
  intro p e R s m args below meth c H locs cells slots ls Qf cx sx hS ht hl h1 h2 fin
  refine va_newaK (atype := .boolean) cx.1 cx.2.1 (cx.2.2.2.2.1 _ (lw_g_of hk rfl)) rfl d rfl hn hN hb (by omega) (by omega) rfl fun H1 cA e1 z1 o1 hAr hNm => ?_
  have had := ht.ad
  have hcA : cA = G.2.2.1 1 := Option.some.inj (hNm.symm.trans (sx.1.2 1 _ rfl).2)
  subst hcA
  have hcell : va_at (sh_D G) sh_cl (sh_ad G w.length, sh_cc G (.inr (1, K, .inl (fun _ => 0)))) H1 := by
    rw [had]
    exact e1
  show W p G.1 e R s m args below meth c H1 locs (cells + 1) (slots + K) Qf (F0 m (pc + 2) ls (Value.ref H.size :: st.map (sh_tr G)))
  rw [show (Value.ref H.size :: st.map (sh_tr G)) = ((.ref w.length :: st).map (sh_tr G)) by rw [← had]; rfl]
  exact kk p e R s m args below meth c H1 locs (cells + 1) (slots + K) ls Qf cx sx (sh_S_push hS z1 o1) (ht.push hcell z1 o1) hl (by omega) (by omega) (fun v w' H' locs' cells' slots' pc' ls' q1 q2 q3 q4 q5 q6 => fin v w' H' locs' cells' slots' pc' ls' q1 q2 q3 (by omega) (by omega) q6)
theorem e_newl {n : Int32} (K : Nat) (d : decode M.2.2.1 pc = .ok (.newarray .long, 2)) (hk : Cond.arrayClass .long ∈ lw_tbl) (hn : ¬ n < 0) (hN : n.toNatClampNeg = K) (hb : K * 8 ≤ 536870912) (kk : Ev G M kc ks (w ++ [.inr (2, K, .inr (.inl (fun _ => 0)))]) (pc + 2) lv (.ref w.length :: st) Q) : Ev G M (kc + 1) (ks + K) w pc lv (.int n :: st) Q := by
  intro p e R s m args below meth c H locs cells slots ls Qf cx sx hS ht hl h1 h2 fin
  refine va_newaK (atype := .long) cx.1 cx.2.1 (cx.2.2.2.2.1 _ (lw_g_of hk rfl)) rfl d rfl hn hN hb (by omega) (by omega) rfl fun H1 cA e1 z1 o1 hAr hNm => ?_
  have had := ht.ad
  have hcA : cA = G.2.2.1 2 := Option.some.inj (hNm.symm.trans (sx.1.2 2 _ rfl).2)
  subst hcA
  have hcell : va_at (sh_D G) sh_cl (sh_ad G w.length, sh_cc G (.inr (2, K, .inr (.inl (fun _ => 0))))) H1 := by
    rw [had]
    exact e1
  show W p G.1 e R s m args below meth c H1 locs (cells + 1) (slots + K) Qf (F0 m (pc + 2) ls (Value.ref H.size :: st.map (sh_tr G)))
  rw [show (Value.ref H.size :: st.map (sh_tr G)) = ((.ref w.length :: st).map (sh_tr G)) by rw [← had]; rfl]
  exact kk p e R s m args below meth c H1 locs (cells + 1) (slots + K) ls Qf cx sx (sh_S_push hS z1 o1) (ht.push hcell z1 o1) hl (by omega) (by omega) (fun v w' H' locs' cells' slots' pc' ls' q1 q2 q3 q4 q5 q6 => fin v w' H' locs' cells' slots' pc' ls' q1 q2 q3 (by omega) (by omega) q6)
/-- a new row of references: type 3 Sill, 4 Sheet -/
theorem e_newq {n : Int32} {idx : Nat} (t K : Nat) (d : decode M.2.2.1 pc = .ok (.anewarray idx, 3)) (hk : (t = 3 ∧ Cond.classLink M.1 idx RX4 ∈ lw_tbl) ∨ (t = 4 ∧ Cond.classLink M.1 idx RX3 ∈ lw_tbl)) (hn : ¬ n < 0) (hN : n.toNatClampNeg = K) (hb : K * 4 ≤ 536870912) (kk : Ev G M kc ks (w ++ [.inr (t, K, .inr (.inr (.inr (.inr (fun _ => none)))))]) (pc + 3) lv (.ref w.length :: st) Q) : Ev G M (kc + 1) (ks + K) w pc lv (.int n :: st) Q := by
  intro p e R s m args below meth c H locs cells slots ls Qf cx sx hS ht hl h1 h2 fin
  subst hN
  have had := ht.ad
  have key : ∀ (cA : ClassId), cA = G.2.2.1 t → W p G.1 e R s m args below meth c (H.push { cls := cA, slots := Array.replicate n.toNatClampNeg .null, vm := .none }) locs (cells + 1) (slots + n.toNatClampNeg) Qf (F0 m (pc + 3) ls (Value.ref H.size :: st.map (sh_tr G))) := by
    rintro cA rfl
    generalize hH1 : H.push ({ cls := G.2.2.1 t, slots := Array.replicate n.toNatClampNeg .null, vm := .none } : Cell) = H1
    have z1 : H1.size = H.size + 1 := by rw [← hH1, Array.size_push]
    have e1 : H1[H.size]? = some (arrV (G.2.2.1 t) n.toNatClampNeg (fun _ => .null)) := by rw [← hH1, Array.getElem?_push_size, ← arrV_new]
    have o1 : ∀ q : Nat, q < H.size → H1[q]? = H[q]? := fun q hq => by rw [← hH1, Array.getElem?_push, if_neg (Nat.ne_of_lt hq)]
    have hcell : va_at (sh_D G) sh_cl (sh_ad G w.length, sh_cc G (.inr (t, n.toNatClampNeg, .inr (.inr (.inr (.inr (fun _ => none))))))) H1 := by
      rw [had]
      show H1[H.size]? = some (vp_cell (G.2.2.1 t) (n.toNatClampNeg, .inr (.inr (.inr (.inr (fun _ => none))))))
      rw [vp_cell_q]
      exact e1
    rw [show (Value.ref H.size :: st.map (sh_tr G)) = ((.ref w.length :: st).map (sh_tr G)) by rw [← had]; rfl]
    exact kk p e R s m args below meth c H1 locs (cells + 1) (slots + n.toNatClampNeg) ls Qf cx sx (sh_S_push hS z1 o1) (ht.push hcell z1 o1) hl (by omega) (by omega) (fun v w' H' locs' cells' slots' pc' ls' q1 q2 q3 q4 q5 q6 => fin v w' H' locs' cells' slots' pc' ls' q1 q2 q3 (by omega) (by omega) q6)
  rcases hk with ⟨rfl, hk⟩ | ⟨rfl, hk⟩
  · refine W.anew cx.1 cx.2.1 cx.2.2.2.1 (cx.2.2.2.2.1 _ (lw_g_of hk rfl)) (va_AO.use sx.2.2.2.2.2.1) rfl d rfl hn hb (by omega) (by omega) fun cA kA comp f1 f2 f3 f4 => key cA ?_
    obtain ⟨kA', comp', k1, k2, k3, k4⟩ := (sx.1.2 3 _ rfl).2
    exact Option.some.inj (f1.symm.trans k4)
  · refine W.anew cx.1 cx.2.1 cx.2.2.2.1 (cx.2.2.2.2.1 _ (lw_g_of hk rfl)) (va_AO.use sx.2.2.2.2.2.2.1) rfl d rfl hn hb (by omega) (by omega) fun cA kA comp f1 f2 f3 f4 => key cA ?_
    obtain ⟨kA', comp', k1, k2, k3, k4⟩ := (sx.1.2 4 _ rfl).2
    exact Option.some.inj (f1.symm.trans k4)
/-- Object.<init> -/
theorem e_objInit {idx a : Nat} (d : decode M.2.2.1 pc = .ok (.invokespecial idx, 3)) (hl1 : Cond.methodLink M.1 idx objectInit ∈ lw_tbl) (hl2 : Cond.instanceMethod objectInit ∈ lw_tbl) (hl3 : Cond.code objectInit ⟨#[0xb1]⟩ 1 none ∈ lw_tbl) (hr1 : 1 ≤ M.2.2.2.2.2.1) (hr2 : 20 ≤ M.2.2.2.2.2.2) (hcat : (st.map fun v => v.category).sum ≤ 8) (kk : Ev G M kc ks w (pc + 3) lv st Q) : Ev G M kc ks w pc lv (.ref a :: st) Q := by
  intro p e R s m args below meth c H locs cells slots ls Qf cx sx hS ht hl h1 h2 fin
  have hts := cx.2.2.2.2.1
  have hr1' := cx.2.2.2.2.2.2.1
  have hr2' := cx.2.2.2.2.2.2.2
  exact W.objInit (a := sh_ad G a) (rest := st.map (sh_tr G)) cx.1 cx.2.1 cx.2.2.2.1 (hts _ (lw_g_of hl1 rfl)) (hts _ (lw_g_of hl2 rfl)) (hts _ (lw_g_of hl3 rfl)) rfl (by rw [cx.2.2.1]; exact hl.1) rfl d (by omega) (by show 2 * 0 + ((st.map (sh_tr G)).map fun v => v.category).sum + 12 ≤ _; rw [sh_cats]; omega) (kk p e R s m args below meth c H locs cells slots ls Qf cx sx hS ht hl h1 h2 fin)
/-- System.arraycopy between two int rows, perhaps the same -/
theorem e_copy {idx a0 a1 n0 n1 : Nat} {f g : Nat → Int32} {sp dp n : Int32} (d : decode M.2.2.1 pc = .ok (.invokestatic idx, 3)) (hl1 : Cond.methodLink M.1 idx arraycopyName ∈ lw_tbl) (hl2 : Cond.native arraycopyName ∈ lw_tbl) (hl3 : Cond.static arraycopyName ∈ lw_tbl) (hl4 : Cond.initialized "java/lang/System" ∈ lw_tbl) (hr1 : 1 ≤ M.2.2.2.2.2.1) (hr2 : nativeFrameWords "java/lang/System" "arraycopy" 5 + 19 ≤ M.2.2.2.2.2.2)
    (ha0 : w[a0]? = some (.inr (0, n0, .inl f))) (ha1 : w[a1]? = some (.inr (0, n1, .inl g))) (g1 : ¬ sp < 0) (g2 : ¬ dp < 0) (g3 : ¬ n < 0) (g4 : sp.toNatClampNeg + n.toNatClampNeg ≤ n0) (g5 : dp.toNatClampNeg + n.toNatClampNeg ≤ n1) (hcat : (st.map fun v => v.category).sum ≤ 8)
    (kk : Ev G M kc ks (w.set a1 (.inr (0, n1, .inl (va_cpy f g sp.toNatClampNeg dp.toNatClampNeg n.toNatClampNeg)))) (pc + 3) lv st Q) : Ev G M kc ks w pc lv (.int n :: .int dp :: .ref a1 :: .int sp :: .ref a0 :: st) Q := by
  intro p e R s m args below meth c H locs cells slots ls Qf cx sx hS ht hl h1 h2 fin
  have hts := cx.2.2.2.2.1
  have hr1' := cx.2.2.2.2.2.2.1
  have hr2' := cx.2.2.2.2.2.2.2
  obtain ⟨q0, hq00, hq0⟩ := ht.at ha0 (fun x h => by cases h)
  obtain ⟨q1, rfl, hq1⟩ := ht.at ha1 (fun x h => by cases h)
  have nn : ∀ z : Int32, ¬ z < 0 → z.toInt = (z.toNatClampNeg : Int) := by
    intro z hz
    have hz0 : (0 : Int) ≤ z.toInt := by
      have := Int32.not_lt.mp hz
      simpa using Int32.le_iff_toInt_le.mp this
    show z.toInt = ((z.toInt.toNat : Nat) : Int)
    omega
  have hc0 : H[sh_ad G a0]? = some (vp_cell (G.2.2.1 0) (n0, .inl f)) := ht.2.1 q0 _ hq0
  have hc1 : H[sh_ad G (q1 + 1)]? = some (vp_cell (G.2.2.1 0) (n1, .inl g)) := ht.2.1 q1 _ hq1
  obtain ⟨-, k0, hk0, cm0, hkk0⟩ := (sx.1.2 0 _ rfl).1 n0 (fun j => .int (f j))
  obtain ⟨-, k1, hk1, cm1, hkk1⟩ := (sx.1.2 0 _ rfl).1 n1 (fun j => .int (g j))
  intro T hT X
  obtain ⟨vm', X', step⟩ := X.arraycopy cx.1 cx.2.2.2.1 (hts _ (lw_g_of hl1 rfl)) (hts _ (lw_g_of hl2 rfl)) (hts _ (lw_g_of hl3 rfl)) (hts _ (lw_g_of hl4 rfl)) (src := sh_ad G a0) (dst := sh_ad G (q1 + 1)) (cs := vp_cell (G.2.2.1 0) (n0, .inl f)) (cd := vp_cell (G.2.2.1 0) (n1, .inl g)) (srcPos := sp) (destPos := dp) (n := n) (by rw [hT]; exact hc0) (by rw [hT]; exact hc1)
    (fun _ h => by cases h) (fun _ h => by cases h) (fun h => by cases h) (fun h => by cases h) hk0 hk1 hkk0 hkk1 (by simp [refKind]) g1 g2 g3
    (by rw [nn sp g1, nn n g3]; show ¬ _ > ((arrV (G.2.2.1 0) n0 (fun j => .int (f j))).slots.size : Int); rw [arrV_size]; omega)
    (by rw [nn dp g2, nn n g3]; show ¬ _ > ((arrV (G.2.2.1 0) n1 (fun j => .int (g j))).slots.size : Int); rw [arrV_size]; omega)
    (fun vm₁ _ i hi => by
      have e0 : (vp_cell (G.2.2.1 0) (n0, .inl f)).slots.getD (sp.toNatClampNeg + i) .null = .int (f (sp.toNatClampNeg + i)) := by
        show (arrV (G.2.2.1 0) n0 (fun j => .int (f j))).slots.getD _ _ = _
        rw [Array.getD_eq_getD_getElem?, arrV_read _ _ (by omega)]
        rfl
      refine ⟨?_, ?_⟩
      · rw [e0]
        rfl
      · rw [e0]
        exact trivial)
    (g := F0 m pc ls ((.int n :: .int dp :: .ref (q1 + 1) :: .int sp :: .ref a0 :: st).map (sh_tr G))) rfl (by rw [cx.2.2.1]; exact hl.1) (rest := st.map (sh_tr G)) rfl (by rw [cx.2.1]; exact d) (by omega) (by show 2 * 0 + ((st.map (sh_tr G)).map fun v => v.category).sum + _ ≤ _; rw [sh_cats]; omega)
  have e1 : copied (vp_cell (G.2.2.1 0) (n0, .inl f)) (vp_cell (G.2.2.1 0) (n1, .inl g)) sp dp n = vp_cell (G.2.2.1 0) (n1, .inl (va_cpy f g sp.toNatClampNeg dp.toNatClampNeg n.toNatClampNeg)) := va_copied (fun z => .int z) _ _ f g g4
  rw [e1] at X' step
  have hlt : sh_ad G (q1 + 1) < H.size := (Array.getElem?_eq_some_iff.mp hc1).1
  generalize hH1 : H.setIfInBounds (sh_ad G (q1 + 1)) (vp_cell (G.2.2.1 0) (n1, .inl (va_cpy f g sp.toNatClampNeg dp.toNatClampNeg n.toNatClampNeg))) = H1
  have hheap : ((T.setVm vm').setCell (sh_ad G (q1 + 1)) (vp_cell (G.2.2.1 0) (n1, .inl (va_cpy f g sp.toNatClampNeg dp.toNatClampNeg n.toNatClampNeg)))).heap = H1 := by rw [← hH1, ← hT]; rfl
  have oq : ∀ q : Nat, q ≠ sh_ad G (q1 + 1) → H1[q]? = H[q]? := fun q hq => by rw [← hH1]; simp [Array.getElem?_setIfInBounds, Ne.symm hq]
  have ez : H1.size = H.size := by rw [← hH1]; simp
  have ec : H1[sh_ad G (q1 + 1)]? = some (vp_cell (G.2.2.1 0) (n1, .inl (va_cpy f g sp.toNatClampNeg dp.toNatClampNeg n.toNatClampNeg))) := by rw [← hH1]; simp [Array.getElem?_setIfInBounds, hlt]
  obtain ⟨t, b1, b2⟩ := kk p e R s m args below meth c H1 _ cells slots ls Qf cx sx ⟨by rw [ez]; exact hS.1, fun q y1 y2 => by
      rw [oq q (fun e => y2 (by rw [e]; exact ht.in hq1))]
      exact hS.2.1 q y1 y2, fun q hq => by
      rcases List.mem_append.mp hq with h | h
      · exact hS.2.2 q h
      · obtain ⟨z, -, hz⟩ := List.mem_map.mp h
        rw [← hz]
        exact ht.in hq1⟩ (ht.put (c := .inr (0, n1, .inl (va_cpy f g sp.toNatClampNeg dp.toNatClampNeg n.toNatClampNeg))) hq1 ec ez oq) hl h1 h2 fin _ hheap X'
  exact ⟨t, step t b1, b2⟩
end SHN
end
section
abbrev mX0_init : sh_M := (RX0, yX0_init, cX0_init, 1, none, 1, 20)
abbrev mX0_placeWith : sh_M := (RX0, yX0_placeWith, cX0_placeWith, 1, (some .int), 0, 0)
abbrev mX0_leave : sh_M := (RX0, yX0_leave, cX0_leave, 1, none, 0, 0)
abbrev mX0_hasPerson : sh_M := (RX0, yX0_hasPerson, cX0_hasPerson, 2, (some .boolean), 0, 0)
abbrev mX0_hasStone : sh_M := (RX0, yX0_hasStone, cX0_hasStone, 2, (some .boolean), 0, 0)
abbrev mX0_addPerson : sh_M := (RX0, yX0_addPerson, cX0_addPerson, 3, (some .int), 0, 0)
abbrev mX0_addStone : sh_M := (RX0, yX0_addStone, cX0_addStone, 3, (some .int), 0, 0)
abbrev mX0_carriedBy : sh_M := (RX0, yX0_carriedBy, cX0_carriedBy, 4, (some .int), 1, 20)
abbrev mX0_howManyCarriedBy : sh_M := (RX0, yX0_howManyCarriedBy, cX0_howManyCarriedBy, 2, (some .int), 2, 43)
abbrev mX0_weightWithStones : sh_M := (RX0, yX0_weightWithStones, cX0_weightWithStones, 4, (some .int), 1, 20)
abbrev mX0_isParty : sh_M := (RX0, yX0_isParty, cX0_isParty, 2, (some .boolean), 0, 0)
abbrev mX0_roomOfParty : sh_M := (RX0, yX0_roomOfParty, cX0_roomOfParty, 4, (some .int), 0, 0)
abbrev mX0_weightOfParty : sh_M := (RX0, yX0_weightOfParty, cX0_weightOfParty, 4, (some .int), 2, 43)
abbrev mX0_moveParty : sh_M := (RX0, yX0_moveParty, cX0_moveParty, 4, none, 0, 0)
abbrev mX1_init : sh_M := (RX1, yX1_init, cX1_init, 1, none, 1, 20)
abbrev mX1_build : sh_M := (RX1, yX1_build, cX1_build, 3, none, 5, 118)
abbrev mX1_hasRoom : sh_M := (RX1, yX1_hasRoom, cX1_hasRoom, 2, (some .boolean), 0, 0)
abbrev mX1_hasDoor : sh_M := (RX1, yX1_hasDoor, cX1_hasDoor, 2, (some .boolean), 0, 0)
abbrev mX1_reachOf : sh_M := (RX1, yX1_reachOf, cX1_reachOf, 7, (some .int), 2, 46)
abbrev mX1_reaches : sh_M := (RX1, yX1_reaches, cX1_reaches, 4, (some .boolean), 3, 72)
abbrev mX1_through : sh_M := (RX1, yX1_through, cX1_through, 5, (some .int), 1, 22)
abbrev mX2_init : sh_M := (RX2, yX2_init, cX2_init, 1, none, 1, 20)
abbrev mX2_begin : sh_M := (RX2, yX2_begin, cX2_begin, 4, none, 0, 0)
abbrev mX2_setStone : sh_M := (RX2, yX2_setStone, cX2_setStone, 4, none, 1, 23)
abbrev mX2_finds : sh_M := (RX2, yX2_finds, cX2_finds, 4, (some .boolean), 2, 53)
abbrev mX2_howManySteps : sh_M := (RX2, yX2_howManySteps, cX2_howManySteps, 3, (some .int), 0, 0)
abbrev mX2_stepAt : sh_M := (RX2, yX2_stepAt, cX2_stepAt, 5, (some .int), 1, 22)
abbrev mX2_leaveBySteps : sh_M := (RX2, yX2_leaveBySteps, cX2_leaveBySteps, 9, none, 1, 25)
abbrev mX2_meet : sh_M := (RX2, yX2_meet, cX2_meet, 6, none, 0, 0)
abbrev mX2_forgetSeen : sh_M := (RX2, yX2_forgetSeen, cX2_forgetSeen, 2, none, 0, 0)
abbrev mX2_place : sh_M := (RX2, yX2_place, cX2_place, 2, (some .int), 0, 0)
abbrev mX2_withPlace : sh_M := (RX2, yX2_withPlace, cX2_withPlace, 4, (some .int), 0, 0)
abbrev mX3_init : sh_M := (RX3, yX3_init, cX3_init, 1, none, 1, 20)
abbrev mX3_hasNothing : sh_M := (RX3, yX3_hasNothing, cX3_hasNothing, 1, (some .boolean), 0, 0)
abbrev mX3_empty : sh_M := (RX3, yX3_empty, cX3_empty, 1, none, 0, 0)
abbrev mX3_renew : sh_M := (RX3, yX3_renew, cX3_renew, 4, none, 0, 0)
abbrev mX3_has : sh_M := (RX3, yX3_has, cX3_has, 3, (some .boolean), 0, 0)
abbrev mX3_cut : sh_M := (RX3, yX3_cut, cX3_cut, 2, (some .int), 0, 0)
abbrev mX4_init : sh_M := (RX4, yX4_init, cX4_init, 4, none, 2, 46)
abbrev mX4_init_ : sh_M := (RX4, yX4_init_, cX4_init_, 6, none, 1, 21)
abbrev mX4_kind : sh_M := (RX4, yX4_kind, cX4_kind, 1, (some .int), 0, 0)
abbrev mX4_isOf : sh_M := (RX4, yX4_isOf, cX4_isOf, 2, (some .boolean), 0, 0)
abbrev mX4_beyond : sh_M := (RX4, yX4_beyond, cX4_beyond, 3, (some .int), 0, 0)
abbrev mX4_told : sh_M := (RX4, yX4_told, cX4_told, 2, (some .int), 1, 20)
abbrev mX4_sillsTelling : sh_M := (RX4, yX4_sillsTelling, cX4_sillsTelling, 2, (some .int), 1, 21)
abbrev mX4_telling : sh_M := (RX4, yX4_telling, cX4_telling, 2, (some .int), 2, 42)
abbrev mX4_rung : sh_M := (RX4, yX4_rung, cX4_rung, 3, (some .int), 1, 21)
abbrev mX5_init : sh_M := (RX5, yX5_init, cX5_init, 4, none, 1, 20)
abbrev mX5_firstFault : sh_M := (RX5, yX5_firstFault, cX5_firstFault, 2, (some .int), 5, 105)
abbrev mX5_rooms : sh_M := (RX5, yX5_rooms, cX5_rooms, 1, (some .int), 2, 43)
abbrev mX5_doorCount : sh_M := (RX5, yX5_doorCount, cX5_doorCount, 1, (some .int), 0, 0)
abbrev mX5_door : sh_M := (RX5, yX5_door, cX5_door, 6, (some (.object "SillHouse$Sill")), 4, 93)
abbrev mX5_code : sh_M := (RX5, yX5_code, cX5_code, 3, (some .int), 0, 0)
abbrev mX5_digit : sh_M := (RX5, yX5_digit, cX5_digit, 2, (some .int), 1, 22)
abbrev mX5_isDigit : sh_M := (RX5, yX5_isDigit, cX5_isDigit, 2, (some .boolean), 1, 22)
abbrev mX5_isRoom : sh_M := (RX5, yX5_isRoom, cX5_isRoom, 2, (some .boolean), 3, 63)
abbrev mX5_goesOn : sh_M := (RX5, yX5_goesOn, cX5_goesOn, 2, (some .boolean), 4, 84)
abbrev mX5_isNought : sh_M := (RX5, yX5_isNought, cX5_isNought, 2, (some .boolean), 1, 22)
abbrev mX6_init : sh_M := (RX6, yX6_init, cX6_init, 1, none, 1, 20)
abbrev mX6_note : sh_M := (RX6, yX6_note, cX6_note, 2, none, 0, 0)
abbrev mX7_init : sh_M := (RX7, yX7_init, cX7_init, 4, none, 3, 70)
abbrev mX7_init_ : sh_M := (RX7, yX7_init_, cX7_init_, 5, none, 2, 46)
abbrev mX7_kind : sh_M := (RX7, yX7_kind, cX7_kind, 1, (some .int), 0, 0)
abbrev mX7_telling : sh_M := (RX7, yX7_telling, cX7_telling, 2, (some .int), 3, 63)
abbrev mX8_init : sh_M := (RX8, yX8_init, cX8_init, 4, none, 3, 70)
abbrev mX8_kind : sh_M := (RX8, yX8_kind, cX8_kind, 1, (some .int), 0, 0)
abbrev mX8_telling : sh_M := (RX8, yX8_telling, cX8_telling, 3, (some .int), 4, 84)
abbrev mX8_rung : sh_M := (RX8, yX8_rung, cX8_rung, 3, (some .int), 1, 21)
abbrev mX9_init : sh_M := (RX9, yX9_init, cX9_init, 2, none, 2, 40)
abbrev mX9_house : sh_M := (RX9, yX9_house, cX9_house, 8, (some .int), 6, 140)
abbrev mX9_ofDoor : sh_M := (RX9, yX9_ofDoor, cX9_ofDoor, 3, (some .int), 2, 41)
abbrev mX9_person : sh_M := (RX9, yX9_person, cX9_person, 3, (some .int), 1, 22)
abbrev mX9_stone : sh_M := (RX9, yX9_stone, cX9_stone, 3, (some .int), 1, 22)
abbrev mX9_ofPerson : sh_M := (RX9, yX9_ofPerson, cX9_ofPerson, 3, (some .int), 2, 43)
abbrev mX9_ofStone : sh_M := (RX9, yX9_ofStone, cX9_ofStone, 3, (some .int), 1, 21)
abbrev mX9_take : sh_M := (RX9, yX9_take, cX9_take, 3, (some .int), 3, 64)
abbrev mX9_lay : sh_M := (RX9, yX9_lay, cX9_lay, 3, (some .int), 3, 64)
abbrev mX9_opens : sh_M := (RX9, yX9_opens, cX9_opens, 4, (some .int), 3, 66)
abbrev mX9_pass : sh_M := (RX9, yX9_pass, cX9_pass, 5, (some .int), 4, 89)
abbrev mX9_weigh : sh_M := (RX9, yX9_weigh, cX9_weigh, 4, (some .int), 1, 21)
abbrev mX9_fewest : sh_M := (RX9, yX9_fewest, cX9_fewest, 5, (some .int), 3, 76)
abbrev mX9_reach : sh_M := (RX9, yX9_reach, cX9_reach, 3, (some .int), 3, 72)
abbrev mX9_strangers : sh_M := (RX9, yX9_strangers, cX9_strangers, 6, (some .int), 4, 95)
abbrev mX9_laid : sh_M := (RX9, yX9_laid, cX9_laid, 6, (some .int), 4, 100)
abbrev mX9_guest : sh_M := (RX9, yX9_guest, cX9_guest, 4, (some .int), 5, 119)
abbrev mX9_heard : sh_M := (RX9, yX9_heard, cX9_heard, 8, (some .int), 3, 72)
abbrev mX9_byStrangers : sh_M := (RX9, yX9_byStrangers, cX9_byStrangers, 9, (some .int), 3, 72)
abbrev mX9_grows : sh_M := (RX9, yX9_grows, cX9_grows, 5, (some .int), 4, 95)
abbrev mX9_sheet : sh_M := (RX9, yX9_sheet, cX9_sheet, 4, (some .int), 1, 23)
abbrev mX9_lose : sh_M := (RX9, yX9_lose, cX9_lose, 3, (some .int), 1, 20)
abbrev mX9_put : sh_M := (RX9, yX9_put, cX9_put, 4, (some .int), 1, 22)
abbrev mX9_cell : sh_M := (RX9, yX9_cell, cX9_cell, 4, (some .long), 2, 46)
abbrev mX9_copy : sh_M := (RX9, yX9_copy, cX9_copy, 8, (some .int), 1, 59)
abbrev mX9_tell : sh_M := (RX9, yX9_tell, cX9_tell, 2, (some .int), 5, 106)
abbrev mX9_ring : sh_M := (RX9, yX9_ring, cX9_ring, 2, (some .int), 2, 43)
abbrev mX9_as : sh_M := (RX9, yX9_as, cX9_as, 3, (some .int), 1, 21)
abbrev mX9_trace : sh_M := (RX9, yX9_trace, cX9_trace, 1, (some .int), 0, 0)
abbrev mX9_fault : sh_M := (RX9, yX9_fault, cX9_fault, 1, (some .int), 0, 0)
abbrev mX9_many : sh_M := (RX9, yX9_many, cX9_many, 2, (some .int), 0, 0)
abbrev mX9_isSheet : sh_M := (RX9, yX9_isSheet, cX9_isSheet, 1, (some .boolean), 0, 0)
abbrev mX9_isLane : sh_M := (RX9, yX9_isLane, cX9_isLane, 1, (some .boolean), 0, 0)
abbrev mX9_isPersonsWeight : sh_M := (RX9, yX9_isPersonsWeight, cX9_isPersonsWeight, 1, (some .boolean), 0, 0)
abbrev mX9_faulted : sh_M := (RX9, yX9_faulted, cX9_faulted, 2, (some .int), 0, 0)
abbrev mX9_cellsRefused : sh_M := (RX9, yX9_cellsRefused, cX9_cellsRefused, 5, (some .int), 1, 22)
abbrev mX9_doorsRefused : sh_M := (RX9, yX9_doorsRefused, cX9_doorsRefused, 7, (some .int), 2, 46)
abbrev mX9_passesAll : sh_M := (RX9, yX9_passesAll, cX9_passesAll, 8, (some .boolean), 1, 22)
abbrev mX9_comesChanged : sh_M := (RX9, yX9_comesChanged, cX9_comesChanged, 5, (some .boolean), 4, 95)
abbrev mX9_comesWith : sh_M := (RX9, yX9_comesWith, cX9_comesWith, 5, (some .boolean), 3, 76)
abbrev mX9_ofLaidRow : sh_M := (RX9, yX9_ofLaidRow, cX9_ofLaidRow, 4, (some .int), 0, 0)
abbrev mX10_init : sh_M := (RX10, yX10_init, cX10_init, 2, none, 1, 20)
abbrev mX10_in : sh_M := (RX10, yX10_in, cX10_in, 6, (some .boolean), 0, 0)
abbrev mX10_lost : sh_M := (RX10, yX10_lost, cX10_lost, 0, (some .long), 0, 0)
abbrev mX10_refused : sh_M := (RX10, yX10_refused, cX10_refused, 2, (some .int), 0, 0)
abbrev mX10_failed : sh_M := (RX10, yX10_failed, cX10_failed, 2, (some .int), 0, 0)
abbrev mX10_failedLong : sh_M := (RX10, yX10_failedLong, cX10_failedLong, 2, (some .long), 1, 19)
abbrev mX10_barred : sh_M := (RX10, yX10_barred, cX10_barred, 6, (some .int), 2, 45)
abbrev mX10_noRoom : sh_M := (RX10, yX10_noRoom, cX10_noRoom, 2, (some .boolean), 1, 25)
abbrev mX10_noDoor : sh_M := (RX10, yX10_noDoor, cX10_noDoor, 2, (some .boolean), 1, 25)
abbrev mX10_codeAt : sh_M := (RX10, yX10_codeAt, cX10_codeAt, 3, (some .int), 0, 0)
abbrev mX10_figure : sh_M := (RX10, yX10_figure, cX10_figure, 7, (some .int), 1, 25)
abbrev mX10_readsWeight : sh_M := (RX10, yX10_readsWeight, cX10_readsWeight, 6, (some .int), 2, 51)
abbrev mX10_readsDoor : sh_M := (RX10, yX10_readsDoor, cX10_readsDoor, 7, (some .boolean), 3, 76)
abbrev mX10_readsHouse : sh_M := (RX10, yX10_readsHouse, cX10_readsHouse, 4, (some .boolean), 4, 102)
abbrev mX10_house : sh_M := (RX10, yX10_house, cX10_house, 7, (some .int), 5, 125)
abbrev mX10_slackOf : sh_M := (RX10, yX10_slackOf, cX10_slackOf, 2, (some .int), 0, 0)
abbrev mX10_asks : sh_M := (RX10, yX10_asks, cX10_asks, 3, (some .int), 0, 0)
abbrev mX10_isOpen : sh_M := (RX10, yX10_isOpen, cX10_isOpen, 4, (some .boolean), 1, 25)
abbrev mX10_sideIn : sh_M := (RX10, yX10_sideIn, cX10_sideIn, 3, (some .int), 0, 0)
abbrev mX10_throughTo : sh_M := (RX10, yX10_throughTo, cX10_throughTo, 5, (some .int), 2, 48)
abbrev mX10_ofDoor : sh_M := (RX10, yX10_ofDoor, cX10_ofDoor, 4, (some .int), 2, 46)
abbrev mX10_noPerson : sh_M := (RX10, yX10_noPerson, cX10_noPerson, 2, (some .boolean), 1, 25)
abbrev mX10_noStone : sh_M := (RX10, yX10_noStone, cX10_noStone, 2, (some .boolean), 1, 25)
abbrev mX10_person : sh_M := (RX10, yX10_person, cX10_person, 3, (some .int), 2, 46)
abbrev mX10_stone : sh_M := (RX10, yX10_stone, cX10_stone, 3, (some .int), 2, 46)
abbrev mX10_carriedBy : sh_M := (RX10, yX10_carriedBy, cX10_carriedBy, 4, (some .int), 0, 0)
abbrev mX10_bits : sh_M := (RX10, yX10_bits, cX10_bits, 3, (some .int), 0, 0)
abbrev mX10_withStones : sh_M := (RX10, yX10_withStones, cX10_withStones, 4, (some .int), 0, 0)
abbrev mX10_ofPerson : sh_M := (RX10, yX10_ofPerson, cX10_ofPerson, 3, (some .int), 2, 46)
abbrev mX10_ofStone : sh_M := (RX10, yX10_ofStone, cX10_ofStone, 3, (some .int), 2, 46)
abbrev mX10_take : sh_M := (RX10, yX10_take, cX10_take, 3, (some .int), 2, 46)
abbrev mX10_lay : sh_M := (RX10, yX10_lay, cX10_lay, 3, (some .int), 2, 46)
abbrev mX10_roomOf : sh_M := (RX10, yX10_roomOf, cX10_roomOf, 5, (some .int), 0, 0)
abbrev mX10_weightOfAll : sh_M := (RX10, yX10_weightOfAll, cX10_weightOfAll, 4, (some .int), 1, 23)
abbrev mX10_partyBarred : sh_M := (RX10, yX10_partyBarred, cX10_partyBarred, 4, (some .int), 2, 46)
abbrev mX10_opens : sh_M := (RX10, yX10_opens, cX10_opens, 4, (some .int), 3, 72)
abbrev mX10_pass : sh_M := (RX10, yX10_pass, cX10_pass, 6, (some .int), 3, 72)
abbrev mX10_weigh : sh_M := (RX10, yX10_weigh, cX10_weigh, 4, (some .int), 2, 46)
abbrev mX10_stateNow : sh_M := (RX10, yX10_stateNow, cX10_stateNow, 3, (some .int), 0, 0)
abbrev mX10_takeState : sh_M := (RX10, yX10_takeState, cX10_takeState, 4, none, 0, 0)
abbrev mX10_add : sh_M := (RX10, yX10_add, cX10_add, 4, none, 1, 22)
abbrev mX10_carriedNow : sh_M := (RX10, yX10_carriedNow, cX10_carriedNow, 3, (some .int), 0, 0)
abbrev mX10_weightNow : sh_M := (RX10, yX10_weightNow, cX10_weightNow, 3, (some .int), 0, 0)
abbrev mX10_spread : sh_M := (RX10, yX10_spread, cX10_spread, 5, none, 3, 72)
abbrev mX10_goTill : sh_M := (RX10, yX10_goTill, cX10_goTill, 3, (some .int), 4, 96)
abbrev mX10_fewest : sh_M := (RX10, yX10_fewest, cX10_fewest, 6, (some .int), 5, 118)
abbrev mX10_reachOf : sh_M := (RX10, yX10_reachOf, cX10_reachOf, 8, (some .int), 2, 48)
abbrev mX10_reach : sh_M := (RX10, yX10_reach, cX10_reach, 3, (some .int), 3, 75)
abbrev mX10_comesTo : sh_M := (RX10, yX10_comesTo, cX10_comesTo, 4, (some .boolean), 3, 75)
abbrev mX10_strangers : sh_M := (RX10, yX10_strangers, cX10_strangers, 6, (some .int), 4, 98)
abbrev mX10_goesWith : sh_M := (RX10, yX10_goesWith, cX10_goesWith, 7, (some .boolean), 5, 118)
abbrev mX10_laid : sh_M := (RX10, yX10_laid, cX10_laid, 6, (some .int), 6, 144)
abbrev mX10_guest : sh_M := (RX10, yX10_guest, cX10_guest, 4, (some .int), 4, 98)
abbrev mX10_passesAll : sh_M := (RX10, yX10_passesAll, cX10_passesAll, 7, (some .boolean), 3, 72)
abbrev mX10_areDoors : sh_M := (RX10, yX10_areDoors, cX10_areDoors, 5, (some .boolean), 2, 46)
abbrev mX10_heard : sh_M := (RX10, yX10_heard, cX10_heard, 9, (some .int), 4, 98)
abbrev mX10_byStrangers : sh_M := (RX10, yX10_byStrangers, cX10_byStrangers, 10, (some .int), 4, 98)
abbrev mX10_grows : sh_M := (RX10, yX10_grows, cX10_grows, 5, (some .int), 4, 98)
abbrev mX10_noSheet : sh_M := (RX10, yX10_noSheet, cX10_noSheet, 1, (some .boolean), 1, 25)
abbrev mX10_sheet : sh_M := (RX10, yX10_sheet, cX10_sheet, 5, (some .int), 2, 45)
abbrev mX10_lose : sh_M := (RX10, yX10_lose, cX10_lose, 3, (some .int), 2, 45)
abbrev mX10_noCell : sh_M := (RX10, yX10_noCell, cX10_noCell, 3, (some .int), 1, 25)
abbrev mX10_put : sh_M := (RX10, yX10_put, cX10_put, 4, (some .int), 2, 47)
abbrev mX10_cell : sh_M := (RX10, yX10_cell, cX10_cell, 4, (some .long), 2, 47)
abbrev mX10_isBeyond : sh_M := (RX10, yX10_isBeyond, cX10_isBeyond, 4, (some .boolean), 0, 0)
abbrev mX10_copy : sh_M := (RX10, yX10_copy, cX10_copy, 7, (some .int), 2, 45)
abbrev mX10_traced : sh_M := (RX10, yX10_traced, cX10_traced, 2, none, 0, 0)
abbrev mX10_tell : sh_M := (RX10, yX10_tell, cX10_tell, 4, (some .int), 2, 46)
abbrev mX10_ring : sh_M := (RX10, yX10_ring, cX10_ring, 2, (some .int), 2, 46)
abbrev mX10_as : sh_M := (RX10, yX10_as, cX10_as, 3, (some .int), 2, 46)
abbrev mX10_trace : sh_M := (RX10, yX10_trace, cX10_trace, 1, (some .int), 0, 0)
abbrev mX10_fault : sh_M := (RX10, yX10_fault, cX10_fault, 1, (some .int), 0, 0)
abbrev mX10_many : sh_M := (RX10, yX10_many, cX10_many, 2, (some .int), 0, 0)
abbrev mJ6_bitCount_0f7a4 : sh_M := (RJ6, yJ6_bitCount_0f7a4, cJ6_bitCount_0f7a4, 1, (some .int), 0, 0)
abbrev mJ9_max_7cf53 : sh_M := (RJ9, yJ9_max_7cf53, cJ9_max_7cf53, 2, (some .int), 0, 0)
abbrev mJ9_min_7cf53 : sh_M := (RJ9, yJ9_min_7cf53, cJ9_min_7cf53, 2, (some .int), 0, 0)
abbrev mL_law : sh_M := (RL, yL_law, cL_law, 4, (some .boolean), 7, 169)
theorem uw_X0 : ∀ w ∈ u_ws RX0 TX0 6, w ∈ lw_g := by
  intro w hw
  obtain ⟨k, hk, rfl⟩ := List.mem_map.mp hw
  have hk := List.mem_range.mp hk
  match k, hk with
  | 0, _ => exact lw_g_of (w := u_lay RX0 TX0 0) (List.mem_of_getElem? (i := 118) (by decide +kernel)) rfl
  | 1, _ => exact lw_g_of (w := u_lay RX0 TX0 1) (List.mem_of_getElem? (i := 120) (by decide +kernel)) rfl
  | 2, _ => exact lw_g_of (w := u_lay RX0 TX0 2) (List.mem_of_getElem? (i := 122) (by decide +kernel)) rfl
  | 3, _ => exact lw_g_of (w := u_lay RX0 TX0 3) (List.mem_of_getElem? (i := 124) (by decide +kernel)) rfl
  | 4, _ => exact lw_g_of (w := u_lay RX0 TX0 4) (List.mem_of_getElem? (i := 126) (by decide +kernel)) rfl
  | 5, _ => exact lw_g_of (w := u_lay RX0 TX0 5) (List.mem_of_getElem? (i := 128) (by decide +kernel)) rfl
  | n + 6, h => exact absurd h (by omega)
theorem uw_X1 : ∀ w ∈ u_ws RX1 TX1 3, w ∈ lw_g := by
  intro w hw
  obtain ⟨k, hk, rfl⟩ := List.mem_map.mp hw
  have hk := List.mem_range.mp hk
  match k, hk with
  | 0, _ => exact lw_g_of (w := u_lay RX1 TX1 0) (List.mem_of_getElem? (i := 93) (by decide +kernel)) rfl
  | 1, _ => exact lw_g_of (w := u_lay RX1 TX1 1) (List.mem_of_getElem? (i := 95) (by decide +kernel)) rfl
  | 2, _ => exact lw_g_of (w := u_lay RX1 TX1 2) (List.mem_of_getElem? (i := 97) (by decide +kernel)) rfl
  | n + 3, h => exact absurd h (by omega)
theorem uw_X2 : ∀ w ∈ u_ws RX2 TX2 9, w ∈ lw_g := by
  intro w hw
  obtain ⟨k, hk, rfl⟩ := List.mem_map.mp hw
  have hk := List.mem_range.mp hk
  match k, hk with
  | 0, _ => exact lw_g_of (w := u_lay RX2 TX2 0) (List.mem_of_getElem? (i := 147) (by decide +kernel)) rfl
  | 1, _ => exact lw_g_of (w := u_lay RX2 TX2 1) (List.mem_of_getElem? (i := 149) (by decide +kernel)) rfl
  | 2, _ => exact lw_g_of (w := u_lay RX2 TX2 2) (List.mem_of_getElem? (i := 151) (by decide +kernel)) rfl
  | 3, _ => exact lw_g_of (w := u_lay RX2 TX2 3) (List.mem_of_getElem? (i := 153) (by decide +kernel)) rfl
  | 4, _ => exact lw_g_of (w := u_lay RX2 TX2 4) (List.mem_of_getElem? (i := 155) (by decide +kernel)) rfl
  | 5, _ => exact lw_g_of (w := u_lay RX2 TX2 5) (List.mem_of_getElem? (i := 157) (by decide +kernel)) rfl
  | 6, _ => exact lw_g_of (w := u_lay RX2 TX2 6) (List.mem_of_getElem? (i := 159) (by decide +kernel)) rfl
  | 7, _ => exact lw_g_of (w := u_lay RX2 TX2 7) (List.mem_of_getElem? (i := 161) (by decide +kernel)) rfl
  | 8, _ => exact lw_g_of (w := u_lay RX2 TX2 8) (List.mem_of_getElem? (i := 163) (by decide +kernel)) rfl
  | n + 9, h => exact absurd h (by omega)
theorem uw_X3 : ∀ w ∈ u_ws RX3 TX3 3, w ∈ lw_g := by
  intro w hw
  obtain ⟨k, hk, rfl⟩ := List.mem_map.mp hw
  have hk := List.mem_range.mp hk
  match k, hk with
  | 0, _ => exact lw_g_of (w := u_lay RX3 TX3 0) (List.mem_of_getElem? (i := 188) (by decide +kernel)) rfl
  | 1, _ => exact lw_g_of (w := u_lay RX3 TX3 1) (List.mem_of_getElem? (i := 190) (by decide +kernel)) rfl
  | 2, _ => exact lw_g_of (w := u_lay RX3 TX3 2) (List.mem_of_getElem? (i := 192) (by decide +kernel)) rfl
  | n + 3, h => exact absurd h (by omega)
theorem uw_X4 : ∀ w ∈ u_ws RX4 TX4 7, w ∈ lw_g := by
  intro w hw
  obtain ⟨k, hk, rfl⟩ := List.mem_map.mp hw
  have hk := List.mem_range.mp hk
  match k, hk with
  | 0, _ => exact lw_g_of (w := u_lay RX4 TX4 0) (List.mem_of_getElem? (i := 325) (by decide +kernel)) rfl
  | 1, _ => exact lw_g_of (w := u_lay RX4 TX4 1) (List.mem_of_getElem? (i := 327) (by decide +kernel)) rfl
  | 2, _ => exact lw_g_of (w := u_lay RX4 TX4 2) (List.mem_of_getElem? (i := 329) (by decide +kernel)) rfl
  | 3, _ => exact lw_g_of (w := u_lay RX4 TX4 3) (List.mem_of_getElem? (i := 331) (by decide +kernel)) rfl
  | 4, _ => exact lw_g_of (w := u_lay RX4 TX4 4) (List.mem_of_getElem? (i := 333) (by decide +kernel)) rfl
  | 5, _ => exact lw_g_of (w := u_lay RX4 TX4 5) (List.mem_of_getElem? (i := 335) (by decide +kernel)) rfl
  | 6, _ => exact lw_g_of (w := u_lay RX4 TX4 6) (List.mem_of_getElem? (i := 337) (by decide +kernel)) rfl
  | n + 7, h => exact absurd h (by omega)
theorem uw_X5 : ∀ w ∈ u_ws RX5 TX5 3, w ∈ lw_g := by
  intro w hw
  obtain ⟨k, hk, rfl⟩ := List.mem_map.mp hw
  have hk := List.mem_range.mp hk
  match k, hk with
  | 0, _ => exact lw_g_of (w := u_lay RX5 TX5 0) (List.mem_of_getElem? (i := 249) (by decide +kernel)) rfl
  | 1, _ => exact lw_g_of (w := u_lay RX5 TX5 1) (List.mem_of_getElem? (i := 251) (by decide +kernel)) rfl
  | 2, _ => exact lw_g_of (w := u_lay RX5 TX5 2) (List.mem_of_getElem? (i := 253) (by decide +kernel)) rfl
  | n + 3, h => exact absurd h (by omega)
theorem uw_X6 : ∀ w ∈ u_ws RX6 TX6 1, w ∈ lw_g := by
  intro w hw
  obtain ⟨k, hk, rfl⟩ := List.mem_map.mp hw
  have hk := List.mem_range.mp hk
  match k, hk with
  | 0, _ => exact lw_g_of (w := u_lay RX6 TX6 0) (List.mem_of_getElem? (i := 175) (by decide +kernel)) rfl
  | n + 1, h => exact absurd h (by omega)
theorem uw_X7 : ∀ w ∈ u_ws RX7 TX7 7, w ∈ lw_g := by
  intro w hw
  obtain ⟨k, hk, rfl⟩ := List.mem_map.mp hw
  have hk := List.mem_range.mp hk
  match k, hk with
  | 0, _ => exact lw_g_of (w := u_lay RX7 TX7 0) (List.mem_of_getElem? (i := 349) (by decide +kernel)) rfl
  | 1, _ => exact lw_g_of (w := u_lay RX7 TX7 1) (List.mem_of_getElem? (i := 350) (by decide +kernel)) rfl
  | 2, _ => exact lw_g_of (w := u_lay RX7 TX7 2) (List.mem_of_getElem? (i := 351) (by decide +kernel)) rfl
  | 3, _ => exact lw_g_of (w := u_lay RX7 TX7 3) (List.mem_of_getElem? (i := 352) (by decide +kernel)) rfl
  | 4, _ => exact lw_g_of (w := u_lay RX7 TX7 4) (List.mem_of_getElem? (i := 353) (by decide +kernel)) rfl
  | 5, _ => exact lw_g_of (w := u_lay RX7 TX7 5) (List.mem_of_getElem? (i := 354) (by decide +kernel)) rfl
  | 6, _ => exact lw_g_of (w := u_lay RX7 TX7 6) (List.mem_of_getElem? (i := 355) (by decide +kernel)) rfl
  | n + 7, h => exact absurd h (by omega)
theorem uw_X8 : ∀ w ∈ u_ws RX8 TX8 7, w ∈ lw_g := by
  intro w hw
  obtain ⟨k, hk, rfl⟩ := List.mem_map.mp hw
  have hk := List.mem_range.mp hk
  match k, hk with
  | 0, _ => exact lw_g_of (w := u_lay RX8 TX8 0) (List.mem_of_getElem? (i := 363) (by decide +kernel)) rfl
  | 1, _ => exact lw_g_of (w := u_lay RX8 TX8 1) (List.mem_of_getElem? (i := 364) (by decide +kernel)) rfl
  | 2, _ => exact lw_g_of (w := u_lay RX8 TX8 2) (List.mem_of_getElem? (i := 365) (by decide +kernel)) rfl
  | 3, _ => exact lw_g_of (w := u_lay RX8 TX8 3) (List.mem_of_getElem? (i := 366) (by decide +kernel)) rfl
  | 4, _ => exact lw_g_of (w := u_lay RX8 TX8 4) (List.mem_of_getElem? (i := 367) (by decide +kernel)) rfl
  | 5, _ => exact lw_g_of (w := u_lay RX8 TX8 5) (List.mem_of_getElem? (i := 368) (by decide +kernel)) rfl
  | 6, _ => exact lw_g_of (w := u_lay RX8 TX8 6) (List.mem_of_getElem? (i := 369) (by decide +kernel)) rfl
  | n + 7, h => exact absurd h (by omega)
theorem uw_X9 : ∀ w ∈ u_ws RX9 TX9 6, w ∈ lw_g := by
  intro w hw
  obtain ⟨k, hk, rfl⟩ := List.mem_map.mp hw
  have hk := List.mem_range.mp hk
  match k, hk with
  | 0, _ => exact lw_g_of (w := u_lay RX9 TX9 0) (List.mem_of_getElem? (i := 201) (by decide +kernel)) rfl
  | 1, _ => exact lw_g_of (w := u_lay RX9 TX9 1) (List.mem_of_getElem? (i := 203) (by decide +kernel)) rfl
  | 2, _ => exact lw_g_of (w := u_lay RX9 TX9 2) (List.mem_of_getElem? (i := 205) (by decide +kernel)) rfl
  | 3, _ => exact lw_g_of (w := u_lay RX9 TX9 3) (List.mem_of_getElem? (i := 207) (by decide +kernel)) rfl
  | 4, _ => exact lw_g_of (w := u_lay RX9 TX9 4) (List.mem_of_getElem? (i := 209) (by decide +kernel)) rfl
  | 5, _ => exact lw_g_of (w := u_lay RX9 TX9 5) (List.mem_of_getElem? (i := 211) (by decide +kernel)) rfl
  | n + 6, h => exact absurd h (by omega)
theorem uw_X10 : ∀ w ∈ u_ws RX10 TX10 35, w ∈ lw_g := by
  intro w hw
  obtain ⟨k, hk, rfl⟩ := List.mem_map.mp hw
  have hk := List.mem_range.mp hk
  match k, hk with
  | 0, _ => exact lw_g_of (w := u_lay RX10 TX10 0) (List.mem_of_getElem? (i := 756) (by decide +kernel)) rfl
  | 1, _ => exact lw_g_of (w := u_lay RX10 TX10 1) (List.mem_of_getElem? (i := 758) (by decide +kernel)) rfl
  | 2, _ => exact lw_g_of (w := u_lay RX10 TX10 2) (List.mem_of_getElem? (i := 760) (by decide +kernel)) rfl
  | 3, _ => exact lw_g_of (w := u_lay RX10 TX10 3) (List.mem_of_getElem? (i := 762) (by decide +kernel)) rfl
  | 4, _ => exact lw_g_of (w := u_lay RX10 TX10 4) (List.mem_of_getElem? (i := 764) (by decide +kernel)) rfl
  | 5, _ => exact lw_g_of (w := u_lay RX10 TX10 5) (List.mem_of_getElem? (i := 766) (by decide +kernel)) rfl
  | 6, _ => exact lw_g_of (w := u_lay RX10 TX10 6) (List.mem_of_getElem? (i := 768) (by decide +kernel)) rfl
  | 7, _ => exact lw_g_of (w := u_lay RX10 TX10 7) (List.mem_of_getElem? (i := 770) (by decide +kernel)) rfl
  | 8, _ => exact lw_g_of (w := u_lay RX10 TX10 8) (List.mem_of_getElem? (i := 772) (by decide +kernel)) rfl
  | 9, _ => exact lw_g_of (w := u_lay RX10 TX10 9) (List.mem_of_getElem? (i := 774) (by decide +kernel)) rfl
  | 10, _ => exact lw_g_of (w := u_lay RX10 TX10 10) (List.mem_of_getElem? (i := 776) (by decide +kernel)) rfl
  | 11, _ => exact lw_g_of (w := u_lay RX10 TX10 11) (List.mem_of_getElem? (i := 778) (by decide +kernel)) rfl
  | 12, _ => exact lw_g_of (w := u_lay RX10 TX10 12) (List.mem_of_getElem? (i := 780) (by decide +kernel)) rfl
  | 13, _ => exact lw_g_of (w := u_lay RX10 TX10 13) (List.mem_of_getElem? (i := 782) (by decide +kernel)) rfl
  | 14, _ => exact lw_g_of (w := u_lay RX10 TX10 14) (List.mem_of_getElem? (i := 784) (by decide +kernel)) rfl
  | 15, _ => exact lw_g_of (w := u_lay RX10 TX10 15) (List.mem_of_getElem? (i := 786) (by decide +kernel)) rfl
  | 16, _ => exact lw_g_of (w := u_lay RX10 TX10 16) (List.mem_of_getElem? (i := 788) (by decide +kernel)) rfl
  | 17, _ => exact lw_g_of (w := u_lay RX10 TX10 17) (List.mem_of_getElem? (i := 790) (by decide +kernel)) rfl
  | 18, _ => exact lw_g_of (w := u_lay RX10 TX10 18) (List.mem_of_getElem? (i := 792) (by decide +kernel)) rfl
  | 19, _ => exact lw_g_of (w := u_lay RX10 TX10 19) (List.mem_of_getElem? (i := 794) (by decide +kernel)) rfl
  | 20, _ => exact lw_g_of (w := u_lay RX10 TX10 20) (List.mem_of_getElem? (i := 796) (by decide +kernel)) rfl
  | 21, _ => exact lw_g_of (w := u_lay RX10 TX10 21) (List.mem_of_getElem? (i := 798) (by decide +kernel)) rfl
  | 22, _ => exact lw_g_of (w := u_lay RX10 TX10 22) (List.mem_of_getElem? (i := 800) (by decide +kernel)) rfl
  | 23, _ => exact lw_g_of (w := u_lay RX10 TX10 23) (List.mem_of_getElem? (i := 802) (by decide +kernel)) rfl
  | 24, _ => exact lw_g_of (w := u_lay RX10 TX10 24) (List.mem_of_getElem? (i := 804) (by decide +kernel)) rfl
  | 25, _ => exact lw_g_of (w := u_lay RX10 TX10 25) (List.mem_of_getElem? (i := 806) (by decide +kernel)) rfl
  | 26, _ => exact lw_g_of (w := u_lay RX10 TX10 26) (List.mem_of_getElem? (i := 808) (by decide +kernel)) rfl
  | 27, _ => exact lw_g_of (w := u_lay RX10 TX10 27) (List.mem_of_getElem? (i := 810) (by decide +kernel)) rfl
  | 28, _ => exact lw_g_of (w := u_lay RX10 TX10 28) (List.mem_of_getElem? (i := 812) (by decide +kernel)) rfl
  | 29, _ => exact lw_g_of (w := u_lay RX10 TX10 29) (List.mem_of_getElem? (i := 814) (by decide +kernel)) rfl
  | 30, _ => exact lw_g_of (w := u_lay RX10 TX10 30) (List.mem_of_getElem? (i := 816) (by decide +kernel)) rfl
  | 31, _ => exact lw_g_of (w := u_lay RX10 TX10 31) (List.mem_of_getElem? (i := 818) (by decide +kernel)) rfl
  | 32, _ => exact lw_g_of (w := u_lay RX10 TX10 32) (List.mem_of_getElem? (i := 820) (by decide +kernel)) rfl
  | 33, _ => exact lw_g_of (w := u_lay RX10 TX10 33) (List.mem_of_getElem? (i := 822) (by decide +kernel)) rfl
  | 34, _ => exact lw_g_of (w := u_lay RX10 TX10 34) (List.mem_of_getElem? (i := 824) (by decide +kernel)) rfl
  | n + 35, h => exact absurd h (by omega)
end
section
theorem ok_X0_init : sh_ok mX0_init 0 := ⟨List.mem_of_getElem? (i := 104) (by decide +kernel), List.mem_of_getElem? (i := 55) (by decide +kernel), ⟨by decide, by decide⟩, by decide +kernel, by decide, rfl⟩
theorem ki_X0_init : Cond.instanceMethod yX0_init ∈ lw_tbl := List.mem_of_getElem? (i := 103) (by decide +kernel)
theorem ok_X0_placeWith : sh_ok mX0_placeWith 1 := ⟨List.mem_of_getElem? (i := 438) (by decide +kernel), List.mem_of_getElem? (i := 55) (by decide +kernel), ⟨by decide, by decide⟩, by decide +kernel, by decide, rfl⟩
theorem ks_X0_placeWith : Cond.static yX0_placeWith ∈ lw_tbl := List.mem_of_getElem? (i := 437) (by decide +kernel)
theorem ok_X0_leave : sh_ok mX0_leave 0 := ⟨List.mem_of_getElem? (i := 374) (by decide +kernel), List.mem_of_getElem? (i := 55) (by decide +kernel), ⟨by decide, by decide⟩, by decide +kernel, by decide, rfl⟩
theorem ki_X0_leave : Cond.instanceMethod yX0_leave ∈ lw_tbl := List.mem_of_getElem? (i := 372) (by decide +kernel)
theorem kv_X0_leave : Cond.selects yX0_leave.cls yX0_leave yX0_leave ∈ lw_tbl := List.mem_of_getElem? (i := 373) (by decide +kernel)
theorem ok_X0_hasPerson : sh_ok mX0_hasPerson 1 := ⟨List.mem_of_getElem? (i := 431) (by decide +kernel), List.mem_of_getElem? (i := 55) (by decide +kernel), ⟨by decide, by decide⟩, by decide +kernel, by decide, rfl⟩
theorem ki_X0_hasPerson : Cond.instanceMethod yX0_hasPerson ∈ lw_tbl := List.mem_of_getElem? (i := 429) (by decide +kernel)
theorem kv_X0_hasPerson : Cond.selects yX0_hasPerson.cls yX0_hasPerson yX0_hasPerson ∈ lw_tbl := List.mem_of_getElem? (i := 430) (by decide +kernel)
theorem ok_X0_hasStone : sh_ok mX0_hasStone 1 := ⟨List.mem_of_getElem? (i := 450) (by decide +kernel), List.mem_of_getElem? (i := 55) (by decide +kernel), ⟨by decide, by decide⟩, by decide +kernel, by decide, rfl⟩
theorem ki_X0_hasStone : Cond.instanceMethod yX0_hasStone ∈ lw_tbl := List.mem_of_getElem? (i := 448) (by decide +kernel)
theorem kv_X0_hasStone : Cond.selects yX0_hasStone.cls yX0_hasStone yX0_hasStone ∈ lw_tbl := List.mem_of_getElem? (i := 449) (by decide +kernel)
theorem ok_X0_addPerson : sh_ok mX0_addPerson 2 := ⟨List.mem_of_getElem? (i := 415) (by decide +kernel), List.mem_of_getElem? (i := 55) (by decide +kernel), ⟨by decide, by decide⟩, by decide +kernel, by decide, rfl⟩
theorem ki_X0_addPerson : Cond.instanceMethod yX0_addPerson ∈ lw_tbl := List.mem_of_getElem? (i := 413) (by decide +kernel)
theorem kv_X0_addPerson : Cond.selects yX0_addPerson.cls yX0_addPerson yX0_addPerson ∈ lw_tbl := List.mem_of_getElem? (i := 414) (by decide +kernel)
theorem ok_X0_addStone : sh_ok mX0_addStone 2 := ⟨List.mem_of_getElem? (i := 423) (by decide +kernel), List.mem_of_getElem? (i := 55) (by decide +kernel), ⟨by decide, by decide⟩, by decide +kernel, by decide, rfl⟩
theorem ki_X0_addStone : Cond.instanceMethod yX0_addStone ∈ lw_tbl := List.mem_of_getElem? (i := 421) (by decide +kernel)
theorem kv_X0_addStone : Cond.selects yX0_addStone.cls yX0_addStone yX0_addStone ∈ lw_tbl := List.mem_of_getElem? (i := 422) (by decide +kernel)
theorem ok_X0_carriedBy : sh_ok mX0_carriedBy 1 := ⟨List.mem_of_getElem? (i := 435) (by decide +kernel), List.mem_of_getElem? (i := 55) (by decide +kernel), ⟨by decide, by decide⟩, by decide +kernel, by decide, rfl⟩
theorem ki_X0_carriedBy : Cond.instanceMethod yX0_carriedBy ∈ lw_tbl := List.mem_of_getElem? (i := 433) (by decide +kernel)
theorem kv_X0_carriedBy : Cond.selects yX0_carriedBy.cls yX0_carriedBy yX0_carriedBy ∈ lw_tbl := List.mem_of_getElem? (i := 434) (by decide +kernel)
theorem ok_X0_howManyCarriedBy : sh_ok mX0_howManyCarriedBy 1 := ⟨List.mem_of_getElem? (i := 458) (by decide +kernel), List.mem_of_getElem? (i := 55) (by decide +kernel), ⟨by decide, by decide⟩, by decide +kernel, by decide, rfl⟩
theorem ki_X0_howManyCarriedBy : Cond.instanceMethod yX0_howManyCarriedBy ∈ lw_tbl := List.mem_of_getElem? (i := 456) (by decide +kernel)
theorem kv_X0_howManyCarriedBy : Cond.selects yX0_howManyCarriedBy.cls yX0_howManyCarriedBy yX0_howManyCarriedBy ∈ lw_tbl := List.mem_of_getElem? (i := 457) (by decide +kernel)
theorem ok_X0_weightWithStones : sh_ok mX0_weightWithStones 1 := ⟨List.mem_of_getElem? (i := 442) (by decide +kernel), List.mem_of_getElem? (i := 55) (by decide +kernel), ⟨by decide, by decide⟩, by decide +kernel, by decide, rfl⟩
theorem ki_X0_weightWithStones : Cond.instanceMethod yX0_weightWithStones ∈ lw_tbl := List.mem_of_getElem? (i := 440) (by decide +kernel)
theorem kv_X0_weightWithStones : Cond.selects yX0_weightWithStones.cls yX0_weightWithStones yX0_weightWithStones ∈ lw_tbl := List.mem_of_getElem? (i := 441) (by decide +kernel)
theorem ok_X0_isParty : sh_ok mX0_isParty 1 := ⟨List.mem_of_getElem? (i := 478) (by decide +kernel), List.mem_of_getElem? (i := 55) (by decide +kernel), ⟨by decide, by decide⟩, by decide +kernel, by decide, rfl⟩
theorem ki_X0_isParty : Cond.instanceMethod yX0_isParty ∈ lw_tbl := List.mem_of_getElem? (i := 476) (by decide +kernel)
theorem kv_X0_isParty : Cond.selects yX0_isParty.cls yX0_isParty yX0_isParty ∈ lw_tbl := List.mem_of_getElem? (i := 477) (by decide +kernel)
theorem ok_X0_roomOfParty : sh_ok mX0_roomOfParty 1 := ⟨List.mem_of_getElem? (i := 482) (by decide +kernel), List.mem_of_getElem? (i := 55) (by decide +kernel), ⟨by decide, by decide⟩, by decide +kernel, by decide, rfl⟩
theorem ki_X0_roomOfParty : Cond.instanceMethod yX0_roomOfParty ∈ lw_tbl := List.mem_of_getElem? (i := 480) (by decide +kernel)
theorem kv_X0_roomOfParty : Cond.selects yX0_roomOfParty.cls yX0_roomOfParty yX0_roomOfParty ∈ lw_tbl := List.mem_of_getElem? (i := 481) (by decide +kernel)
theorem ok_X0_weightOfParty : sh_ok mX0_weightOfParty 1 := ⟨List.mem_of_getElem? (i := 493) (by decide +kernel), List.mem_of_getElem? (i := 55) (by decide +kernel), ⟨by decide, by decide⟩, by decide +kernel, by decide, rfl⟩
theorem ki_X0_weightOfParty : Cond.instanceMethod yX0_weightOfParty ∈ lw_tbl := List.mem_of_getElem? (i := 491) (by decide +kernel)
theorem kv_X0_weightOfParty : Cond.selects yX0_weightOfParty.cls yX0_weightOfParty yX0_weightOfParty ∈ lw_tbl := List.mem_of_getElem? (i := 492) (by decide +kernel)
theorem ok_X0_moveParty : sh_ok mX0_moveParty 2 := ⟨List.mem_of_getElem? (i := 510) (by decide +kernel), List.mem_of_getElem? (i := 55) (by decide +kernel), ⟨by decide, by decide⟩, by decide +kernel, by decide, rfl⟩
theorem ki_X0_moveParty : Cond.instanceMethod yX0_moveParty ∈ lw_tbl := List.mem_of_getElem? (i := 508) (by decide +kernel)
theorem kv_X0_moveParty : Cond.selects yX0_moveParty.cls yX0_moveParty yX0_moveParty ∈ lw_tbl := List.mem_of_getElem? (i := 509) (by decide +kernel)
theorem ok_X1_init : sh_ok mX1_init 0 := ⟨List.mem_of_getElem? (i := 81) (by decide +kernel), List.mem_of_getElem? (i := 54) (by decide +kernel), ⟨by decide, by decide⟩, by decide +kernel, by decide, rfl⟩
theorem ki_X1_init : Cond.instanceMethod yX1_init ∈ lw_tbl := List.mem_of_getElem? (i := 80) (by decide +kernel)
theorem ok_X1_build : sh_ok mX1_build 1 := ⟨List.mem_of_getElem? (i := 291) (by decide +kernel), List.mem_of_getElem? (i := 54) (by decide +kernel), ⟨by decide, by decide⟩, by decide +kernel, by decide, rfl⟩
theorem ki_X1_build : Cond.instanceMethod yX1_build ∈ lw_tbl := List.mem_of_getElem? (i := 289) (by decide +kernel)
theorem kv_X1_build : Cond.selects yX1_build.cls yX1_build yX1_build ∈ lw_tbl := List.mem_of_getElem? (i := 290) (by decide +kernel)
theorem ok_X1_hasRoom : sh_ok mX1_hasRoom 1 := ⟨List.mem_of_getElem? (i := 408) (by decide +kernel), List.mem_of_getElem? (i := 54) (by decide +kernel), ⟨by decide, by decide⟩, by decide +kernel, by decide, rfl⟩
theorem ki_X1_hasRoom : Cond.instanceMethod yX1_hasRoom ∈ lw_tbl := List.mem_of_getElem? (i := 406) (by decide +kernel)
theorem kv_X1_hasRoom : Cond.selects yX1_hasRoom.cls yX1_hasRoom yX1_hasRoom ∈ lw_tbl := List.mem_of_getElem? (i := 407) (by decide +kernel)
theorem ok_X1_hasDoor : sh_ok mX1_hasDoor 1 := ⟨List.mem_of_getElem? (i := 382) (by decide +kernel), List.mem_of_getElem? (i := 54) (by decide +kernel), ⟨by decide, by decide⟩, by decide +kernel, by decide, rfl⟩
theorem ki_X1_hasDoor : Cond.instanceMethod yX1_hasDoor ∈ lw_tbl := List.mem_of_getElem? (i := 380) (by decide +kernel)
theorem kv_X1_hasDoor : Cond.selects yX1_hasDoor.cls yX1_hasDoor yX1_hasDoor ∈ lw_tbl := List.mem_of_getElem? (i := 381) (by decide +kernel)
theorem ok_X1_reachOf : sh_ok mX1_reachOf 2 := ⟨List.mem_of_getElem? (i := 566) (by decide +kernel), List.mem_of_getElem? (i := 54) (by decide +kernel), ⟨by decide, by decide⟩, by decide +kernel, by decide, rfl⟩
theorem ki_X1_reachOf : Cond.instanceMethod yX1_reachOf ∈ lw_tbl := List.mem_of_getElem? (i := 564) (by decide +kernel)
theorem kv_X1_reachOf : Cond.selects yX1_reachOf.cls yX1_reachOf yX1_reachOf ∈ lw_tbl := List.mem_of_getElem? (i := 565) (by decide +kernel)
theorem ok_X1_reaches : sh_ok mX1_reaches 3 := ⟨List.mem_of_getElem? (i := 578) (by decide +kernel), List.mem_of_getElem? (i := 54) (by decide +kernel), ⟨by decide, by decide⟩, by decide +kernel, by decide, rfl⟩
theorem ki_X1_reaches : Cond.instanceMethod yX1_reaches ∈ lw_tbl := List.mem_of_getElem? (i := 576) (by decide +kernel)
theorem kv_X1_reaches : Cond.selects yX1_reaches.cls yX1_reaches yX1_reaches ∈ lw_tbl := List.mem_of_getElem? (i := 577) (by decide +kernel)
theorem ok_X1_through : sh_ok mX1_through 4 := ⟨List.mem_of_getElem? (i := 569) (by decide +kernel), List.mem_of_getElem? (i := 54) (by decide +kernel), ⟨by decide, by decide⟩, by decide +kernel, by decide, rfl⟩
theorem ks_X1_through : Cond.static yX1_through ∈ lw_tbl := List.mem_of_getElem? (i := 568) (by decide +kernel)
theorem ok_X2_init : sh_ok mX2_init 0 := ⟨List.mem_of_getElem? (i := 136) (by decide +kernel), List.mem_of_getElem? (i := 56) (by decide +kernel), ⟨by decide, by decide⟩, by decide +kernel, by decide, rfl⟩
theorem ki_X2_init : Cond.instanceMethod yX2_init ∈ lw_tbl := List.mem_of_getElem? (i := 135) (by decide +kernel)
theorem ok_X2_begin : sh_ok mX2_begin 2 := ⟨List.mem_of_getElem? (i := 522) (by decide +kernel), List.mem_of_getElem? (i := 56) (by decide +kernel), ⟨by decide, by decide⟩, by decide +kernel, by decide, rfl⟩
theorem ki_X2_begin : Cond.instanceMethod yX2_begin ∈ lw_tbl := List.mem_of_getElem? (i := 520) (by decide +kernel)
theorem kv_X2_begin : Cond.selects yX2_begin.cls yX2_begin yX2_begin ∈ lw_tbl := List.mem_of_getElem? (i := 521) (by decide +kernel)
theorem ok_X2_setStone : sh_ok mX2_setStone 3 := ⟨List.mem_of_getElem? (i := 526) (by decide +kernel), List.mem_of_getElem? (i := 56) (by decide +kernel), ⟨by decide, by decide⟩, by decide +kernel, by decide, rfl⟩
theorem ki_X2_setStone : Cond.instanceMethod yX2_setStone ∈ lw_tbl := List.mem_of_getElem? (i := 524) (by decide +kernel)
theorem kv_X2_setStone : Cond.selects yX2_setStone.cls yX2_setStone yX2_setStone ∈ lw_tbl := List.mem_of_getElem? (i := 525) (by decide +kernel)
theorem ok_X2_finds : sh_ok mX2_finds 2 := ⟨List.mem_of_getElem? (i := 533) (by decide +kernel), List.mem_of_getElem? (i := 56) (by decide +kernel), ⟨by decide, by decide⟩, by decide +kernel, by decide, rfl⟩
theorem ki_X2_finds : Cond.instanceMethod yX2_finds ∈ lw_tbl := List.mem_of_getElem? (i := 531) (by decide +kernel)
theorem kv_X2_finds : Cond.selects yX2_finds.cls yX2_finds yX2_finds ∈ lw_tbl := List.mem_of_getElem? (i := 532) (by decide +kernel)
theorem ok_X2_howManySteps : sh_ok mX2_howManySteps 0 := ⟨List.mem_of_getElem? (i := 553) (by decide +kernel), List.mem_of_getElem? (i := 56) (by decide +kernel), ⟨by decide, by decide⟩, by decide +kernel, by decide, rfl⟩
theorem ki_X2_howManySteps : Cond.instanceMethod yX2_howManySteps ∈ lw_tbl := List.mem_of_getElem? (i := 551) (by decide +kernel)
theorem kv_X2_howManySteps : Cond.selects yX2_howManySteps.cls yX2_howManySteps yX2_howManySteps ∈ lw_tbl := List.mem_of_getElem? (i := 552) (by decide +kernel)
theorem ok_X2_stepAt : sh_ok mX2_stepAt 1 := ⟨List.mem_of_getElem? (i := 557) (by decide +kernel), List.mem_of_getElem? (i := 56) (by decide +kernel), ⟨by decide, by decide⟩, by decide +kernel, by decide, rfl⟩
theorem ki_X2_stepAt : Cond.instanceMethod yX2_stepAt ∈ lw_tbl := List.mem_of_getElem? (i := 555) (by decide +kernel)
theorem kv_X2_stepAt : Cond.selects yX2_stepAt.cls yX2_stepAt yX2_stepAt ∈ lw_tbl := List.mem_of_getElem? (i := 556) (by decide +kernel)
theorem ok_X2_leaveBySteps : sh_ok mX2_leaveBySteps 2 := ⟨List.mem_of_getElem? (i := 541) (by decide +kernel), List.mem_of_getElem? (i := 56) (by decide +kernel), ⟨by decide, by decide⟩, by decide +kernel, by decide, rfl⟩
theorem ki_X2_leaveBySteps : Cond.instanceMethod yX2_leaveBySteps ∈ lw_tbl := List.mem_of_getElem? (i := 540) (by decide +kernel)
theorem kv_X2_leaveBySteps : Cond.selects yX2_leaveBySteps.cls yX2_leaveBySteps yX2_leaveBySteps ∈ lw_tbl := List.mem_of_getElem? (i := 9) (by decide +kernel)
theorem ok_X2_meet : sh_ok mX2_meet 3 := ⟨List.mem_of_getElem? (i := 537) (by decide +kernel), List.mem_of_getElem? (i := 56) (by decide +kernel), ⟨by decide, by decide⟩, by decide +kernel, by decide, rfl⟩
theorem ki_X2_meet : Cond.instanceMethod yX2_meet ∈ lw_tbl := List.mem_of_getElem? (i := 536) (by decide +kernel)
theorem kv_X2_meet : Cond.selects yX2_meet.cls yX2_meet yX2_meet ∈ lw_tbl := List.mem_of_getElem? (i := 8) (by decide +kernel)
theorem ok_X2_forgetSeen : sh_ok mX2_forgetSeen 0 := ⟨List.mem_of_getElem? (i := 549) (by decide +kernel), List.mem_of_getElem? (i := 56) (by decide +kernel), ⟨by decide, by decide⟩, by decide +kernel, by decide, rfl⟩
theorem ki_X2_forgetSeen : Cond.instanceMethod yX2_forgetSeen ∈ lw_tbl := List.mem_of_getElem? (i := 548) (by decide +kernel)
theorem kv_X2_forgetSeen : Cond.selects yX2_forgetSeen.cls yX2_forgetSeen yX2_forgetSeen ∈ lw_tbl := List.mem_of_getElem? (i := 10) (by decide +kernel)
theorem ok_X2_place : sh_ok mX2_place 2 := ⟨List.mem_of_getElem? (i := 544) (by decide +kernel), List.mem_of_getElem? (i := 56) (by decide +kernel), ⟨by decide, by decide⟩, by decide +kernel, by decide, rfl⟩
theorem ks_X2_place : Cond.static yX2_place ∈ lw_tbl := List.mem_of_getElem? (i := 543) (by decide +kernel)
theorem ok_X2_withPlace : sh_ok mX2_withPlace 3 := ⟨List.mem_of_getElem? (i := 529) (by decide +kernel), List.mem_of_getElem? (i := 56) (by decide +kernel), ⟨by decide, by decide⟩, by decide +kernel, by decide, rfl⟩
theorem ks_X2_withPlace : Cond.static yX2_withPlace ∈ lw_tbl := List.mem_of_getElem? (i := 528) (by decide +kernel)
theorem ok_X3_init : sh_ok mX3_init 0 := ⟨List.mem_of_getElem? (i := 181) (by decide +kernel), List.mem_of_getElem? (i := 58) (by decide +kernel), ⟨by decide, by decide⟩, by decide +kernel, by decide, rfl⟩
theorem ki_X3_init : Cond.instanceMethod yX3_init ∈ lw_tbl := List.mem_of_getElem? (i := 180) (by decide +kernel)
theorem ok_X3_hasNothing : sh_ok mX3_hasNothing 0 := ⟨List.mem_of_getElem? (i := 231) (by decide +kernel), List.mem_of_getElem? (i := 58) (by decide +kernel), ⟨by decide, by decide⟩, by decide +kernel, by decide, rfl⟩
theorem ki_X3_hasNothing : Cond.instanceMethod yX3_hasNothing ∈ lw_tbl := List.mem_of_getElem? (i := 229) (by decide +kernel)
theorem kv_X3_hasNothing : Cond.selects yX3_hasNothing.cls yX3_hasNothing yX3_hasNothing ∈ lw_tbl := List.mem_of_getElem? (i := 230) (by decide +kernel)
theorem ok_X3_empty : sh_ok mX3_empty 0 := ⟨List.mem_of_getElem? (i := 634) (by decide +kernel), List.mem_of_getElem? (i := 58) (by decide +kernel), ⟨by decide, by decide⟩, by decide +kernel, by decide, rfl⟩
theorem ki_X3_empty : Cond.instanceMethod yX3_empty ∈ lw_tbl := List.mem_of_getElem? (i := 632) (by decide +kernel)
theorem kv_X3_empty : Cond.selects yX3_empty.cls yX3_empty yX3_empty ∈ lw_tbl := List.mem_of_getElem? (i := 633) (by decide +kernel)
theorem ok_X3_renew : sh_ok mX3_renew 2 := ⟨List.mem_of_getElem? (i := 626) (by decide +kernel), List.mem_of_getElem? (i := 58) (by decide +kernel), ⟨by decide, by decide⟩, by decide +kernel, by decide, rfl⟩
theorem ki_X3_renew : Cond.instanceMethod yX3_renew ∈ lw_tbl := List.mem_of_getElem? (i := 624) (by decide +kernel)
theorem kv_X3_renew : Cond.selects yX3_renew.cls yX3_renew yX3_renew ∈ lw_tbl := List.mem_of_getElem? (i := 625) (by decide +kernel)
theorem ok_X3_has : sh_ok mX3_has 2 := ⟨List.mem_of_getElem? (i := 239) (by decide +kernel), List.mem_of_getElem? (i := 58) (by decide +kernel), ⟨by decide, by decide⟩, by decide +kernel, by decide, rfl⟩
theorem ki_X3_has : Cond.instanceMethod yX3_has ∈ lw_tbl := List.mem_of_getElem? (i := 237) (by decide +kernel)
theorem kv_X3_has : Cond.selects yX3_has.cls yX3_has yX3_has ∈ lw_tbl := List.mem_of_getElem? (i := 238) (by decide +kernel)
theorem ok_X3_cut : sh_ok mX3_cut 1 := ⟨List.mem_of_getElem? (i := 642) (by decide +kernel), List.mem_of_getElem? (i := 58) (by decide +kernel), ⟨by decide, by decide⟩, by decide +kernel, by decide, rfl⟩
theorem ki_X3_cut : Cond.instanceMethod yX3_cut ∈ lw_tbl := List.mem_of_getElem? (i := 640) (by decide +kernel)
theorem kv_X3_cut : Cond.selects yX3_cut.cls yX3_cut yX3_cut ∈ lw_tbl := List.mem_of_getElem? (i := 641) (by decide +kernel)
theorem ok_X4_init : sh_ok mX4_init 3 := ⟨List.mem_of_getElem? (i := 308) (by decide +kernel), List.mem_of_getElem? (i := 62) (by decide +kernel), ⟨by decide, by decide⟩, by decide +kernel, by decide, rfl⟩
theorem ki_X4_init : Cond.instanceMethod yX4_init ∈ lw_tbl := List.mem_of_getElem? (i := 307) (by decide +kernel)
theorem ok_X4_init_ : sh_ok mX4_init_ 5 := ⟨List.mem_of_getElem? (i := 311) (by decide +kernel), List.mem_of_getElem? (i := 62) (by decide +kernel), ⟨by decide, by decide⟩, by decide +kernel, by decide, rfl⟩
theorem ki_X4_init_ : Cond.instanceMethod yX4_init_ ∈ lw_tbl := List.mem_of_getElem? (i := 310) (by decide +kernel)
theorem ok_X4_kind : sh_ok mX4_kind 0 := ⟨List.mem_of_getElem? (i := 400) (by decide +kernel), List.mem_of_getElem? (i := 62) (by decide +kernel), ⟨by decide, by decide⟩, by decide +kernel, by decide, rfl⟩
theorem ki_X4_kind : Cond.instanceMethod yX4_kind ∈ lw_tbl := List.mem_of_getElem? (i := 391) (by decide +kernel)
theorem kv_X4_kind : Cond.selects yX4_kind.cls yX4_kind yX4_kind ∈ lw_tbl := List.mem_of_getElem? (i := 392) (by decide +kernel)
theorem ok_X4_isOf : sh_ok mX4_isOf 1 := ⟨List.mem_of_getElem? (i := 489) (by decide +kernel), List.mem_of_getElem? (i := 62) (by decide +kernel), ⟨by decide, by decide⟩, by decide +kernel, by decide, rfl⟩
theorem ki_X4_isOf : Cond.instanceMethod yX4_isOf ∈ lw_tbl := List.mem_of_getElem? (i := 484) (by decide +kernel)
theorem kv_X4_isOf : Cond.selects yX4_isOf.cls yX4_isOf yX4_isOf ∈ lw_tbl := List.mem_of_getElem? (i := 485) (by decide +kernel)
theorem ok_X4_beyond : sh_ok mX4_beyond 2 := ⟨List.mem_of_getElem? (i := 501) (by decide +kernel), List.mem_of_getElem? (i := 62) (by decide +kernel), ⟨by decide, by decide⟩, by decide +kernel, by decide, rfl⟩
theorem ki_X4_beyond : Cond.instanceMethod yX4_beyond ∈ lw_tbl := List.mem_of_getElem? (i := 496) (by decide +kernel)
theorem kv_X4_beyond : Cond.selects yX4_beyond.cls yX4_beyond yX4_beyond ∈ lw_tbl := List.mem_of_getElem? (i := 497) (by decide +kernel)
theorem ok_X4_told : sh_ok mX4_told 1 := ⟨List.mem_of_getElem? (i := 389) (by decide +kernel), List.mem_of_getElem? (i := 62) (by decide +kernel), ⟨by decide, by decide⟩, by decide +kernel, by decide, rfl⟩
theorem ki_X4_told : Cond.instanceMethod yX4_told ∈ lw_tbl := List.mem_of_getElem? (i := 384) (by decide +kernel)
theorem kv_X4_told : Cond.selects yX4_told.cls yX4_told yX4_told ∈ lw_tbl := List.mem_of_getElem? (i := 385) (by decide +kernel)
theorem ok_X4_sillsTelling : sh_ok mX4_sillsTelling 1 := ⟨List.mem_of_getElem? (i := 681) (by decide +kernel), List.mem_of_getElem? (i := 62) (by decide +kernel), ⟨by decide, by decide⟩, by decide +kernel, by decide, rfl⟩
theorem ki_X4_sillsTelling : Cond.instanceMethod yX4_sillsTelling ∈ lw_tbl := List.mem_of_getElem? (i := 680) (by decide +kernel)
theorem kv_X4_sillsTelling : Cond.selects yX4_sillsTelling.cls yX4_sillsTelling yX4_sillsTelling ∈ lw_tbl := List.mem_of_getElem? (i := 1122) (by decide +kernel)
theorem ok_X4_telling : sh_ok mX4_telling 1 := ⟨List.mem_of_getElem? (i := 683) (by decide +kernel), List.mem_of_getElem? (i := 62) (by decide +kernel), ⟨by decide, by decide⟩, by decide +kernel, by decide, rfl⟩
theorem ki_X4_telling : Cond.instanceMethod yX4_telling ∈ lw_tbl := List.mem_of_getElem? (i := 660) (by decide +kernel)
theorem kv_X4_telling : Cond.selects yX4_telling.cls yX4_telling yX4_telling ∈ lw_tbl := List.mem_of_getElem? (i := 661) (by decide +kernel)
theorem ok_X4_rung : sh_ok mX4_rung 2 := ⟨List.mem_of_getElem? (i := 697) (by decide +kernel), List.mem_of_getElem? (i := 62) (by decide +kernel), ⟨by decide, by decide⟩, by decide +kernel, by decide, rfl⟩
theorem ki_X4_rung : Cond.instanceMethod yX4_rung ∈ lw_tbl := List.mem_of_getElem? (i := 690) (by decide +kernel)
theorem kv_X4_rung : Cond.selects yX4_rung.cls yX4_rung yX4_rung ∈ lw_tbl := List.mem_of_getElem? (i := 691) (by decide +kernel)
theorem ok_X5_init : sh_ok mX5_init 3 := ⟨List.mem_of_getElem? (i := 244) (by decide +kernel), List.mem_of_getElem? (i := 60) (by decide +kernel), ⟨by decide, by decide⟩, by decide +kernel, by decide, rfl⟩
theorem ki_X5_init : Cond.instanceMethod yX5_init ∈ lw_tbl := List.mem_of_getElem? (i := 243) (by decide +kernel)
theorem ok_X5_firstFault : sh_ok mX5_firstFault 0 := ⟨List.mem_of_getElem? (i := 259) (by decide +kernel), List.mem_of_getElem? (i := 60) (by decide +kernel), ⟨by decide, by decide⟩, by decide +kernel, by decide, rfl⟩
theorem ki_X5_firstFault : Cond.instanceMethod yX5_firstFault ∈ lw_tbl := List.mem_of_getElem? (i := 257) (by decide +kernel)
theorem kv_X5_firstFault : Cond.selects yX5_firstFault.cls yX5_firstFault yX5_firstFault ∈ lw_tbl := List.mem_of_getElem? (i := 258) (by decide +kernel)
theorem ok_X5_rooms : sh_ok mX5_rooms 0 := ⟨List.mem_of_getElem? (i := 279) (by decide +kernel), List.mem_of_getElem? (i := 60) (by decide +kernel), ⟨by decide, by decide⟩, by decide +kernel, by decide, rfl⟩
theorem ki_X5_rooms : Cond.instanceMethod yX5_rooms ∈ lw_tbl := List.mem_of_getElem? (i := 277) (by decide +kernel)
theorem kv_X5_rooms : Cond.selects yX5_rooms.cls yX5_rooms yX5_rooms ∈ lw_tbl := List.mem_of_getElem? (i := 278) (by decide +kernel)
theorem ok_X5_doorCount : sh_ok mX5_doorCount 0 := ⟨List.mem_of_getElem? (i := 296) (by decide +kernel), List.mem_of_getElem? (i := 60) (by decide +kernel), ⟨by decide, by decide⟩, by decide +kernel, by decide, rfl⟩
theorem ki_X5_doorCount : Cond.instanceMethod yX5_doorCount ∈ lw_tbl := List.mem_of_getElem? (i := 294) (by decide +kernel)
theorem kv_X5_doorCount : Cond.selects yX5_doorCount.cls yX5_doorCount yX5_doorCount ∈ lw_tbl := List.mem_of_getElem? (i := 295) (by decide +kernel)
theorem ok_X5_door : sh_ok mX5_door 1 := ⟨List.mem_of_getElem? (i := 303) (by decide +kernel), List.mem_of_getElem? (i := 60) (by decide +kernel), ⟨by decide, by decide⟩, by decide +kernel, by decide, rfl⟩
theorem ki_X5_door : Cond.instanceMethod yX5_door ∈ lw_tbl := List.mem_of_getElem? (i := 301) (by decide +kernel)
theorem kv_X5_door : Cond.selects yX5_door.cls yX5_door yX5_door ∈ lw_tbl := List.mem_of_getElem? (i := 302) (by decide +kernel)
theorem ok_X5_code : sh_ok mX5_code 1 := ⟨List.mem_of_getElem? (i := 267) (by decide +kernel), List.mem_of_getElem? (i := 60) (by decide +kernel), ⟨by decide, by decide⟩, by decide +kernel, by decide, rfl⟩
theorem ki_X5_code : Cond.instanceMethod yX5_code ∈ lw_tbl := List.mem_of_getElem? (i := 266) (by decide +kernel)
theorem kv_X5_code : Cond.selects yX5_code.cls yX5_code yX5_code ∈ lw_tbl := List.mem_of_getElem? (i := 3) (by decide +kernel)
theorem ok_X5_digit : sh_ok mX5_digit 1 := ⟨List.mem_of_getElem? (i := 275) (by decide +kernel), List.mem_of_getElem? (i := 60) (by decide +kernel), ⟨by decide, by decide⟩, by decide +kernel, by decide, rfl⟩
theorem ki_X5_digit : Cond.instanceMethod yX5_digit ∈ lw_tbl := List.mem_of_getElem? (i := 274) (by decide +kernel)
theorem kv_X5_digit : Cond.selects yX5_digit.cls yX5_digit yX5_digit ∈ lw_tbl := List.mem_of_getElem? (i := 5) (by decide +kernel)
theorem ok_X5_isDigit : sh_ok mX5_isDigit 1 := ⟨List.mem_of_getElem? (i := 283) (by decide +kernel), List.mem_of_getElem? (i := 60) (by decide +kernel), ⟨by decide, by decide⟩, by decide +kernel, by decide, rfl⟩
theorem ki_X5_isDigit : Cond.instanceMethod yX5_isDigit ∈ lw_tbl := List.mem_of_getElem? (i := 282) (by decide +kernel)
theorem kv_X5_isDigit : Cond.selects yX5_isDigit.cls yX5_isDigit yX5_isDigit ∈ lw_tbl := List.mem_of_getElem? (i := 6) (by decide +kernel)
theorem ok_X5_isRoom : sh_ok mX5_isRoom 1 := ⟨List.mem_of_getElem? (i := 271) (by decide +kernel), List.mem_of_getElem? (i := 60) (by decide +kernel), ⟨by decide, by decide⟩, by decide +kernel, by decide, rfl⟩
theorem ki_X5_isRoom : Cond.instanceMethod yX5_isRoom ∈ lw_tbl := List.mem_of_getElem? (i := 270) (by decide +kernel)
theorem kv_X5_isRoom : Cond.selects yX5_isRoom.cls yX5_isRoom yX5_isRoom ∈ lw_tbl := List.mem_of_getElem? (i := 4) (by decide +kernel)
theorem ok_X5_goesOn : sh_ok mX5_goesOn 1 := ⟨List.mem_of_getElem? (i := 263) (by decide +kernel), List.mem_of_getElem? (i := 60) (by decide +kernel), ⟨by decide, by decide⟩, by decide +kernel, by decide, rfl⟩
theorem ki_X5_goesOn : Cond.instanceMethod yX5_goesOn ∈ lw_tbl := List.mem_of_getElem? (i := 262) (by decide +kernel)
theorem kv_X5_goesOn : Cond.selects yX5_goesOn.cls yX5_goesOn yX5_goesOn ∈ lw_tbl := List.mem_of_getElem? (i := 2) (by decide +kernel)
theorem ok_X5_isNought : sh_ok mX5_isNought 1 := ⟨List.mem_of_getElem? (i := 287) (by decide +kernel), List.mem_of_getElem? (i := 60) (by decide +kernel), ⟨by decide, by decide⟩, by decide +kernel, by decide, rfl⟩
theorem ki_X5_isNought : Cond.instanceMethod yX5_isNought ∈ lw_tbl := List.mem_of_getElem? (i := 286) (by decide +kernel)
theorem kv_X5_isNought : Cond.selects yX5_isNought.cls yX5_isNought yX5_isNought ∈ lw_tbl := List.mem_of_getElem? (i := 7) (by decide +kernel)
theorem ok_X6_init : sh_ok mX6_init 0 := ⟨List.mem_of_getElem? (i := 171) (by decide +kernel), List.mem_of_getElem? (i := 57) (by decide +kernel), ⟨by decide, by decide⟩, by decide +kernel, by decide, rfl⟩
theorem ki_X6_init : Cond.instanceMethod yX6_init ∈ lw_tbl := List.mem_of_getElem? (i := 170) (by decide +kernel)
theorem ok_X6_note : sh_ok mX6_note 1 := ⟨List.mem_of_getElem? (i := 669) (by decide +kernel), List.mem_of_getElem? (i := 57) (by decide +kernel), ⟨by decide, by decide⟩, by decide +kernel, by decide, rfl⟩
theorem ki_X6_note : Cond.instanceMethod yX6_note ∈ lw_tbl := List.mem_of_getElem? (i := 667) (by decide +kernel)
theorem kv_X6_note : Cond.selects yX6_note.cls yX6_note yX6_note ∈ lw_tbl := List.mem_of_getElem? (i := 668) (by decide +kernel)
theorem ok_X7_init : sh_ok mX7_init 3 := ⟨List.mem_of_getElem? (i := 344) (by decide +kernel), List.mem_of_getElem? (i := 63) (by decide +kernel), ⟨by decide, by decide⟩, by decide +kernel, by decide, rfl⟩
theorem ki_X7_init : Cond.instanceMethod yX7_init ∈ lw_tbl := List.mem_of_getElem? (i := 343) (by decide +kernel)
theorem ok_X7_init_ : sh_ok mX7_init_ 4 := ⟨List.mem_of_getElem? (i := 347) (by decide +kernel), List.mem_of_getElem? (i := 63) (by decide +kernel), ⟨by decide, by decide⟩, by decide +kernel, by decide, rfl⟩
theorem ki_X7_init_ : Cond.instanceMethod yX7_init_ ∈ lw_tbl := List.mem_of_getElem? (i := 346) (by decide +kernel)
theorem ok_X7_kind : sh_ok mX7_kind 0 := ⟨List.mem_of_getElem? (i := 396) (by decide +kernel), List.mem_of_getElem? (i := 63) (by decide +kernel), ⟨by decide, by decide⟩, by decide +kernel, by decide, rfl⟩
theorem ki_X7_kind : Cond.instanceMethod yX7_kind ∈ lw_tbl := List.mem_of_getElem? (i := 395) (by decide +kernel)
theorem ok_X7_telling : sh_ok mX7_telling 1 := ⟨List.mem_of_getElem? (i := 665) (by decide +kernel), List.mem_of_getElem? (i := 63) (by decide +kernel), ⟨by decide, by decide⟩, by decide +kernel, by decide, rfl⟩
theorem ki_X7_telling : Cond.instanceMethod yX7_telling ∈ lw_tbl := List.mem_of_getElem? (i := 664) (by decide +kernel)
theorem ok_X8_init : sh_ok mX8_init 3 := ⟨List.mem_of_getElem? (i := 361) (by decide +kernel), List.mem_of_getElem? (i := 64) (by decide +kernel), ⟨by decide, by decide⟩, by decide +kernel, by decide, rfl⟩
theorem ki_X8_init : Cond.instanceMethod yX8_init ∈ lw_tbl := List.mem_of_getElem? (i := 360) (by decide +kernel)
theorem ok_X8_kind : sh_ok mX8_kind 0 := ⟨List.mem_of_getElem? (i := 399) (by decide +kernel), List.mem_of_getElem? (i := 64) (by decide +kernel), ⟨by decide, by decide⟩, by decide +kernel, by decide, rfl⟩
theorem ki_X8_kind : Cond.instanceMethod yX8_kind ∈ lw_tbl := List.mem_of_getElem? (i := 398) (by decide +kernel)
theorem ok_X8_telling : sh_ok mX8_telling 1 := ⟨List.mem_of_getElem? (i := 673) (by decide +kernel), List.mem_of_getElem? (i := 64) (by decide +kernel), ⟨by decide, by decide⟩, by decide +kernel, by decide, rfl⟩
theorem ki_X8_telling : Cond.instanceMethod yX8_telling ∈ lw_tbl := List.mem_of_getElem? (i := 672) (by decide +kernel)
theorem ok_X8_rung : sh_ok mX8_rung 2 := ⟨List.mem_of_getElem? (i := 696) (by decide +kernel), List.mem_of_getElem? (i := 64) (by decide +kernel), ⟨by decide, by decide⟩, by decide +kernel, by decide, rfl⟩
theorem ki_X8_rung : Cond.instanceMethod yX8_rung ∈ lw_tbl := List.mem_of_getElem? (i := 695) (by decide +kernel)
theorem ok_X9_init : sh_ok mX9_init 0 := ⟨List.mem_of_getElem? (i := 71) (by decide +kernel), List.mem_of_getElem? (i := 53) (by decide +kernel), ⟨by decide, by decide⟩, by decide +kernel, by decide, rfl⟩
theorem ki_X9_init : Cond.instanceMethod yX9_init ∈ lw_tbl := List.mem_of_getElem? (i := 70) (by decide +kernel)
theorem ok_X9_house : sh_ok mX9_house 4 := ⟨List.mem_of_getElem? (i := 217) (by decide +kernel), List.mem_of_getElem? (i := 53) (by decide +kernel), ⟨by decide, by decide⟩, by decide +kernel, by decide, rfl⟩
theorem ki_X9_house : Cond.instanceMethod yX9_house ∈ lw_tbl := List.mem_of_getElem? (i := 215) (by decide +kernel)
theorem kv_X9_house : Cond.selects yX9_house.cls yX9_house yX9_house ∈ lw_tbl := List.mem_of_getElem? (i := 216) (by decide +kernel)
theorem ok_X9_ofDoor : sh_ok mX9_ofDoor 2 := ⟨List.mem_of_getElem? (i := 378) (by decide +kernel), List.mem_of_getElem? (i := 53) (by decide +kernel), ⟨by decide, by decide⟩, by decide +kernel, by decide, rfl⟩
theorem ki_X9_ofDoor : Cond.instanceMethod yX9_ofDoor ∈ lw_tbl := List.mem_of_getElem? (i := 376) (by decide +kernel)
theorem kv_X9_ofDoor : Cond.selects yX9_ofDoor.cls yX9_ofDoor yX9_ofDoor ∈ lw_tbl := List.mem_of_getElem? (i := 377) (by decide +kernel)
theorem ok_X9_person : sh_ok mX9_person 2 := ⟨List.mem_of_getElem? (i := 404) (by decide +kernel), List.mem_of_getElem? (i := 53) (by decide +kernel), ⟨by decide, by decide⟩, by decide +kernel, by decide, rfl⟩
theorem ki_X9_person : Cond.instanceMethod yX9_person ∈ lw_tbl := List.mem_of_getElem? (i := 402) (by decide +kernel)
theorem kv_X9_person : Cond.selects yX9_person.cls yX9_person yX9_person ∈ lw_tbl := List.mem_of_getElem? (i := 403) (by decide +kernel)
theorem ok_X9_stone : sh_ok mX9_stone 2 := ⟨List.mem_of_getElem? (i := 419) (by decide +kernel), List.mem_of_getElem? (i := 53) (by decide +kernel), ⟨by decide, by decide⟩, by decide +kernel, by decide, rfl⟩
theorem ki_X9_stone : Cond.instanceMethod yX9_stone ∈ lw_tbl := List.mem_of_getElem? (i := 417) (by decide +kernel)
theorem kv_X9_stone : Cond.selects yX9_stone.cls yX9_stone yX9_stone ∈ lw_tbl := List.mem_of_getElem? (i := 418) (by decide +kernel)
theorem ok_X9_ofPerson : sh_ok mX9_ofPerson 2 := ⟨List.mem_of_getElem? (i := 427) (by decide +kernel), List.mem_of_getElem? (i := 53) (by decide +kernel), ⟨by decide, by decide⟩, by decide +kernel, by decide, rfl⟩
theorem ki_X9_ofPerson : Cond.instanceMethod yX9_ofPerson ∈ lw_tbl := List.mem_of_getElem? (i := 425) (by decide +kernel)
theorem kv_X9_ofPerson : Cond.selects yX9_ofPerson.cls yX9_ofPerson yX9_ofPerson ∈ lw_tbl := List.mem_of_getElem? (i := 426) (by decide +kernel)
theorem ok_X9_ofStone : sh_ok mX9_ofStone 2 := ⟨List.mem_of_getElem? (i := 446) (by decide +kernel), List.mem_of_getElem? (i := 53) (by decide +kernel), ⟨by decide, by decide⟩, by decide +kernel, by decide, rfl⟩
theorem ki_X9_ofStone : Cond.instanceMethod yX9_ofStone ∈ lw_tbl := List.mem_of_getElem? (i := 444) (by decide +kernel)
theorem kv_X9_ofStone : Cond.selects yX9_ofStone.cls yX9_ofStone yX9_ofStone ∈ lw_tbl := List.mem_of_getElem? (i := 445) (by decide +kernel)
theorem ok_X9_take : sh_ok mX9_take 2 := ⟨List.mem_of_getElem? (i := 454) (by decide +kernel), List.mem_of_getElem? (i := 53) (by decide +kernel), ⟨by decide, by decide⟩, by decide +kernel, by decide, rfl⟩
theorem ki_X9_take : Cond.instanceMethod yX9_take ∈ lw_tbl := List.mem_of_getElem? (i := 452) (by decide +kernel)
theorem kv_X9_take : Cond.selects yX9_take.cls yX9_take yX9_take ∈ lw_tbl := List.mem_of_getElem? (i := 453) (by decide +kernel)
theorem ok_X9_lay : sh_ok mX9_lay 2 := ⟨List.mem_of_getElem? (i := 470) (by decide +kernel), List.mem_of_getElem? (i := 53) (by decide +kernel), ⟨by decide, by decide⟩, by decide +kernel, by decide, rfl⟩
theorem ki_X9_lay : Cond.instanceMethod yX9_lay ∈ lw_tbl := List.mem_of_getElem? (i := 468) (by decide +kernel)
theorem kv_X9_lay : Cond.selects yX9_lay.cls yX9_lay yX9_lay ∈ lw_tbl := List.mem_of_getElem? (i := 469) (by decide +kernel)
theorem ok_X9_opens : sh_ok mX9_opens 2 := ⟨List.mem_of_getElem? (i := 474) (by decide +kernel), List.mem_of_getElem? (i := 53) (by decide +kernel), ⟨by decide, by decide⟩, by decide +kernel, by decide, rfl⟩
theorem ki_X9_opens : Cond.instanceMethod yX9_opens ∈ lw_tbl := List.mem_of_getElem? (i := 472) (by decide +kernel)
theorem kv_X9_opens : Cond.selects yX9_opens.cls yX9_opens yX9_opens ∈ lw_tbl := List.mem_of_getElem? (i := 473) (by decide +kernel)
theorem ok_X9_pass : sh_ok mX9_pass 2 := ⟨List.mem_of_getElem? (i := 505) (by decide +kernel), List.mem_of_getElem? (i := 53) (by decide +kernel), ⟨by decide, by decide⟩, by decide +kernel, by decide, rfl⟩
theorem ki_X9_pass : Cond.instanceMethod yX9_pass ∈ lw_tbl := List.mem_of_getElem? (i := 503) (by decide +kernel)
theorem kv_X9_pass : Cond.selects yX9_pass.cls yX9_pass yX9_pass ∈ lw_tbl := List.mem_of_getElem? (i := 504) (by decide +kernel)
theorem ok_X9_weigh : sh_ok mX9_weigh 2 := ⟨List.mem_of_getElem? (i := 514) (by decide +kernel), List.mem_of_getElem? (i := 53) (by decide +kernel), ⟨by decide, by decide⟩, by decide +kernel, by decide, rfl⟩
theorem ki_X9_weigh : Cond.instanceMethod yX9_weigh ∈ lw_tbl := List.mem_of_getElem? (i := 512) (by decide +kernel)
theorem kv_X9_weigh : Cond.selects yX9_weigh.cls yX9_weigh yX9_weigh ∈ lw_tbl := List.mem_of_getElem? (i := 513) (by decide +kernel)
theorem ok_X9_fewest : sh_ok mX9_fewest 3 := ⟨List.mem_of_getElem? (i := 518) (by decide +kernel), List.mem_of_getElem? (i := 53) (by decide +kernel), ⟨by decide, by decide⟩, by decide +kernel, by decide, rfl⟩
theorem ki_X9_fewest : Cond.instanceMethod yX9_fewest ∈ lw_tbl := List.mem_of_getElem? (i := 516) (by decide +kernel)
theorem kv_X9_fewest : Cond.selects yX9_fewest.cls yX9_fewest yX9_fewest ∈ lw_tbl := List.mem_of_getElem? (i := 517) (by decide +kernel)
theorem ok_X9_reach : sh_ok mX9_reach 2 := ⟨List.mem_of_getElem? (i := 562) (by decide +kernel), List.mem_of_getElem? (i := 53) (by decide +kernel), ⟨by decide, by decide⟩, by decide +kernel, by decide, rfl⟩
theorem ki_X9_reach : Cond.instanceMethod yX9_reach ∈ lw_tbl := List.mem_of_getElem? (i := 560) (by decide +kernel)
theorem kv_X9_reach : Cond.selects yX9_reach.cls yX9_reach yX9_reach ∈ lw_tbl := List.mem_of_getElem? (i := 561) (by decide +kernel)
theorem ok_X9_strangers : sh_ok mX9_strangers 3 := ⟨List.mem_of_getElem? (i := 574) (by decide +kernel), List.mem_of_getElem? (i := 53) (by decide +kernel), ⟨by decide, by decide⟩, by decide +kernel, by decide, rfl⟩
theorem ki_X9_strangers : Cond.instanceMethod yX9_strangers ∈ lw_tbl := List.mem_of_getElem? (i := 572) (by decide +kernel)
theorem kv_X9_strangers : Cond.selects yX9_strangers.cls yX9_strangers yX9_strangers ∈ lw_tbl := List.mem_of_getElem? (i := 573) (by decide +kernel)
theorem ok_X9_laid : sh_ok mX9_laid 3 := ⟨List.mem_of_getElem? (i := 583) (by decide +kernel), List.mem_of_getElem? (i := 53) (by decide +kernel), ⟨by decide, by decide⟩, by decide +kernel, by decide, rfl⟩
theorem ki_X9_laid : Cond.instanceMethod yX9_laid ∈ lw_tbl := List.mem_of_getElem? (i := 581) (by decide +kernel)
theorem kv_X9_laid : Cond.selects yX9_laid.cls yX9_laid yX9_laid ∈ lw_tbl := List.mem_of_getElem? (i := 582) (by decide +kernel)
theorem ok_X9_guest : sh_ok mX9_guest 2 := ⟨List.mem_of_getElem? (i := 594) (by decide +kernel), List.mem_of_getElem? (i := 53) (by decide +kernel), ⟨by decide, by decide⟩, by decide +kernel, by decide, rfl⟩
theorem ki_X9_guest : Cond.instanceMethod yX9_guest ∈ lw_tbl := List.mem_of_getElem? (i := 592) (by decide +kernel)
theorem kv_X9_guest : Cond.selects yX9_guest.cls yX9_guest yX9_guest ∈ lw_tbl := List.mem_of_getElem? (i := 593) (by decide +kernel)
theorem ok_X9_heard : sh_ok mX9_heard 4 := ⟨List.mem_of_getElem? (i := 602) (by decide +kernel), List.mem_of_getElem? (i := 53) (by decide +kernel), ⟨by decide, by decide⟩, by decide +kernel, by decide, rfl⟩
theorem ki_X9_heard : Cond.instanceMethod yX9_heard ∈ lw_tbl := List.mem_of_getElem? (i := 600) (by decide +kernel)
theorem kv_X9_heard : Cond.selects yX9_heard.cls yX9_heard yX9_heard ∈ lw_tbl := List.mem_of_getElem? (i := 601) (by decide +kernel)
theorem ok_X9_byStrangers : sh_ok mX9_byStrangers 5 := ⟨List.mem_of_getElem? (i := 614) (by decide +kernel), List.mem_of_getElem? (i := 53) (by decide +kernel), ⟨by decide, by decide⟩, by decide +kernel, by decide, rfl⟩
theorem ki_X9_byStrangers : Cond.instanceMethod yX9_byStrangers ∈ lw_tbl := List.mem_of_getElem? (i := 612) (by decide +kernel)
theorem kv_X9_byStrangers : Cond.selects yX9_byStrangers.cls yX9_byStrangers yX9_byStrangers ∈ lw_tbl := List.mem_of_getElem? (i := 613) (by decide +kernel)
theorem ok_X9_grows : sh_ok mX9_grows 3 := ⟨List.mem_of_getElem? (i := 618) (by decide +kernel), List.mem_of_getElem? (i := 53) (by decide +kernel), ⟨by decide, by decide⟩, by decide +kernel, by decide, rfl⟩
theorem ki_X9_grows : Cond.instanceMethod yX9_grows ∈ lw_tbl := List.mem_of_getElem? (i := 616) (by decide +kernel)
theorem kv_X9_grows : Cond.selects yX9_grows.cls yX9_grows yX9_grows ∈ lw_tbl := List.mem_of_getElem? (i := 617) (by decide +kernel)
theorem ok_X9_sheet : sh_ok mX9_sheet 3 := ⟨List.mem_of_getElem? (i := 622) (by decide +kernel), List.mem_of_getElem? (i := 53) (by decide +kernel), ⟨by decide, by decide⟩, by decide +kernel, by decide, rfl⟩
theorem ki_X9_sheet : Cond.instanceMethod yX9_sheet ∈ lw_tbl := List.mem_of_getElem? (i := 620) (by decide +kernel)
theorem kv_X9_sheet : Cond.selects yX9_sheet.cls yX9_sheet yX9_sheet ∈ lw_tbl := List.mem_of_getElem? (i := 621) (by decide +kernel)
theorem ok_X9_lose : sh_ok mX9_lose 1 := ⟨List.mem_of_getElem? (i := 630) (by decide +kernel), List.mem_of_getElem? (i := 53) (by decide +kernel), ⟨by decide, by decide⟩, by decide +kernel, by decide, rfl⟩
theorem ki_X9_lose : Cond.instanceMethod yX9_lose ∈ lw_tbl := List.mem_of_getElem? (i := 628) (by decide +kernel)
theorem kv_X9_lose : Cond.selects yX9_lose.cls yX9_lose yX9_lose ∈ lw_tbl := List.mem_of_getElem? (i := 629) (by decide +kernel)
theorem ok_X9_put : sh_ok mX9_put 3 := ⟨List.mem_of_getElem? (i := 638) (by decide +kernel), List.mem_of_getElem? (i := 53) (by decide +kernel), ⟨by decide, by decide⟩, by decide +kernel, by decide, rfl⟩
theorem ki_X9_put : Cond.instanceMethod yX9_put ∈ lw_tbl := List.mem_of_getElem? (i := 636) (by decide +kernel)
theorem kv_X9_put : Cond.selects yX9_put.cls yX9_put yX9_put ∈ lw_tbl := List.mem_of_getElem? (i := 637) (by decide +kernel)
theorem ok_X9_cell : sh_ok mX9_cell 3 := ⟨List.mem_of_getElem? (i := 646) (by decide +kernel), List.mem_of_getElem? (i := 53) (by decide +kernel), ⟨by decide, by decide⟩, by decide +kernel, by decide, rfl⟩
theorem ki_X9_cell : Cond.instanceMethod yX9_cell ∈ lw_tbl := List.mem_of_getElem? (i := 644) (by decide +kernel)
theorem kv_X9_cell : Cond.selects yX9_cell.cls yX9_cell yX9_cell ∈ lw_tbl := List.mem_of_getElem? (i := 645) (by decide +kernel)
theorem ok_X9_copy : sh_ok mX9_copy 5 := ⟨List.mem_of_getElem? (i := 651) (by decide +kernel), List.mem_of_getElem? (i := 53) (by decide +kernel), ⟨by decide, by decide⟩, by decide +kernel, by decide, rfl⟩
theorem ki_X9_copy : Cond.instanceMethod yX9_copy ∈ lw_tbl := List.mem_of_getElem? (i := 649) (by decide +kernel)
theorem kv_X9_copy : Cond.selects yX9_copy.cls yX9_copy yX9_copy ∈ lw_tbl := List.mem_of_getElem? (i := 650) (by decide +kernel)
theorem ok_X9_tell : sh_ok mX9_tell 1 := ⟨List.mem_of_getElem? (i := 658) (by decide +kernel), List.mem_of_getElem? (i := 53) (by decide +kernel), ⟨by decide, by decide⟩, by decide +kernel, by decide, rfl⟩
theorem ki_X9_tell : Cond.instanceMethod yX9_tell ∈ lw_tbl := List.mem_of_getElem? (i := 656) (by decide +kernel)
theorem kv_X9_tell : Cond.selects yX9_tell.cls yX9_tell yX9_tell ∈ lw_tbl := List.mem_of_getElem? (i := 657) (by decide +kernel)
theorem ok_X9_ring : sh_ok mX9_ring 1 := ⟨List.mem_of_getElem? (i := 688) (by decide +kernel), List.mem_of_getElem? (i := 53) (by decide +kernel), ⟨by decide, by decide⟩, by decide +kernel, by decide, rfl⟩
theorem ki_X9_ring : Cond.instanceMethod yX9_ring ∈ lw_tbl := List.mem_of_getElem? (i := 686) (by decide +kernel)
theorem kv_X9_ring : Cond.selects yX9_ring.cls yX9_ring yX9_ring ∈ lw_tbl := List.mem_of_getElem? (i := 687) (by decide +kernel)
theorem ok_X9_as : sh_ok mX9_as 2 := ⟨List.mem_of_getElem? (i := 701) (by decide +kernel), List.mem_of_getElem? (i := 53) (by decide +kernel), ⟨by decide, by decide⟩, by decide +kernel, by decide, rfl⟩
theorem ki_X9_as : Cond.instanceMethod yX9_as ∈ lw_tbl := List.mem_of_getElem? (i := 699) (by decide +kernel)
theorem kv_X9_as : Cond.selects yX9_as.cls yX9_as yX9_as ∈ lw_tbl := List.mem_of_getElem? (i := 700) (by decide +kernel)
theorem ok_X9_trace : sh_ok mX9_trace 0 := ⟨List.mem_of_getElem? (i := 706) (by decide +kernel), List.mem_of_getElem? (i := 53) (by decide +kernel), ⟨by decide, by decide⟩, by decide +kernel, by decide, rfl⟩
theorem ki_X9_trace : Cond.instanceMethod yX9_trace ∈ lw_tbl := List.mem_of_getElem? (i := 704) (by decide +kernel)
theorem kv_X9_trace : Cond.selects yX9_trace.cls yX9_trace yX9_trace ∈ lw_tbl := List.mem_of_getElem? (i := 705) (by decide +kernel)
theorem ok_X9_fault : sh_ok mX9_fault 0 := ⟨List.mem_of_getElem? (i := 710) (by decide +kernel), List.mem_of_getElem? (i := 53) (by decide +kernel), ⟨by decide, by decide⟩, by decide +kernel, by decide, rfl⟩
theorem ki_X9_fault : Cond.instanceMethod yX9_fault ∈ lw_tbl := List.mem_of_getElem? (i := 708) (by decide +kernel)
theorem kv_X9_fault : Cond.selects yX9_fault.cls yX9_fault yX9_fault ∈ lw_tbl := List.mem_of_getElem? (i := 709) (by decide +kernel)
theorem ok_X9_many : sh_ok mX9_many 1 := ⟨List.mem_of_getElem? (i := 714) (by decide +kernel), List.mem_of_getElem? (i := 53) (by decide +kernel), ⟨by decide, by decide⟩, by decide +kernel, by decide, rfl⟩
theorem ki_X9_many : Cond.instanceMethod yX9_many ∈ lw_tbl := List.mem_of_getElem? (i := 712) (by decide +kernel)
theorem kv_X9_many : Cond.selects yX9_many.cls yX9_many yX9_many ∈ lw_tbl := List.mem_of_getElem? (i := 713) (by decide +kernel)
theorem ok_X9_isSheet : sh_ok mX9_isSheet 1 := ⟨List.mem_of_getElem? (i := 224) (by decide +kernel), List.mem_of_getElem? (i := 53) (by decide +kernel), ⟨by decide, by decide⟩, by decide +kernel, by decide, rfl⟩
theorem ks_X9_isSheet : Cond.static yX9_isSheet ∈ lw_tbl := List.mem_of_getElem? (i := 223) (by decide +kernel)
theorem ok_X9_isLane : sh_ok mX9_isLane 1 := ⟨List.mem_of_getElem? (i := 227) (by decide +kernel), List.mem_of_getElem? (i := 53) (by decide +kernel), ⟨by decide, by decide⟩, by decide +kernel, by decide, rfl⟩
theorem ks_X9_isLane : Cond.static yX9_isLane ∈ lw_tbl := List.mem_of_getElem? (i := 226) (by decide +kernel)
theorem ok_X9_isPersonsWeight : sh_ok mX9_isPersonsWeight 1 := ⟨List.mem_of_getElem? (i := 411) (by decide +kernel), List.mem_of_getElem? (i := 53) (by decide +kernel), ⟨by decide, by decide⟩, by decide +kernel, by decide, rfl⟩
theorem ks_X9_isPersonsWeight : Cond.static yX9_isPersonsWeight ∈ lw_tbl := List.mem_of_getElem? (i := 410) (by decide +kernel)
theorem ok_X9_faulted : sh_ok mX9_faulted 1 := ⟨List.mem_of_getElem? (i := 235) (by decide +kernel), List.mem_of_getElem? (i := 53) (by decide +kernel), ⟨by decide, by decide⟩, by decide +kernel, by decide, rfl⟩
theorem ki_X9_faulted : Cond.instanceMethod yX9_faulted ∈ lw_tbl := List.mem_of_getElem? (i := 234) (by decide +kernel)
theorem kv_X9_faulted : Cond.selects yX9_faulted.cls yX9_faulted yX9_faulted ∈ lw_tbl := List.mem_of_getElem? (i := 1) (by decide +kernel)
theorem ok_X9_cellsRefused : sh_ok mX9_cellsRefused 4 := ⟨List.mem_of_getElem? (i := 221) (by decide +kernel), List.mem_of_getElem? (i := 53) (by decide +kernel), ⟨by decide, by decide⟩, by decide +kernel, by decide, rfl⟩
theorem ki_X9_cellsRefused : Cond.instanceMethod yX9_cellsRefused ∈ lw_tbl := List.mem_of_getElem? (i := 220) (by decide +kernel)
theorem kv_X9_cellsRefused : Cond.selects yX9_cellsRefused.cls yX9_cellsRefused yX9_cellsRefused ∈ lw_tbl := List.mem_of_getElem? (i := 0) (by decide +kernel)
theorem ok_X9_doorsRefused : sh_ok mX9_doorsRefused 4 := ⟨List.mem_of_getElem? (i := 606) (by decide +kernel), List.mem_of_getElem? (i := 53) (by decide +kernel), ⟨by decide, by decide⟩, by decide +kernel, by decide, rfl⟩
theorem ki_X9_doorsRefused : Cond.instanceMethod yX9_doorsRefused ∈ lw_tbl := List.mem_of_getElem? (i := 605) (by decide +kernel)
theorem kv_X9_doorsRefused : Cond.selects yX9_doorsRefused.cls yX9_doorsRefused yX9_doorsRefused ∈ lw_tbl := List.mem_of_getElem? (i := 13) (by decide +kernel)
theorem ok_X9_passesAll : sh_ok mX9_passesAll 5 := ⟨List.mem_of_getElem? (i := 610) (by decide +kernel), List.mem_of_getElem? (i := 53) (by decide +kernel), ⟨by decide, by decide⟩, by decide +kernel, by decide, rfl⟩
theorem ki_X9_passesAll : Cond.instanceMethod yX9_passesAll ∈ lw_tbl := List.mem_of_getElem? (i := 609) (by decide +kernel)
theorem kv_X9_passesAll : Cond.selects yX9_passesAll.cls yX9_passesAll yX9_passesAll ∈ lw_tbl := List.mem_of_getElem? (i := 14) (by decide +kernel)
theorem ok_X9_comesChanged : sh_ok mX9_comesChanged 3 := ⟨List.mem_of_getElem? (i := 598) (by decide +kernel), List.mem_of_getElem? (i := 53) (by decide +kernel), ⟨by decide, by decide⟩, by decide +kernel, by decide, rfl⟩
theorem ki_X9_comesChanged : Cond.instanceMethod yX9_comesChanged ∈ lw_tbl := List.mem_of_getElem? (i := 597) (by decide +kernel)
theorem kv_X9_comesChanged : Cond.selects yX9_comesChanged.cls yX9_comesChanged yX9_comesChanged ∈ lw_tbl := List.mem_of_getElem? (i := 12) (by decide +kernel)
theorem ok_X9_comesWith : sh_ok mX9_comesWith 4 := ⟨List.mem_of_getElem? (i := 587) (by decide +kernel), List.mem_of_getElem? (i := 53) (by decide +kernel), ⟨by decide, by decide⟩, by decide +kernel, by decide, rfl⟩
theorem ki_X9_comesWith : Cond.instanceMethod yX9_comesWith ∈ lw_tbl := List.mem_of_getElem? (i := 586) (by decide +kernel)
theorem kv_X9_comesWith : Cond.selects yX9_comesWith.cls yX9_comesWith yX9_comesWith ∈ lw_tbl := List.mem_of_getElem? (i := 11) (by decide +kernel)
theorem ok_X9_ofLaidRow : sh_ok mX9_ofLaidRow 3 := ⟨List.mem_of_getElem? (i := 590) (by decide +kernel), List.mem_of_getElem? (i := 53) (by decide +kernel), ⟨by decide, by decide⟩, by decide +kernel, by decide, rfl⟩
theorem ks_X9_ofLaidRow : Cond.static yX9_ofLaidRow ∈ lw_tbl := List.mem_of_getElem? (i := 589) (by decide +kernel)
theorem ok_X10_init : sh_ok mX10_init 0 := ⟨List.mem_of_getElem? (i := 719) (by decide +kernel), List.mem_of_getElem? (i := 59) (by decide +kernel), ⟨by decide, by decide⟩, by decide +kernel, by decide, rfl⟩
theorem ki_X10_init : Cond.instanceMethod yX10_init ∈ lw_tbl := List.mem_of_getElem? (i := 718) (by decide +kernel)
theorem ok_X10_in : sh_ok mX10_in 3 := ⟨List.mem_of_getElem? (i := 842) (by decide +kernel), List.mem_of_getElem? (i := 59) (by decide +kernel), ⟨by decide, by decide⟩, by decide +kernel, by decide, rfl⟩
theorem ks_X10_in : Cond.static yX10_in ∈ lw_tbl := List.mem_of_getElem? (i := 841) (by decide +kernel)
theorem ok_X10_lost : sh_ok mX10_lost 0 := ⟨List.mem_of_getElem? (i := 1082) (by decide +kernel), List.mem_of_getElem? (i := 59) (by decide +kernel), ⟨by decide, by decide⟩, by decide +kernel, by decide, rfl⟩
theorem ks_X10_lost : Cond.static yX10_lost ∈ lw_tbl := List.mem_of_getElem? (i := 1081) (by decide +kernel)
theorem ok_X10_refused : sh_ok mX10_refused 1 := ⟨List.mem_of_getElem? (i := 846) (by decide +kernel), List.mem_of_getElem? (i := 59) (by decide +kernel), ⟨by decide, by decide⟩, by decide +kernel, by decide, rfl⟩
theorem ki_X10_refused : Cond.instanceMethod yX10_refused ∈ lw_tbl := List.mem_of_getElem? (i := 845) (by decide +kernel)
theorem kv_X10_refused : Cond.selects yX10_refused.cls yX10_refused yX10_refused ∈ lw_tbl := List.mem_of_getElem? (i := 16) (by decide +kernel)
theorem ok_X10_failed : sh_ok mX10_failed 1 := ⟨List.mem_of_getElem? (i := 851) (by decide +kernel), List.mem_of_getElem? (i := 59) (by decide +kernel), ⟨by decide, by decide⟩, by decide +kernel, by decide, rfl⟩
theorem ki_X10_failed : Cond.instanceMethod yX10_failed ∈ lw_tbl := List.mem_of_getElem? (i := 850) (by decide +kernel)
theorem kv_X10_failed : Cond.selects yX10_failed.cls yX10_failed yX10_failed ∈ lw_tbl := List.mem_of_getElem? (i := 17) (by decide +kernel)
theorem ok_X10_failedLong : sh_ok mX10_failedLong 1 := ⟨List.mem_of_getElem? (i := 1087) (by decide +kernel), List.mem_of_getElem? (i := 59) (by decide +kernel), ⟨by decide, by decide⟩, by decide +kernel, by decide, rfl⟩
theorem ki_X10_failedLong : Cond.instanceMethod yX10_failedLong ∈ lw_tbl := List.mem_of_getElem? (i := 1086) (by decide +kernel)
theorem kv_X10_failedLong : Cond.selects yX10_failedLong.cls yX10_failedLong yX10_failedLong ∈ lw_tbl := List.mem_of_getElem? (i := 50) (by decide +kernel)
theorem ok_X10_barred : sh_ok mX10_barred 4 := ⟨List.mem_of_getElem? (i := 835) (by decide +kernel), List.mem_of_getElem? (i := 59) (by decide +kernel), ⟨by decide, by decide⟩, by decide +kernel, by decide, rfl⟩
theorem ki_X10_barred : Cond.instanceMethod yX10_barred ∈ lw_tbl := List.mem_of_getElem? (i := 834) (by decide +kernel)
theorem kv_X10_barred : Cond.selects yX10_barred.cls yX10_barred yX10_barred ∈ lw_tbl := List.mem_of_getElem? (i := 15) (by decide +kernel)
theorem ok_X10_noRoom : sh_ok mX10_noRoom 1 := ⟨List.mem_of_getElem? (i := 898) (by decide +kernel), List.mem_of_getElem? (i := 59) (by decide +kernel), ⟨by decide, by decide⟩, by decide +kernel, by decide, rfl⟩
theorem ki_X10_noRoom : Cond.instanceMethod yX10_noRoom ∈ lw_tbl := List.mem_of_getElem? (i := 897) (by decide +kernel)
theorem kv_X10_noRoom : Cond.selects yX10_noRoom.cls yX10_noRoom yX10_noRoom ∈ lw_tbl := List.mem_of_getElem? (i := 26) (by decide +kernel)
theorem ok_X10_noDoor : sh_ok mX10_noDoor 1 := ⟨List.mem_of_getElem? (i := 882) (by decide +kernel), List.mem_of_getElem? (i := 59) (by decide +kernel), ⟨by decide, by decide⟩, by decide +kernel, by decide, rfl⟩
theorem ki_X10_noDoor : Cond.instanceMethod yX10_noDoor ∈ lw_tbl := List.mem_of_getElem? (i := 881) (by decide +kernel)
theorem kv_X10_noDoor : Cond.selects yX10_noDoor.cls yX10_noDoor yX10_noDoor ∈ lw_tbl := List.mem_of_getElem? (i := 23) (by decide +kernel)
theorem ok_X10_codeAt : sh_ok mX10_codeAt 2 := ⟨List.mem_of_getElem? (i := 862) (by decide +kernel), List.mem_of_getElem? (i := 59) (by decide +kernel), ⟨by decide, by decide⟩, by decide +kernel, by decide, rfl⟩
theorem ki_X10_codeAt : Cond.instanceMethod yX10_codeAt ∈ lw_tbl := List.mem_of_getElem? (i := 861) (by decide +kernel)
theorem kv_X10_codeAt : Cond.selects yX10_codeAt.cls yX10_codeAt yX10_codeAt ∈ lw_tbl := List.mem_of_getElem? (i := 19) (by decide +kernel)
theorem ok_X10_figure : sh_ok mX10_figure 4 := ⟨List.mem_of_getElem? (i := 866) (by decide +kernel), List.mem_of_getElem? (i := 59) (by decide +kernel), ⟨by decide, by decide⟩, by decide +kernel, by decide, rfl⟩
theorem ki_X10_figure : Cond.instanceMethod yX10_figure ∈ lw_tbl := List.mem_of_getElem? (i := 865) (by decide +kernel)
theorem kv_X10_figure : Cond.selects yX10_figure.cls yX10_figure yX10_figure ∈ lw_tbl := List.mem_of_getElem? (i := 20) (by decide +kernel)
theorem ok_X10_readsWeight : sh_ok mX10_readsWeight 2 := ⟨List.mem_of_getElem? (i := 874) (by decide +kernel), List.mem_of_getElem? (i := 59) (by decide +kernel), ⟨by decide, by decide⟩, by decide +kernel, by decide, rfl⟩
theorem ki_X10_readsWeight : Cond.instanceMethod yX10_readsWeight ∈ lw_tbl := List.mem_of_getElem? (i := 873) (by decide +kernel)
theorem kv_X10_readsWeight : Cond.selects yX10_readsWeight.cls yX10_readsWeight yX10_readsWeight ∈ lw_tbl := List.mem_of_getElem? (i := 22) (by decide +kernel)
theorem ok_X10_readsDoor : sh_ok mX10_readsDoor 2 := ⟨List.mem_of_getElem? (i := 870) (by decide +kernel), List.mem_of_getElem? (i := 59) (by decide +kernel), ⟨by decide, by decide⟩, by decide +kernel, by decide, rfl⟩
theorem ki_X10_readsDoor : Cond.instanceMethod yX10_readsDoor ∈ lw_tbl := List.mem_of_getElem? (i := 869) (by decide +kernel)
theorem kv_X10_readsDoor : Cond.selects yX10_readsDoor.cls yX10_readsDoor yX10_readsDoor ∈ lw_tbl := List.mem_of_getElem? (i := 21) (by decide +kernel)
theorem ok_X10_readsHouse : sh_ok mX10_readsHouse 2 := ⟨List.mem_of_getElem? (i := 858) (by decide +kernel), List.mem_of_getElem? (i := 59) (by decide +kernel), ⟨by decide, by decide⟩, by decide +kernel, by decide, rfl⟩
theorem ki_X10_readsHouse : Cond.instanceMethod yX10_readsHouse ∈ lw_tbl := List.mem_of_getElem? (i := 857) (by decide +kernel)
theorem kv_X10_readsHouse : Cond.selects yX10_readsHouse.cls yX10_readsHouse yX10_readsHouse ∈ lw_tbl := List.mem_of_getElem? (i := 18) (by decide +kernel)
theorem ok_X10_house : sh_ok mX10_house 4 := ⟨List.mem_of_getElem? (i := 831) (by decide +kernel), List.mem_of_getElem? (i := 59) (by decide +kernel), ⟨by decide, by decide⟩, by decide +kernel, by decide, rfl⟩
theorem ki_X10_house : Cond.instanceMethod yX10_house ∈ lw_tbl := List.mem_of_getElem? (i := 829) (by decide +kernel)
theorem kv_X10_house : Cond.selects yX10_house.cls yX10_house yX10_house ∈ lw_tbl := List.mem_of_getElem? (i := 830) (by decide +kernel)
theorem ok_X10_slackOf : sh_ok mX10_slackOf 1 := ⟨List.mem_of_getElem? (i := 890) (by decide +kernel), List.mem_of_getElem? (i := 59) (by decide +kernel), ⟨by decide, by decide⟩, by decide +kernel, by decide, rfl⟩
theorem ki_X10_slackOf : Cond.instanceMethod yX10_slackOf ∈ lw_tbl := List.mem_of_getElem? (i := 889) (by decide +kernel)
theorem kv_X10_slackOf : Cond.selects yX10_slackOf.cls yX10_slackOf yX10_slackOf ∈ lw_tbl := List.mem_of_getElem? (i := 25) (by decide +kernel)
theorem ok_X10_asks : sh_ok mX10_asks 2 := ⟨List.mem_of_getElem? (i := 886) (by decide +kernel), List.mem_of_getElem? (i := 59) (by decide +kernel), ⟨by decide, by decide⟩, by decide +kernel, by decide, rfl⟩
theorem ki_X10_asks : Cond.instanceMethod yX10_asks ∈ lw_tbl := List.mem_of_getElem? (i := 885) (by decide +kernel)
theorem kv_X10_asks : Cond.selects yX10_asks.cls yX10_asks yX10_asks ∈ lw_tbl := List.mem_of_getElem? (i := 24) (by decide +kernel)
theorem ok_X10_isOpen : sh_ok mX10_isOpen 3 := ⟨List.mem_of_getElem? (i := 968) (by decide +kernel), List.mem_of_getElem? (i := 59) (by decide +kernel), ⟨by decide, by decide⟩, by decide +kernel, by decide, rfl⟩
theorem ki_X10_isOpen : Cond.instanceMethod yX10_isOpen ∈ lw_tbl := List.mem_of_getElem? (i := 967) (by decide +kernel)
theorem kv_X10_isOpen : Cond.selects yX10_isOpen.cls yX10_isOpen yX10_isOpen ∈ lw_tbl := List.mem_of_getElem? (i := 36) (by decide +kernel)
theorem ok_X10_sideIn : sh_ok mX10_sideIn 2 := ⟨List.mem_of_getElem? (i := 956) (by decide +kernel), List.mem_of_getElem? (i := 59) (by decide +kernel), ⟨by decide, by decide⟩, by decide +kernel, by decide, rfl⟩
theorem ki_X10_sideIn : Cond.instanceMethod yX10_sideIn ∈ lw_tbl := List.mem_of_getElem? (i := 955) (by decide +kernel)
theorem kv_X10_sideIn : Cond.selects yX10_sideIn.cls yX10_sideIn yX10_sideIn ∈ lw_tbl := List.mem_of_getElem? (i := 33) (by decide +kernel)
theorem ok_X10_throughTo : sh_ok mX10_throughTo 3 := ⟨List.mem_of_getElem? (i := 964) (by decide +kernel), List.mem_of_getElem? (i := 59) (by decide +kernel), ⟨by decide, by decide⟩, by decide +kernel, by decide, rfl⟩
theorem ki_X10_throughTo : Cond.instanceMethod yX10_throughTo ∈ lw_tbl := List.mem_of_getElem? (i := 963) (by decide +kernel)
theorem kv_X10_throughTo : Cond.selects yX10_throughTo.cls yX10_throughTo yX10_throughTo ∈ lw_tbl := List.mem_of_getElem? (i := 35) (by decide +kernel)
theorem ok_X10_ofDoor : sh_ok mX10_ofDoor 2 := ⟨List.mem_of_getElem? (i := 878) (by decide +kernel), List.mem_of_getElem? (i := 59) (by decide +kernel), ⟨by decide, by decide⟩, by decide +kernel, by decide, rfl⟩
theorem ki_X10_ofDoor : Cond.instanceMethod yX10_ofDoor ∈ lw_tbl := List.mem_of_getElem? (i := 876) (by decide +kernel)
theorem kv_X10_ofDoor : Cond.selects yX10_ofDoor.cls yX10_ofDoor yX10_ofDoor ∈ lw_tbl := List.mem_of_getElem? (i := 877) (by decide +kernel)
theorem ok_X10_noPerson : sh_ok mX10_noPerson 1 := ⟨List.mem_of_getElem? (i := 913) (by decide +kernel), List.mem_of_getElem? (i := 59) (by decide +kernel), ⟨by decide, by decide⟩, by decide +kernel, by decide, rfl⟩
theorem ki_X10_noPerson : Cond.instanceMethod yX10_noPerson ∈ lw_tbl := List.mem_of_getElem? (i := 912) (by decide +kernel)
theorem kv_X10_noPerson : Cond.selects yX10_noPerson.cls yX10_noPerson yX10_noPerson ∈ lw_tbl := List.mem_of_getElem? (i := 27) (by decide +kernel)
theorem ok_X10_noStone : sh_ok mX10_noStone 1 := ⟨List.mem_of_getElem? (i := 929) (by decide +kernel), List.mem_of_getElem? (i := 59) (by decide +kernel), ⟨by decide, by decide⟩, by decide +kernel, by decide, rfl⟩
theorem ki_X10_noStone : Cond.instanceMethod yX10_noStone ∈ lw_tbl := List.mem_of_getElem? (i := 928) (by decide +kernel)
theorem kv_X10_noStone : Cond.selects yX10_noStone.cls yX10_noStone yX10_noStone ∈ lw_tbl := List.mem_of_getElem? (i := 30) (by decide +kernel)
theorem ok_X10_person : sh_ok mX10_person 2 := ⟨List.mem_of_getElem? (i := 894) (by decide +kernel), List.mem_of_getElem? (i := 59) (by decide +kernel), ⟨by decide, by decide⟩, by decide +kernel, by decide, rfl⟩
theorem ki_X10_person : Cond.instanceMethod yX10_person ∈ lw_tbl := List.mem_of_getElem? (i := 892) (by decide +kernel)
theorem kv_X10_person : Cond.selects yX10_person.cls yX10_person yX10_person ∈ lw_tbl := List.mem_of_getElem? (i := 893) (by decide +kernel)
theorem ok_X10_stone : sh_ok mX10_stone 2 := ⟨List.mem_of_getElem? (i := 904) (by decide +kernel), List.mem_of_getElem? (i := 59) (by decide +kernel), ⟨by decide, by decide⟩, by decide +kernel, by decide, rfl⟩
theorem ki_X10_stone : Cond.instanceMethod yX10_stone ∈ lw_tbl := List.mem_of_getElem? (i := 902) (by decide +kernel)
theorem kv_X10_stone : Cond.selects yX10_stone.cls yX10_stone yX10_stone ∈ lw_tbl := List.mem_of_getElem? (i := 903) (by decide +kernel)
theorem ok_X10_carriedBy : sh_ok mX10_carriedBy 1 := ⟨List.mem_of_getElem? (i := 917) (by decide +kernel), List.mem_of_getElem? (i := 59) (by decide +kernel), ⟨by decide, by decide⟩, by decide +kernel, by decide, rfl⟩
theorem ki_X10_carriedBy : Cond.instanceMethod yX10_carriedBy ∈ lw_tbl := List.mem_of_getElem? (i := 916) (by decide +kernel)
theorem kv_X10_carriedBy : Cond.selects yX10_carriedBy.cls yX10_carriedBy yX10_carriedBy ∈ lw_tbl := List.mem_of_getElem? (i := 28) (by decide +kernel)
theorem ok_X10_bits : sh_ok mX10_bits 1 := ⟨List.mem_of_getElem? (i := 936) (by decide +kernel), List.mem_of_getElem? (i := 59) (by decide +kernel), ⟨by decide, by decide⟩, by decide +kernel, by decide, rfl⟩
theorem ks_X10_bits : Cond.static yX10_bits ∈ lw_tbl := List.mem_of_getElem? (i := 935) (by decide +kernel)
theorem ok_X10_withStones : sh_ok mX10_withStones 1 := ⟨List.mem_of_getElem? (i := 921) (by decide +kernel), List.mem_of_getElem? (i := 59) (by decide +kernel), ⟨by decide, by decide⟩, by decide +kernel, by decide, rfl⟩
theorem ki_X10_withStones : Cond.instanceMethod yX10_withStones ∈ lw_tbl := List.mem_of_getElem? (i := 920) (by decide +kernel)
theorem kv_X10_withStones : Cond.selects yX10_withStones.cls yX10_withStones yX10_withStones ∈ lw_tbl := List.mem_of_getElem? (i := 29) (by decide +kernel)
theorem ok_X10_ofPerson : sh_ok mX10_ofPerson 2 := ⟨List.mem_of_getElem? (i := 909) (by decide +kernel), List.mem_of_getElem? (i := 59) (by decide +kernel), ⟨by decide, by decide⟩, by decide +kernel, by decide, rfl⟩
theorem ki_X10_ofPerson : Cond.instanceMethod yX10_ofPerson ∈ lw_tbl := List.mem_of_getElem? (i := 907) (by decide +kernel)
theorem kv_X10_ofPerson : Cond.selects yX10_ofPerson.cls yX10_ofPerson yX10_ofPerson ∈ lw_tbl := List.mem_of_getElem? (i := 908) (by decide +kernel)
theorem ok_X10_ofStone : sh_ok mX10_ofStone 2 := ⟨List.mem_of_getElem? (i := 925) (by decide +kernel), List.mem_of_getElem? (i := 59) (by decide +kernel), ⟨by decide, by decide⟩, by decide +kernel, by decide, rfl⟩
theorem ki_X10_ofStone : Cond.instanceMethod yX10_ofStone ∈ lw_tbl := List.mem_of_getElem? (i := 923) (by decide +kernel)
theorem kv_X10_ofStone : Cond.selects yX10_ofStone.cls yX10_ofStone yX10_ofStone ∈ lw_tbl := List.mem_of_getElem? (i := 924) (by decide +kernel)
theorem ok_X10_take : sh_ok mX10_take 2 := ⟨List.mem_of_getElem? (i := 933) (by decide +kernel), List.mem_of_getElem? (i := 59) (by decide +kernel), ⟨by decide, by decide⟩, by decide +kernel, by decide, rfl⟩
theorem ki_X10_take : Cond.instanceMethod yX10_take ∈ lw_tbl := List.mem_of_getElem? (i := 931) (by decide +kernel)
theorem kv_X10_take : Cond.selects yX10_take.cls yX10_take yX10_take ∈ lw_tbl := List.mem_of_getElem? (i := 932) (by decide +kernel)
theorem ok_X10_lay : sh_ok mX10_lay 2 := ⟨List.mem_of_getElem? (i := 940) (by decide +kernel), List.mem_of_getElem? (i := 59) (by decide +kernel), ⟨by decide, by decide⟩, by decide +kernel, by decide, rfl⟩
theorem ki_X10_lay : Cond.instanceMethod yX10_lay ∈ lw_tbl := List.mem_of_getElem? (i := 938) (by decide +kernel)
theorem kv_X10_lay : Cond.selects yX10_lay.cls yX10_lay yX10_lay ∈ lw_tbl := List.mem_of_getElem? (i := 939) (by decide +kernel)
theorem ok_X10_roomOf : sh_ok mX10_roomOf 1 := ⟨List.mem_of_getElem? (i := 952) (by decide +kernel), List.mem_of_getElem? (i := 59) (by decide +kernel), ⟨by decide, by decide⟩, by decide +kernel, by decide, rfl⟩
theorem ki_X10_roomOf : Cond.instanceMethod yX10_roomOf ∈ lw_tbl := List.mem_of_getElem? (i := 951) (by decide +kernel)
theorem kv_X10_roomOf : Cond.selects yX10_roomOf.cls yX10_roomOf yX10_roomOf ∈ lw_tbl := List.mem_of_getElem? (i := 32) (by decide +kernel)
theorem ok_X10_weightOfAll : sh_ok mX10_weightOfAll 1 := ⟨List.mem_of_getElem? (i := 960) (by decide +kernel), List.mem_of_getElem? (i := 59) (by decide +kernel), ⟨by decide, by decide⟩, by decide +kernel, by decide, rfl⟩
theorem ki_X10_weightOfAll : Cond.instanceMethod yX10_weightOfAll ∈ lw_tbl := List.mem_of_getElem? (i := 959) (by decide +kernel)
theorem kv_X10_weightOfAll : Cond.selects yX10_weightOfAll.cls yX10_weightOfAll yX10_weightOfAll ∈ lw_tbl := List.mem_of_getElem? (i := 34) (by decide +kernel)
theorem ok_X10_partyBarred : sh_ok mX10_partyBarred 2 := ⟨List.mem_of_getElem? (i := 948) (by decide +kernel), List.mem_of_getElem? (i := 59) (by decide +kernel), ⟨by decide, by decide⟩, by decide +kernel, by decide, rfl⟩
theorem ki_X10_partyBarred : Cond.instanceMethod yX10_partyBarred ∈ lw_tbl := List.mem_of_getElem? (i := 947) (by decide +kernel)
theorem kv_X10_partyBarred : Cond.selects yX10_partyBarred.cls yX10_partyBarred yX10_partyBarred ∈ lw_tbl := List.mem_of_getElem? (i := 31) (by decide +kernel)
theorem ok_X10_opens : sh_ok mX10_opens 2 := ⟨List.mem_of_getElem? (i := 944) (by decide +kernel), List.mem_of_getElem? (i := 59) (by decide +kernel), ⟨by decide, by decide⟩, by decide +kernel, by decide, rfl⟩
theorem ki_X10_opens : Cond.instanceMethod yX10_opens ∈ lw_tbl := List.mem_of_getElem? (i := 942) (by decide +kernel)
theorem kv_X10_opens : Cond.selects yX10_opens.cls yX10_opens yX10_opens ∈ lw_tbl := List.mem_of_getElem? (i := 943) (by decide +kernel)
theorem ok_X10_pass : sh_ok mX10_pass 2 := ⟨List.mem_of_getElem? (i := 972) (by decide +kernel), List.mem_of_getElem? (i := 59) (by decide +kernel), ⟨by decide, by decide⟩, by decide +kernel, by decide, rfl⟩
theorem ki_X10_pass : Cond.instanceMethod yX10_pass ∈ lw_tbl := List.mem_of_getElem? (i := 970) (by decide +kernel)
theorem kv_X10_pass : Cond.selects yX10_pass.cls yX10_pass yX10_pass ∈ lw_tbl := List.mem_of_getElem? (i := 971) (by decide +kernel)
theorem ok_X10_weigh : sh_ok mX10_weigh 2 := ⟨List.mem_of_getElem? (i := 976) (by decide +kernel), List.mem_of_getElem? (i := 59) (by decide +kernel), ⟨by decide, by decide⟩, by decide +kernel, by decide, rfl⟩
theorem ki_X10_weigh : Cond.instanceMethod yX10_weigh ∈ lw_tbl := List.mem_of_getElem? (i := 974) (by decide +kernel)
theorem kv_X10_weigh : Cond.selects yX10_weigh.cls yX10_weigh yX10_weigh ∈ lw_tbl := List.mem_of_getElem? (i := 975) (by decide +kernel)
theorem ok_X10_stateNow : sh_ok mX10_stateNow 0 := ⟨List.mem_of_getElem? (i := 992) (by decide +kernel), List.mem_of_getElem? (i := 59) (by decide +kernel), ⟨by decide, by decide⟩, by decide +kernel, by decide, rfl⟩
theorem ki_X10_stateNow : Cond.instanceMethod yX10_stateNow ∈ lw_tbl := List.mem_of_getElem? (i := 991) (by decide +kernel)
theorem kv_X10_stateNow : Cond.selects yX10_stateNow.cls yX10_stateNow yX10_stateNow ∈ lw_tbl := List.mem_of_getElem? (i := 39) (by decide +kernel)
theorem ok_X10_takeState : sh_ok mX10_takeState 1 := ⟨List.mem_of_getElem? (i := 1000) (by decide +kernel), List.mem_of_getElem? (i := 59) (by decide +kernel), ⟨by decide, by decide⟩, by decide +kernel, by decide, rfl⟩
theorem ki_X10_takeState : Cond.instanceMethod yX10_takeState ∈ lw_tbl := List.mem_of_getElem? (i := 999) (by decide +kernel)
theorem kv_X10_takeState : Cond.selects yX10_takeState.cls yX10_takeState yX10_takeState ∈ lw_tbl := List.mem_of_getElem? (i := 41) (by decide +kernel)
theorem ok_X10_add : sh_ok mX10_add 2 := ⟨List.mem_of_getElem? (i := 988) (by decide +kernel), List.mem_of_getElem? (i := 59) (by decide +kernel), ⟨by decide, by decide⟩, by decide +kernel, by decide, rfl⟩
theorem ki_X10_add : Cond.instanceMethod yX10_add ∈ lw_tbl := List.mem_of_getElem? (i := 987) (by decide +kernel)
theorem kv_X10_add : Cond.selects yX10_add.cls yX10_add yX10_add ∈ lw_tbl := List.mem_of_getElem? (i := 38) (by decide +kernel)
theorem ok_X10_carriedNow : sh_ok mX10_carriedNow 0 := ⟨List.mem_of_getElem? (i := 1004) (by decide +kernel), List.mem_of_getElem? (i := 59) (by decide +kernel), ⟨by decide, by decide⟩, by decide +kernel, by decide, rfl⟩
theorem ki_X10_carriedNow : Cond.instanceMethod yX10_carriedNow ∈ lw_tbl := List.mem_of_getElem? (i := 1003) (by decide +kernel)
theorem kv_X10_carriedNow : Cond.selects yX10_carriedNow.cls yX10_carriedNow yX10_carriedNow ∈ lw_tbl := List.mem_of_getElem? (i := 42) (by decide +kernel)
theorem ok_X10_weightNow : sh_ok mX10_weightNow 0 := ⟨List.mem_of_getElem? (i := 1008) (by decide +kernel), List.mem_of_getElem? (i := 59) (by decide +kernel), ⟨by decide, by decide⟩, by decide +kernel, by decide, rfl⟩
theorem ki_X10_weightNow : Cond.instanceMethod yX10_weightNow ∈ lw_tbl := List.mem_of_getElem? (i := 1007) (by decide +kernel)
theorem kv_X10_weightNow : Cond.selects yX10_weightNow.cls yX10_weightNow yX10_weightNow ∈ lw_tbl := List.mem_of_getElem? (i := 43) (by decide +kernel)
theorem ok_X10_spread : sh_ok mX10_spread 1 := ⟨List.mem_of_getElem? (i := 996) (by decide +kernel), List.mem_of_getElem? (i := 59) (by decide +kernel), ⟨by decide, by decide⟩, by decide +kernel, by decide, rfl⟩
theorem ki_X10_spread : Cond.instanceMethod yX10_spread ∈ lw_tbl := List.mem_of_getElem? (i := 995) (by decide +kernel)
theorem kv_X10_spread : Cond.selects yX10_spread.cls yX10_spread yX10_spread ∈ lw_tbl := List.mem_of_getElem? (i := 40) (by decide +kernel)
theorem ok_X10_goTill : sh_ok mX10_goTill 1 := ⟨List.mem_of_getElem? (i := 984) (by decide +kernel), List.mem_of_getElem? (i := 59) (by decide +kernel), ⟨by decide, by decide⟩, by decide +kernel, by decide, rfl⟩
theorem ki_X10_goTill : Cond.instanceMethod yX10_goTill ∈ lw_tbl := List.mem_of_getElem? (i := 983) (by decide +kernel)
theorem kv_X10_goTill : Cond.selects yX10_goTill.cls yX10_goTill yX10_goTill ∈ lw_tbl := List.mem_of_getElem? (i := 37) (by decide +kernel)
theorem ok_X10_fewest : sh_ok mX10_fewest 3 := ⟨List.mem_of_getElem? (i := 980) (by decide +kernel), List.mem_of_getElem? (i := 59) (by decide +kernel), ⟨by decide, by decide⟩, by decide +kernel, by decide, rfl⟩
theorem ki_X10_fewest : Cond.instanceMethod yX10_fewest ∈ lw_tbl := List.mem_of_getElem? (i := 978) (by decide +kernel)
theorem kv_X10_fewest : Cond.selects yX10_fewest.cls yX10_fewest yX10_fewest ∈ lw_tbl := List.mem_of_getElem? (i := 979) (by decide +kernel)
theorem ok_X10_reachOf : sh_ok mX10_reachOf 2 := ⟨List.mem_of_getElem? (i := 1017) (by decide +kernel), List.mem_of_getElem? (i := 59) (by decide +kernel), ⟨by decide, by decide⟩, by decide +kernel, by decide, rfl⟩
theorem ki_X10_reachOf : Cond.instanceMethod yX10_reachOf ∈ lw_tbl := List.mem_of_getElem? (i := 1016) (by decide +kernel)
theorem kv_X10_reachOf : Cond.selects yX10_reachOf.cls yX10_reachOf yX10_reachOf ∈ lw_tbl := List.mem_of_getElem? (i := 44) (by decide +kernel)
theorem ok_X10_reach : sh_ok mX10_reach 2 := ⟨List.mem_of_getElem? (i := 1012) (by decide +kernel), List.mem_of_getElem? (i := 59) (by decide +kernel), ⟨by decide, by decide⟩, by decide +kernel, by decide, rfl⟩
theorem ki_X10_reach : Cond.instanceMethod yX10_reach ∈ lw_tbl := List.mem_of_getElem? (i := 1010) (by decide +kernel)
theorem kv_X10_reach : Cond.selects yX10_reach.cls yX10_reach yX10_reach ∈ lw_tbl := List.mem_of_getElem? (i := 1011) (by decide +kernel)
theorem ok_X10_comesTo : sh_ok mX10_comesTo 3 := ⟨List.mem_of_getElem? (i := 1025) (by decide +kernel), List.mem_of_getElem? (i := 59) (by decide +kernel), ⟨by decide, by decide⟩, by decide +kernel, by decide, rfl⟩
theorem ki_X10_comesTo : Cond.instanceMethod yX10_comesTo ∈ lw_tbl := List.mem_of_getElem? (i := 1024) (by decide +kernel)
theorem kv_X10_comesTo : Cond.selects yX10_comesTo.cls yX10_comesTo yX10_comesTo ∈ lw_tbl := List.mem_of_getElem? (i := 45) (by decide +kernel)
theorem ok_X10_strangers : sh_ok mX10_strangers 3 := ⟨List.mem_of_getElem? (i := 1021) (by decide +kernel), List.mem_of_getElem? (i := 59) (by decide +kernel), ⟨by decide, by decide⟩, by decide +kernel, by decide, rfl⟩
theorem ki_X10_strangers : Cond.instanceMethod yX10_strangers ∈ lw_tbl := List.mem_of_getElem? (i := 1019) (by decide +kernel)
theorem kv_X10_strangers : Cond.selects yX10_strangers.cls yX10_strangers yX10_strangers ∈ lw_tbl := List.mem_of_getElem? (i := 1020) (by decide +kernel)
theorem ok_X10_goesWith : sh_ok mX10_goesWith 5 := ⟨List.mem_of_getElem? (i := 1034) (by decide +kernel), List.mem_of_getElem? (i := 59) (by decide +kernel), ⟨by decide, by decide⟩, by decide +kernel, by decide, rfl⟩
theorem ki_X10_goesWith : Cond.instanceMethod yX10_goesWith ∈ lw_tbl := List.mem_of_getElem? (i := 1033) (by decide +kernel)
theorem kv_X10_goesWith : Cond.selects yX10_goesWith.cls yX10_goesWith yX10_goesWith ∈ lw_tbl := List.mem_of_getElem? (i := 46) (by decide +kernel)
theorem ok_X10_laid : sh_ok mX10_laid 3 := ⟨List.mem_of_getElem? (i := 1029) (by decide +kernel), List.mem_of_getElem? (i := 59) (by decide +kernel), ⟨by decide, by decide⟩, by decide +kernel, by decide, rfl⟩
theorem ki_X10_laid : Cond.instanceMethod yX10_laid ∈ lw_tbl := List.mem_of_getElem? (i := 1027) (by decide +kernel)
theorem kv_X10_laid : Cond.selects yX10_laid.cls yX10_laid yX10_laid ∈ lw_tbl := List.mem_of_getElem? (i := 1028) (by decide +kernel)
theorem ok_X10_guest : sh_ok mX10_guest 2 := ⟨List.mem_of_getElem? (i := 1038) (by decide +kernel), List.mem_of_getElem? (i := 59) (by decide +kernel), ⟨by decide, by decide⟩, by decide +kernel, by decide, rfl⟩
theorem ki_X10_guest : Cond.instanceMethod yX10_guest ∈ lw_tbl := List.mem_of_getElem? (i := 1036) (by decide +kernel)
theorem kv_X10_guest : Cond.selects yX10_guest.cls yX10_guest yX10_guest ∈ lw_tbl := List.mem_of_getElem? (i := 1037) (by decide +kernel)
theorem ok_X10_passesAll : sh_ok mX10_passesAll 4 := ⟨List.mem_of_getElem? (i := 1050) (by decide +kernel), List.mem_of_getElem? (i := 59) (by decide +kernel), ⟨by decide, by decide⟩, by decide +kernel, by decide, rfl⟩
theorem ki_X10_passesAll : Cond.instanceMethod yX10_passesAll ∈ lw_tbl := List.mem_of_getElem? (i := 1049) (by decide +kernel)
theorem kv_X10_passesAll : Cond.selects yX10_passesAll.cls yX10_passesAll yX10_passesAll ∈ lw_tbl := List.mem_of_getElem? (i := 48) (by decide +kernel)
theorem ok_X10_areDoors : sh_ok mX10_areDoors 2 := ⟨List.mem_of_getElem? (i := 1046) (by decide +kernel), List.mem_of_getElem? (i := 59) (by decide +kernel), ⟨by decide, by decide⟩, by decide +kernel, by decide, rfl⟩
theorem ki_X10_areDoors : Cond.instanceMethod yX10_areDoors ∈ lw_tbl := List.mem_of_getElem? (i := 1045) (by decide +kernel)
theorem kv_X10_areDoors : Cond.selects yX10_areDoors.cls yX10_areDoors yX10_areDoors ∈ lw_tbl := List.mem_of_getElem? (i := 47) (by decide +kernel)
theorem ok_X10_heard : sh_ok mX10_heard 4 := ⟨List.mem_of_getElem? (i := 1042) (by decide +kernel), List.mem_of_getElem? (i := 59) (by decide +kernel), ⟨by decide, by decide⟩, by decide +kernel, by decide, rfl⟩
theorem ki_X10_heard : Cond.instanceMethod yX10_heard ∈ lw_tbl := List.mem_of_getElem? (i := 1040) (by decide +kernel)
theorem kv_X10_heard : Cond.selects yX10_heard.cls yX10_heard yX10_heard ∈ lw_tbl := List.mem_of_getElem? (i := 1041) (by decide +kernel)
theorem ok_X10_byStrangers : sh_ok mX10_byStrangers 5 := ⟨List.mem_of_getElem? (i := 1054) (by decide +kernel), List.mem_of_getElem? (i := 59) (by decide +kernel), ⟨by decide, by decide⟩, by decide +kernel, by decide, rfl⟩
theorem ki_X10_byStrangers : Cond.instanceMethod yX10_byStrangers ∈ lw_tbl := List.mem_of_getElem? (i := 1052) (by decide +kernel)
theorem kv_X10_byStrangers : Cond.selects yX10_byStrangers.cls yX10_byStrangers yX10_byStrangers ∈ lw_tbl := List.mem_of_getElem? (i := 1053) (by decide +kernel)
theorem ok_X10_grows : sh_ok mX10_grows 3 := ⟨List.mem_of_getElem? (i := 1058) (by decide +kernel), List.mem_of_getElem? (i := 59) (by decide +kernel), ⟨by decide, by decide⟩, by decide +kernel, by decide, rfl⟩
theorem ki_X10_grows : Cond.instanceMethod yX10_grows ∈ lw_tbl := List.mem_of_getElem? (i := 1056) (by decide +kernel)
theorem kv_X10_grows : Cond.selects yX10_grows.cls yX10_grows yX10_grows ∈ lw_tbl := List.mem_of_getElem? (i := 1057) (by decide +kernel)
theorem ok_X10_noSheet : sh_ok mX10_noSheet 1 := ⟨List.mem_of_getElem? (i := 838) (by decide +kernel), List.mem_of_getElem? (i := 59) (by decide +kernel), ⟨by decide, by decide⟩, by decide +kernel, by decide, rfl⟩
theorem ks_X10_noSheet : Cond.static yX10_noSheet ∈ lw_tbl := List.mem_of_getElem? (i := 837) (by decide +kernel)
theorem ok_X10_sheet : sh_ok mX10_sheet 3 := ⟨List.mem_of_getElem? (i := 1063) (by decide +kernel), List.mem_of_getElem? (i := 59) (by decide +kernel), ⟨by decide, by decide⟩, by decide +kernel, by decide, rfl⟩
theorem ki_X10_sheet : Cond.instanceMethod yX10_sheet ∈ lw_tbl := List.mem_of_getElem? (i := 1061) (by decide +kernel)
theorem kv_X10_sheet : Cond.selects yX10_sheet.cls yX10_sheet yX10_sheet ∈ lw_tbl := List.mem_of_getElem? (i := 1062) (by decide +kernel)
theorem ok_X10_lose : sh_ok mX10_lose 1 := ⟨List.mem_of_getElem? (i := 1067) (by decide +kernel), List.mem_of_getElem? (i := 59) (by decide +kernel), ⟨by decide, by decide⟩, by decide +kernel, by decide, rfl⟩
theorem ki_X10_lose : Cond.instanceMethod yX10_lose ∈ lw_tbl := List.mem_of_getElem? (i := 1065) (by decide +kernel)
theorem kv_X10_lose : Cond.selects yX10_lose.cls yX10_lose yX10_lose ∈ lw_tbl := List.mem_of_getElem? (i := 1066) (by decide +kernel)
theorem ok_X10_noCell : sh_ok mX10_noCell 2 := ⟨List.mem_of_getElem? (i := 1075) (by decide +kernel), List.mem_of_getElem? (i := 59) (by decide +kernel), ⟨by decide, by decide⟩, by decide +kernel, by decide, rfl⟩
theorem ki_X10_noCell : Cond.instanceMethod yX10_noCell ∈ lw_tbl := List.mem_of_getElem? (i := 1074) (by decide +kernel)
theorem kv_X10_noCell : Cond.selects yX10_noCell.cls yX10_noCell yX10_noCell ∈ lw_tbl := List.mem_of_getElem? (i := 49) (by decide +kernel)
theorem ok_X10_put : sh_ok mX10_put 3 := ⟨List.mem_of_getElem? (i := 1071) (by decide +kernel), List.mem_of_getElem? (i := 59) (by decide +kernel), ⟨by decide, by decide⟩, by decide +kernel, by decide, rfl⟩
theorem ki_X10_put : Cond.instanceMethod yX10_put ∈ lw_tbl := List.mem_of_getElem? (i := 1069) (by decide +kernel)
theorem kv_X10_put : Cond.selects yX10_put.cls yX10_put yX10_put ∈ lw_tbl := List.mem_of_getElem? (i := 1070) (by decide +kernel)
theorem ok_X10_cell : sh_ok mX10_cell 3 := ⟨List.mem_of_getElem? (i := 1079) (by decide +kernel), List.mem_of_getElem? (i := 59) (by decide +kernel), ⟨by decide, by decide⟩, by decide +kernel, by decide, rfl⟩
theorem ki_X10_cell : Cond.instanceMethod yX10_cell ∈ lw_tbl := List.mem_of_getElem? (i := 1077) (by decide +kernel)
theorem kv_X10_cell : Cond.selects yX10_cell.cls yX10_cell yX10_cell ∈ lw_tbl := List.mem_of_getElem? (i := 1078) (by decide +kernel)
theorem ok_X10_isBeyond : sh_ok mX10_isBeyond 3 := ⟨List.mem_of_getElem? (i := 854) (by decide +kernel), List.mem_of_getElem? (i := 59) (by decide +kernel), ⟨by decide, by decide⟩, by decide +kernel, by decide, rfl⟩
theorem ks_X10_isBeyond : Cond.static yX10_isBeyond ∈ lw_tbl := List.mem_of_getElem? (i := 853) (by decide +kernel)
theorem ok_X10_copy : sh_ok mX10_copy 5 := ⟨List.mem_of_getElem? (i := 1091) (by decide +kernel), List.mem_of_getElem? (i := 59) (by decide +kernel), ⟨by decide, by decide⟩, by decide +kernel, by decide, rfl⟩
theorem ki_X10_copy : Cond.instanceMethod yX10_copy ∈ lw_tbl := List.mem_of_getElem? (i := 1089) (by decide +kernel)
theorem kv_X10_copy : Cond.selects yX10_copy.cls yX10_copy yX10_copy ∈ lw_tbl := List.mem_of_getElem? (i := 1090) (by decide +kernel)
theorem ok_X10_traced : sh_ok mX10_traced 1 := ⟨List.mem_of_getElem? (i := 1099) (by decide +kernel), List.mem_of_getElem? (i := 59) (by decide +kernel), ⟨by decide, by decide⟩, by decide +kernel, by decide, rfl⟩
theorem ki_X10_traced : Cond.instanceMethod yX10_traced ∈ lw_tbl := List.mem_of_getElem? (i := 1098) (by decide +kernel)
theorem kv_X10_traced : Cond.selects yX10_traced.cls yX10_traced yX10_traced ∈ lw_tbl := List.mem_of_getElem? (i := 51) (by decide +kernel)
theorem ok_X10_tell : sh_ok mX10_tell 1 := ⟨List.mem_of_getElem? (i := 1095) (by decide +kernel), List.mem_of_getElem? (i := 59) (by decide +kernel), ⟨by decide, by decide⟩, by decide +kernel, by decide, rfl⟩
theorem ki_X10_tell : Cond.instanceMethod yX10_tell ∈ lw_tbl := List.mem_of_getElem? (i := 1093) (by decide +kernel)
theorem kv_X10_tell : Cond.selects yX10_tell.cls yX10_tell yX10_tell ∈ lw_tbl := List.mem_of_getElem? (i := 1094) (by decide +kernel)
theorem ok_X10_ring : sh_ok mX10_ring 1 := ⟨List.mem_of_getElem? (i := 1103) (by decide +kernel), List.mem_of_getElem? (i := 59) (by decide +kernel), ⟨by decide, by decide⟩, by decide +kernel, by decide, rfl⟩
theorem ki_X10_ring : Cond.instanceMethod yX10_ring ∈ lw_tbl := List.mem_of_getElem? (i := 1101) (by decide +kernel)
theorem kv_X10_ring : Cond.selects yX10_ring.cls yX10_ring yX10_ring ∈ lw_tbl := List.mem_of_getElem? (i := 1102) (by decide +kernel)
theorem ok_X10_as : sh_ok mX10_as 2 := ⟨List.mem_of_getElem? (i := 1107) (by decide +kernel), List.mem_of_getElem? (i := 59) (by decide +kernel), ⟨by decide, by decide⟩, by decide +kernel, by decide, rfl⟩
theorem ki_X10_as : Cond.instanceMethod yX10_as ∈ lw_tbl := List.mem_of_getElem? (i := 1105) (by decide +kernel)
theorem kv_X10_as : Cond.selects yX10_as.cls yX10_as yX10_as ∈ lw_tbl := List.mem_of_getElem? (i := 1106) (by decide +kernel)
theorem ok_X10_trace : sh_ok mX10_trace 0 := ⟨List.mem_of_getElem? (i := 1111) (by decide +kernel), List.mem_of_getElem? (i := 59) (by decide +kernel), ⟨by decide, by decide⟩, by decide +kernel, by decide, rfl⟩
theorem ki_X10_trace : Cond.instanceMethod yX10_trace ∈ lw_tbl := List.mem_of_getElem? (i := 1109) (by decide +kernel)
theorem kv_X10_trace : Cond.selects yX10_trace.cls yX10_trace yX10_trace ∈ lw_tbl := List.mem_of_getElem? (i := 1110) (by decide +kernel)
theorem ok_X10_fault : sh_ok mX10_fault 0 := ⟨List.mem_of_getElem? (i := 1115) (by decide +kernel), List.mem_of_getElem? (i := 59) (by decide +kernel), ⟨by decide, by decide⟩, by decide +kernel, by decide, rfl⟩
theorem ki_X10_fault : Cond.instanceMethod yX10_fault ∈ lw_tbl := List.mem_of_getElem? (i := 1113) (by decide +kernel)
theorem kv_X10_fault : Cond.selects yX10_fault.cls yX10_fault yX10_fault ∈ lw_tbl := List.mem_of_getElem? (i := 1114) (by decide +kernel)
theorem ok_X10_many : sh_ok mX10_many 1 := ⟨List.mem_of_getElem? (i := 1119) (by decide +kernel), List.mem_of_getElem? (i := 59) (by decide +kernel), ⟨by decide, by decide⟩, by decide +kernel, by decide, rfl⟩
theorem ki_X10_many : Cond.instanceMethod yX10_many ∈ lw_tbl := List.mem_of_getElem? (i := 1117) (by decide +kernel)
theorem kv_X10_many : Cond.selects yX10_many.cls yX10_many yX10_many ∈ lw_tbl := List.mem_of_getElem? (i := 1118) (by decide +kernel)
theorem ok_J6_bitCount_0f7a4 : sh_ok mJ6_bitCount_0f7a4 1 := ⟨List.mem_of_getElem? (i := 462) (by decide +kernel), List.mem_of_getElem? (i := 65) (by decide +kernel), ⟨by decide, by decide⟩, by decide +kernel, by decide, rfl⟩
theorem ks_J6_bitCount_0f7a4 : Cond.static yJ6_bitCount_0f7a4 ∈ lw_tbl := List.mem_of_getElem? (i := 461) (by decide +kernel)
theorem kl_X0_3 : Cond.methodLink RX0 3 objectInit ∈ lw_tbl := List.mem_of_getElem? (i := 105) (by decide +kernel)
theorem kp_X0_init_9_0 : sh_fp mX0_init 9 0 2 (.array .int) := ⟨RX0, TX0, 6, "SillHouse$Folk", tyX0, rfl, by decide, uw_X0, List.mem_of_getElem? (i := 110) (by decide +kernel), rfl, tyX0_ok, nmX0, rfl, Or.inr ⟨rfl, rfl, rfl⟩⟩
theorem kp_X0_init_15_0 : sh_fp mX0_init 15 0 3 (.array .int) := ⟨RX0, TX0, 6, "SillHouse$Folk", tyX0, rfl, by decide, uw_X0, List.mem_of_getElem? (i := 112) (by decide +kernel), rfl, tyX0_ok, nmX0, rfl, Or.inr ⟨rfl, rfl, rfl⟩⟩
theorem kp_X0_init_18_0 : sh_fp mX0_init 18 0 4 (.array .int) := ⟨RX0, TX0, 6, "SillHouse$Folk", tyX0, rfl, by decide, uw_X0, List.mem_of_getElem? (i := 114) (by decide +kernel), rfl, tyX0_ok, nmX0, rfl, Or.inr ⟨rfl, rfl, rfl⟩⟩
theorem kp_X0_init_21_0 : sh_fp mX0_init 21 0 5 (.array .int) := ⟨RX0, TX0, 6, "SillHouse$Folk", tyX0, rfl, by decide, uw_X0, List.mem_of_getElem? (i := 116) (by decide +kernel), rfl, tyX0_ok, nmX0, rfl, Or.inr ⟨rfl, rfl, rfl⟩⟩
theorem kp_X0_leave_24_0 : sh_fp mX0_leave 24 0 0 .int := ⟨RX0, TX0, 6, "SillHouse$Folk", tyX0, rfl, by decide, uw_X0, List.mem_of_getElem? (i := 106) (by decide +kernel), rfl, tyX0_ok, nmX0, rfl, Or.inl rfl⟩
theorem kp_X0_leave_28_0 : sh_fp mX0_leave 28 0 1 .int := ⟨RX0, TX0, 6, "SillHouse$Folk", tyX0, rfl, by decide, uw_X0, List.mem_of_getElem? (i := 108) (by decide +kernel), rfl, tyX0_ok, nmX0, rfl, Or.inl rfl⟩
theorem kf_X0_24_0 : sh_fl RX0 24 0 0 := ⟨RX0, TX0, 6, "SillHouse$Folk", rfl, by decide, uw_X0, List.mem_of_getElem? (i := 106) (by decide +kernel), rfl⟩
theorem kf_X0_28_0 : sh_fl RX0 28 0 1 := ⟨RX0, TX0, 6, "SillHouse$Folk", rfl, by decide, uw_X0, List.mem_of_getElem? (i := 108) (by decide +kernel), rfl⟩
theorem kf_X0_9_0 : sh_fl RX0 9 0 2 := ⟨RX0, TX0, 6, "SillHouse$Folk", rfl, by decide, uw_X0, List.mem_of_getElem? (i := 110) (by decide +kernel), rfl⟩
theorem kf_X0_15_0 : sh_fl RX0 15 0 3 := ⟨RX0, TX0, 6, "SillHouse$Folk", rfl, by decide, uw_X0, List.mem_of_getElem? (i := 112) (by decide +kernel), rfl⟩
theorem kp_X0_addPerson_24_0 : sh_fp mX0_addPerson 24 0 0 .int := ⟨RX0, TX0, 6, "SillHouse$Folk", tyX0, rfl, by decide, uw_X0, List.mem_of_getElem? (i := 106) (by decide +kernel), rfl, tyX0_ok, nmX0, rfl, Or.inl rfl⟩
theorem kf_X0_18_0 : sh_fl RX0 18 0 4 := ⟨RX0, TX0, 6, "SillHouse$Folk", rfl, by decide, uw_X0, List.mem_of_getElem? (i := 114) (by decide +kernel), rfl⟩
theorem kf_X0_21_0 : sh_fl RX0 21 0 5 := ⟨RX0, TX0, 6, "SillHouse$Folk", rfl, by decide, uw_X0, List.mem_of_getElem? (i := 116) (by decide +kernel), rfl⟩
theorem kp_X0_addStone_28_0 : sh_fp mX0_addStone 28 0 1 .int := ⟨RX0, TX0, 6, "SillHouse$Folk", tyX0, rfl, by decide, uw_X0, List.mem_of_getElem? (i := 108) (by decide +kernel), rfl, tyX0_ok, nmX0, rfl, Or.inl rfl⟩
theorem kl_X0_31 : Cond.methodLink RX0 31 yX0_placeWith ∈ lw_tbl := List.mem_of_getElem? (i := 436) (by decide +kernel)
theorem kl_X0_35 : Cond.methodLink RX0 35 yX0_carriedBy ∈ lw_tbl := List.mem_of_getElem? (i := 459) (by decide +kernel)
theorem kl_X0_38 : Cond.methodLink RX0 38 yJ6_bitCount_0f7a4 ∈ lw_tbl := List.mem_of_getElem? (i := 460) (by decide +kernel)
theorem kl_X0_43 : Cond.methodLink RX0 43 yX0_weightWithStones ∈ lw_tbl := List.mem_of_getElem? (i := 494) (by decide +kernel)
theorem kl_X1_3 : Cond.methodLink RX1 3 objectInit ∈ lw_tbl := List.mem_of_getElem? (i := 82) (by decide +kernel)
theorem ka_X1_9 : Cond.classLink RX1 9 RX4 ∈ lw_tbl := List.mem_of_getElem? (i := 83) (by decide +kernel)
theorem kp_X1_init_11_1 : sh_fp mX1_init 11 1 2 (.array (.object "SillHouse$Sill")) := ⟨RX1, TX1, 3, "SillHouse$Plan", tyX1, rfl, by decide, uw_X1, List.mem_of_getElem? (i := 90) (by decide +kernel), rfl, tyX1_ok, nmX1, rfl, Or.inr ⟨rfl, rfl, rfl⟩⟩
theorem kl_X1_17 : Cond.methodLink RX1 17 yX5_rooms ∈ lw_tbl := List.mem_of_getElem? (i := 292) (by decide +kernel)
theorem kp_X1_build_23_1 : sh_fp mX1_build 23 1 0 .int := ⟨RX1, TX1, 3, "SillHouse$Plan", tyX1, rfl, by decide, uw_X1, List.mem_of_getElem? (i := 85) (by decide +kernel), rfl, tyX1_ok, nmX1, rfl, Or.inl rfl⟩
theorem kl_X1_26 : Cond.methodLink RX1 26 yX5_doorCount ∈ lw_tbl := List.mem_of_getElem? (i := 293) (by decide +kernel)
theorem kl_X1_29 : Cond.methodLink RX1 29 yJ9_min_7cf53 ∈ lw_tbl := List.mem_of_getElem? (i := 297) (by decide +kernel)
theorem kp_X1_build_35_1 : sh_fp mX1_build 35 1 1 .int := ⟨RX1, TX1, 3, "SillHouse$Plan", tyX1, rfl, by decide, uw_X1, List.mem_of_getElem? (i := 87) (by decide +kernel), rfl, tyX1_ok, nmX1, rfl, Or.inl rfl⟩
theorem kf_X1_35_1 : sh_fl RX1 35 1 1 := ⟨RX1, TX1, 3, "SillHouse$Plan", rfl, by decide, uw_X1, List.mem_of_getElem? (i := 87) (by decide +kernel), rfl⟩
theorem kf_X1_11_1 : sh_fl RX1 11 1 2 := ⟨RX1, TX1, 3, "SillHouse$Plan", rfl, by decide, uw_X1, List.mem_of_getElem? (i := 90) (by decide +kernel), rfl⟩
theorem kl_X1_37 : Cond.methodLink RX1 37 yX5_door ∈ lw_tbl := List.mem_of_getElem? (i := 300) (by decide +kernel)
theorem kf_X1_23_1 : sh_fl RX1 23 1 0 := ⟨RX1, TX1, 3, "SillHouse$Plan", rfl, by decide, uw_X1, List.mem_of_getElem? (i := 85) (by decide +kernel), rfl⟩
theorem kf_X1_41_4 : sh_fl RX1 41 4 0 := ⟨RX4, TX4, 7, "SillHouse$Sill", rfl, by decide, uw_X4, List.mem_of_getElem? (i := 317) (by decide +kernel), rfl⟩
theorem kf_X1_41_7 : sh_fl RX1 41 7 0 := ⟨RX7, TX7, 7, "SillHouse$Sill", rfl, by decide, uw_X7, List.mem_of_getElem? (i := 317) (by decide +kernel), rfl⟩
theorem kf_X1_41_8 : sh_fl RX1 41 8 0 := ⟨RX8, TX8, 7, "SillHouse$Sill", rfl, by decide, uw_X8, List.mem_of_getElem? (i := 317) (by decide +kernel), rfl⟩
theorem kl_X1_44 : Cond.methodLink RX1 44 yX1_through ∈ lw_tbl := List.mem_of_getElem? (i := 567) (by decide +kernel)
theorem kf_X1_48_4 : sh_fl RX1 48 4 1 := ⟨RX4, TX4, 7, "SillHouse$Sill", rfl, by decide, uw_X4, List.mem_of_getElem? (i := 319) (by decide +kernel), rfl⟩
theorem kf_X1_48_7 : sh_fl RX1 48 7 1 := ⟨RX7, TX7, 7, "SillHouse$Sill", rfl, by decide, uw_X7, List.mem_of_getElem? (i := 319) (by decide +kernel), rfl⟩
theorem kf_X1_48_8 : sh_fl RX1 48 8 1 := ⟨RX8, TX8, 7, "SillHouse$Sill", rfl, by decide, uw_X8, List.mem_of_getElem? (i := 319) (by decide +kernel), rfl⟩
theorem kl_X1_51 : Cond.methodLink RX1 51 yX1_reachOf ∈ lw_tbl := List.mem_of_getElem? (i := 579) (by decide +kernel)
theorem kl_X1_54 : Cond.methodLink RX1 54 yX4_beyond ∈ lw_tbl := List.mem_of_getElem? (i := 570) (by decide +kernel)
theorem kq_X4_X4_beyond : Cond.sameMethod RX4 RX4 "beyond" "(II)I" ∈ lw_tbl := List.mem_of_getElem? (i := 498) (by decide +kernel)
theorem kx_X7_X4_beyond_X4 : Cond.selects RX7 yX4_beyond yX4_beyond ∈ lw_tbl := List.mem_of_getElem? (i := 499) (by decide +kernel)
theorem kx_X8_X4_beyond_X4 : Cond.selects RX8 yX4_beyond yX4_beyond ∈ lw_tbl := List.mem_of_getElem? (i := 500) (by decide +kernel)
theorem kl_X2_5 : Cond.methodLink RX2 5 objectInit ∈ lw_tbl := List.mem_of_getElem? (i := 137) (by decide +kernel)
theorem kp_X2_init_11_2 : sh_fp mX2_init 11 2 0 (.array .int) := ⟨RX2, TX2, 9, "SillHouse$Search", tyX2, rfl, by decide, uw_X2, List.mem_of_getElem? (i := 138) (by decide +kernel), rfl, tyX2_ok, nmX2, rfl, Or.inr ⟨rfl, rfl, rfl⟩⟩
theorem kp_X2_init_15_2 : sh_fp mX2_init 15 2 1 (.array .int) := ⟨RX2, TX2, 9, "SillHouse$Search", tyX2, rfl, by decide, uw_X2, List.mem_of_getElem? (i := 139) (by decide +kernel), rfl, tyX2_ok, nmX2, rfl, Or.inr ⟨rfl, rfl, rfl⟩⟩
theorem kp_X2_init_18_2 : sh_fp mX2_init 18 2 2 (.array .long) := ⟨RX2, TX2, 9, "SillHouse$Search", tyX2, rfl, by decide, uw_X2, List.mem_of_getElem? (i := 140) (by decide +kernel), rfl, tyX2_ok, nmX2, rfl, Or.inr ⟨rfl, rfl, rfl⟩⟩
theorem kp_X2_init_22_2 : sh_fp mX2_init 22 2 3 (.array .int) := ⟨RX2, TX2, 9, "SillHouse$Search", tyX2, rfl, by decide, uw_X2, List.mem_of_getElem? (i := 141) (by decide +kernel), rfl, tyX2_ok, nmX2, rfl, Or.inr ⟨rfl, rfl, rfl⟩⟩
theorem kp_X2_begin_25_2 : sh_fp mX2_begin 25 2 4 .int := ⟨RX2, TX2, 9, "SillHouse$Search", tyX2, rfl, by decide, uw_X2, List.mem_of_getElem? (i := 142) (by decide +kernel), rfl, tyX2_ok, nmX2, rfl, Or.inl rfl⟩
theorem kp_X2_begin_29_2 : sh_fp mX2_begin 29 2 5 .int := ⟨RX2, TX2, 9, "SillHouse$Search", tyX2, rfl, by decide, uw_X2, List.mem_of_getElem? (i := 143) (by decide +kernel), rfl, tyX2_ok, nmX2, rfl, Or.inl rfl⟩
theorem kf_X2_29_2 : sh_fl RX2 29 2 5 := ⟨RX2, TX2, 9, "SillHouse$Search", rfl, by decide, uw_X2, List.mem_of_getElem? (i := 143) (by decide +kernel), rfl⟩
theorem kf_X2_22_2 : sh_fl RX2 22 2 3 := ⟨RX2, TX2, 9, "SillHouse$Search", rfl, by decide, uw_X2, List.mem_of_getElem? (i := 141) (by decide +kernel), rfl⟩
theorem kl_X2_32 : Cond.methodLink RX2 32 yX2_withPlace ∈ lw_tbl := List.mem_of_getElem? (i := 527) (by decide +kernel)
theorem kp_X2_setStone_29_2 : sh_fp mX2_setStone 29 2 5 .int := ⟨RX2, TX2, 9, "SillHouse$Search", tyX2, rfl, by decide, uw_X2, List.mem_of_getElem? (i := 143) (by decide +kernel), rfl, tyX2_ok, nmX2, rfl, Or.inl rfl⟩
theorem kp_X2_finds_36_2 : sh_fp mX2_finds 36 2 7 .int := ⟨RX2, TX2, 9, "SillHouse$Search", tyX2, rfl, by decide, uw_X2, List.mem_of_getElem? (i := 145) (by decide +kernel), rfl, tyX2_ok, nmX2, rfl, Or.inl rfl⟩
theorem kp_X2_finds_39_2 : sh_fp mX2_finds 39 2 8 .int := ⟨RX2, TX2, 9, "SillHouse$Search", tyX2, rfl, by decide, uw_X2, List.mem_of_getElem? (i := 146) (by decide +kernel), rfl, tyX2_ok, nmX2, rfl, Or.inl rfl⟩
theorem kp_X2_finds_42_2 : sh_fp mX2_finds 42 2 6 .int := ⟨RX2, TX2, 9, "SillHouse$Search", tyX2, rfl, by decide, uw_X2, List.mem_of_getElem? (i := 144) (by decide +kernel), rfl, tyX2_ok, nmX2, rfl, Or.inl rfl⟩
theorem kl_X2_45 : Cond.methodLink RX2 45 yX2_meet ∈ lw_tbl := List.mem_of_getElem? (i := 534) (by decide +kernel)
theorem kf_X2_42_2 : sh_fl RX2 42 2 6 := ⟨RX2, TX2, 9, "SillHouse$Search", rfl, by decide, uw_X2, List.mem_of_getElem? (i := 144) (by decide +kernel), rfl⟩
theorem kf_X2_39_2 : sh_fl RX2 39 2 8 := ⟨RX2, TX2, 9, "SillHouse$Search", rfl, by decide, uw_X2, List.mem_of_getElem? (i := 146) (by decide +kernel), rfl⟩
theorem kl_X2_49 : Cond.methodLink RX2 49 yX2_leaveBySteps ∈ lw_tbl := List.mem_of_getElem? (i := 538) (by decide +kernel)
theorem kl_X2_53 : Cond.methodLink RX2 53 yX2_forgetSeen ∈ lw_tbl := List.mem_of_getElem? (i := 546) (by decide +kernel)
theorem kf_X2_15_2 : sh_fl RX2 15 2 1 := ⟨RX2, TX2, 9, "SillHouse$Search", rfl, by decide, uw_X2, List.mem_of_getElem? (i := 139) (by decide +kernel), rfl⟩
theorem kl_X2_56 : Cond.methodLink RX2 56 yX2_howManySteps ∈ lw_tbl := List.mem_of_getElem? (i := 558) (by decide +kernel)
theorem kf_X2_11_2 : sh_fl RX2 11 2 0 := ⟨RX2, TX2, 9, "SillHouse$Search", rfl, by decide, uw_X2, List.mem_of_getElem? (i := 138) (by decide +kernel), rfl⟩
theorem kf_X2_25_2 : sh_fl RX2 25 2 4 := ⟨RX2, TX2, 9, "SillHouse$Search", rfl, by decide, uw_X2, List.mem_of_getElem? (i := 142) (by decide +kernel), rfl⟩
theorem kl_X2_60 : Cond.methodLink RX2 60 yX2_place ∈ lw_tbl := List.mem_of_getElem? (i := 542) (by decide +kernel)
theorem kf_X2_64_1 : sh_fl RX2 64 1 1 := ⟨RX1, TX1, 3, "SillHouse$Plan", rfl, by decide, uw_X1, List.mem_of_getElem? (i := 89) (by decide +kernel), rfl⟩
theorem kf_X2_69_1 : sh_fl RX2 69 1 2 := ⟨RX1, TX1, 3, "SillHouse$Plan", rfl, by decide, uw_X1, List.mem_of_getElem? (i := 92) (by decide +kernel), rfl⟩
theorem kl_X2_73 : Cond.methodLink RX2 73 yX4_beyond ∈ lw_tbl := List.mem_of_getElem? (i := 545) (by decide +kernel)
theorem kf_X2_18_2 : sh_fl RX2 18 2 2 := ⟨RX2, TX2, 9, "SillHouse$Search", rfl, by decide, uw_X2, List.mem_of_getElem? (i := 140) (by decide +kernel), rfl⟩
theorem kf_X2_36_2 : sh_fl RX2 36 2 7 := ⟨RX2, TX2, 9, "SillHouse$Search", rfl, by decide, uw_X2, List.mem_of_getElem? (i := 145) (by decide +kernel), rfl⟩
theorem kp_X2_meet_39_2 : sh_fp mX2_meet 39 2 8 .int := ⟨RX2, TX2, 9, "SillHouse$Search", tyX2, rfl, by decide, uw_X2, List.mem_of_getElem? (i := 146) (by decide +kernel), rfl, tyX2_ok, nmX2, rfl, Or.inl rfl⟩
theorem kp_X2_meet_42_2 : sh_fp mX2_meet 42 2 6 .int := ⟨RX2, TX2, 9, "SillHouse$Search", tyX2, rfl, by decide, uw_X2, List.mem_of_getElem? (i := 144) (by decide +kernel), rfl, tyX2_ok, nmX2, rfl, Or.inl rfl⟩
theorem kl_X3_3 : Cond.methodLink RX3 3 objectInit ∈ lw_tbl := List.mem_of_getElem? (i := 182) (by decide +kernel)
theorem kp_X3_init_9_3 : sh_fp mX3_init 9 3 0 (.array .int) := ⟨RX3, TX3, 3, "SillHouse$Sheet", tyX3, rfl, by decide, uw_X3, List.mem_of_getElem? (i := 183) (by decide +kernel), rfl, tyX3_ok, nmX3, rfl, Or.inr ⟨rfl, rfl, rfl⟩⟩
theorem kp_X3_init_15_3 : sh_fp mX3_init 15 3 1 .int := ⟨RX3, TX3, 3, "SillHouse$Sheet", tyX3, rfl, by decide, uw_X3, List.mem_of_getElem? (i := 185) (by decide +kernel), rfl, tyX3_ok, nmX3, rfl, Or.inl rfl⟩
theorem kf_X3_15_3 : sh_fl RX3 15 3 1 := ⟨RX3, TX3, 3, "SillHouse$Sheet", rfl, by decide, uw_X3, List.mem_of_getElem? (i := 185) (by decide +kernel), rfl⟩
theorem kp_X3_empty_15_3 : sh_fp mX3_empty 15 3 1 .int := ⟨RX3, TX3, 3, "SillHouse$Sheet", tyX3, rfl, by decide, uw_X3, List.mem_of_getElem? (i := 185) (by decide +kernel), rfl, tyX3_ok, nmX3, rfl, Or.inl rfl⟩
theorem kp_X3_empty_19_3 : sh_fp mX3_empty 19 3 2 .int := ⟨RX3, TX3, 3, "SillHouse$Sheet", tyX3, rfl, by decide, uw_X3, List.mem_of_getElem? (i := 187) (by decide +kernel), rfl, tyX3_ok, nmX3, rfl, Or.inl rfl⟩
theorem kp_X3_renew_15_3 : sh_fp mX3_renew 15 3 1 .int := ⟨RX3, TX3, 3, "SillHouse$Sheet", tyX3, rfl, by decide, uw_X3, List.mem_of_getElem? (i := 185) (by decide +kernel), rfl, tyX3_ok, nmX3, rfl, Or.inl rfl⟩
theorem kp_X3_renew_19_3 : sh_fp mX3_renew 19 3 2 .int := ⟨RX3, TX3, 3, "SillHouse$Sheet", tyX3, rfl, by decide, uw_X3, List.mem_of_getElem? (i := 187) (by decide +kernel), rfl, tyX3_ok, nmX3, rfl, Or.inl rfl⟩
theorem kf_X3_9_3 : sh_fl RX3 9 3 0 := ⟨RX3, TX3, 3, "SillHouse$Sheet", rfl, by decide, uw_X3, List.mem_of_getElem? (i := 183) (by decide +kernel), rfl⟩
theorem kf_X3_19_3 : sh_fl RX3 19 3 2 := ⟨RX3, TX3, 3, "SillHouse$Sheet", rfl, by decide, uw_X3, List.mem_of_getElem? (i := 187) (by decide +kernel), rfl⟩
theorem kl_X4_5 : Cond.methodLink RX4 5 yX4_init_ ∈ lw_tbl := List.mem_of_getElem? (i := 309) (by decide +kernel)
theorem kl_X4_9 : Cond.methodLink RX4 9 objectInit ∈ lw_tbl := List.mem_of_getElem? (i := 312) (by decide +kernel)
theorem kp_X4_init__14_4 : sh_fp mX4_init_ 14 4 0 .int := ⟨RX4, TX4, 7, "SillHouse$Sill", tyX4, rfl, by decide, uw_X4, List.mem_of_getElem? (i := 316) (by decide +kernel), rfl, tyX4_ok, nmX4, rfl, Or.inr ⟨rfl, rfl, rfl⟩⟩
theorem kp_X4_init__14_7 : sh_fp mX4_init_ 14 7 0 .int := ⟨RX7, TX7, 7, "SillHouse$Sill", tyX7, rfl, by decide, uw_X7, List.mem_of_getElem? (i := 316) (by decide +kernel), rfl, tyX7_ok, nmX7, rfl, Or.inr ⟨rfl, rfl, rfl⟩⟩
theorem kp_X4_init__14_8 : sh_fp mX4_init_ 14 8 0 .int := ⟨RX8, TX8, 7, "SillHouse$Sill", tyX8, rfl, by decide, uw_X8, List.mem_of_getElem? (i := 316) (by decide +kernel), rfl, tyX8_ok, nmX8, rfl, Or.inr ⟨rfl, rfl, rfl⟩⟩
theorem kp_X4_init__18_4 : sh_fp mX4_init_ 18 4 1 .int := ⟨RX4, TX4, 7, "SillHouse$Sill", tyX4, rfl, by decide, uw_X4, List.mem_of_getElem? (i := 318) (by decide +kernel), rfl, tyX4_ok, nmX4, rfl, Or.inr ⟨rfl, rfl, rfl⟩⟩
theorem kp_X4_init__18_7 : sh_fp mX4_init_ 18 7 1 .int := ⟨RX7, TX7, 7, "SillHouse$Sill", tyX7, rfl, by decide, uw_X7, List.mem_of_getElem? (i := 318) (by decide +kernel), rfl, tyX7_ok, nmX7, rfl, Or.inr ⟨rfl, rfl, rfl⟩⟩
theorem kp_X4_init__18_8 : sh_fp mX4_init_ 18 8 1 .int := ⟨RX8, TX8, 7, "SillHouse$Sill", tyX8, rfl, by decide, uw_X8, List.mem_of_getElem? (i := 318) (by decide +kernel), rfl, tyX8_ok, nmX8, rfl, Or.inr ⟨rfl, rfl, rfl⟩⟩
theorem kp_X4_init__21_4 : sh_fp mX4_init_ 21 4 2 .int := ⟨RX4, TX4, 7, "SillHouse$Sill", tyX4, rfl, by decide, uw_X4, List.mem_of_getElem? (i := 320) (by decide +kernel), rfl, tyX4_ok, nmX4, rfl, Or.inr ⟨rfl, rfl, rfl⟩⟩
theorem kp_X4_init__21_7 : sh_fp mX4_init_ 21 7 2 .int := ⟨RX7, TX7, 7, "SillHouse$Sill", tyX7, rfl, by decide, uw_X7, List.mem_of_getElem? (i := 320) (by decide +kernel), rfl, tyX7_ok, nmX7, rfl, Or.inr ⟨rfl, rfl, rfl⟩⟩
theorem kp_X4_init__21_8 : sh_fp mX4_init_ 21 8 2 .int := ⟨RX8, TX8, 7, "SillHouse$Sill", tyX8, rfl, by decide, uw_X8, List.mem_of_getElem? (i := 320) (by decide +kernel), rfl, tyX8_ok, nmX8, rfl, Or.inr ⟨rfl, rfl, rfl⟩⟩
theorem kl_X4_24 : Cond.methodLink RX4 24 yJ9_max_7cf53 ∈ lw_tbl := List.mem_of_getElem? (i := 313) (by decide +kernel)
theorem kp_X4_init__30_4 : sh_fp mX4_init_ 30 4 3 .int := ⟨RX4, TX4, 7, "SillHouse$Sill", tyX4, rfl, by decide, uw_X4, List.mem_of_getElem? (i := 321) (by decide +kernel), rfl, tyX4_ok, nmX4, rfl, Or.inr ⟨rfl, rfl, rfl⟩⟩
theorem kp_X4_init__30_7 : sh_fp mX4_init_ 30 7 3 .int := ⟨RX7, TX7, 7, "SillHouse$Sill", tyX7, rfl, by decide, uw_X7, List.mem_of_getElem? (i := 321) (by decide +kernel), rfl, tyX7_ok, nmX7, rfl, Or.inr ⟨rfl, rfl, rfl⟩⟩
theorem kp_X4_init__30_8 : sh_fp mX4_init_ 30 8 3 .int := ⟨RX8, TX8, 7, "SillHouse$Sill", tyX8, rfl, by decide, uw_X8, List.mem_of_getElem? (i := 321) (by decide +kernel), rfl, tyX8_ok, nmX8, rfl, Or.inr ⟨rfl, rfl, rfl⟩⟩
theorem kp_X4_init__33_4 : sh_fp mX4_init_ 33 4 4 .int := ⟨RX4, TX4, 7, "SillHouse$Sill", tyX4, rfl, by decide, uw_X4, List.mem_of_getElem? (i := 322) (by decide +kernel), rfl, tyX4_ok, nmX4, rfl, Or.inr ⟨rfl, rfl, rfl⟩⟩
theorem kp_X4_init__33_7 : sh_fp mX4_init_ 33 7 4 .int := ⟨RX7, TX7, 7, "SillHouse$Sill", tyX7, rfl, by decide, uw_X7, List.mem_of_getElem? (i := 322) (by decide +kernel), rfl, tyX7_ok, nmX7, rfl, Or.inr ⟨rfl, rfl, rfl⟩⟩
theorem kp_X4_init__33_8 : sh_fp mX4_init_ 33 8 4 .int := ⟨RX8, TX8, 7, "SillHouse$Sill", tyX8, rfl, by decide, uw_X8, List.mem_of_getElem? (i := 322) (by decide +kernel), rfl, tyX8_ok, nmX8, rfl, Or.inr ⟨rfl, rfl, rfl⟩⟩
theorem kp_X4_init__36_4 : sh_fp mX4_init_ 36 4 5 .int := ⟨RX4, TX4, 7, "SillHouse$Sill", tyX4, rfl, by decide, uw_X4, List.mem_of_getElem? (i := 323) (by decide +kernel), rfl, tyX4_ok, nmX4, rfl, Or.inr ⟨rfl, rfl, rfl⟩⟩
theorem kp_X4_init__36_7 : sh_fp mX4_init_ 36 7 5 .int := ⟨RX7, TX7, 7, "SillHouse$Sill", tyX7, rfl, by decide, uw_X7, List.mem_of_getElem? (i := 323) (by decide +kernel), rfl, tyX7_ok, nmX7, rfl, Or.inr ⟨rfl, rfl, rfl⟩⟩
theorem kp_X4_init__36_8 : sh_fp mX4_init_ 36 8 5 .int := ⟨RX8, TX8, 7, "SillHouse$Sill", tyX8, rfl, by decide, uw_X8, List.mem_of_getElem? (i := 323) (by decide +kernel), rfl, tyX8_ok, nmX8, rfl, Or.inr ⟨rfl, rfl, rfl⟩⟩
theorem kp_X4_init__39_4 : sh_fp mX4_init_ 39 4 6 .int := ⟨RX4, TX4, 7, "SillHouse$Sill", tyX4, rfl, by decide, uw_X4, List.mem_of_getElem? (i := 324) (by decide +kernel), rfl, tyX4_ok, nmX4, rfl, Or.inr ⟨rfl, rfl, rfl⟩⟩
theorem kp_X4_init__39_7 : sh_fp mX4_init_ 39 7 6 .int := ⟨RX7, TX7, 7, "SillHouse$Sill", tyX7, rfl, by decide, uw_X7, List.mem_of_getElem? (i := 324) (by decide +kernel), rfl, tyX7_ok, nmX7, rfl, Or.inr ⟨rfl, rfl, rfl⟩⟩
theorem kp_X4_init__39_8 : sh_fp mX4_init_ 39 8 6 .int := ⟨RX8, TX8, 7, "SillHouse$Sill", tyX8, rfl, by decide, uw_X8, List.mem_of_getElem? (i := 324) (by decide +kernel), rfl, tyX8_ok, nmX8, rfl, Or.inr ⟨rfl, rfl, rfl⟩⟩
theorem kf_X4_14_4 : sh_fl RX4 14 4 0 := ⟨RX4, TX4, 7, "SillHouse$Sill", rfl, by decide, uw_X4, List.mem_of_getElem? (i := 316) (by decide +kernel), rfl⟩
theorem kf_X4_14_7 : sh_fl RX4 14 7 0 := ⟨RX7, TX7, 7, "SillHouse$Sill", rfl, by decide, uw_X7, List.mem_of_getElem? (i := 316) (by decide +kernel), rfl⟩
theorem kf_X4_14_8 : sh_fl RX4 14 8 0 := ⟨RX8, TX8, 7, "SillHouse$Sill", rfl, by decide, uw_X8, List.mem_of_getElem? (i := 316) (by decide +kernel), rfl⟩
theorem kf_X4_18_4 : sh_fl RX4 18 4 1 := ⟨RX4, TX4, 7, "SillHouse$Sill", rfl, by decide, uw_X4, List.mem_of_getElem? (i := 318) (by decide +kernel), rfl⟩
theorem kf_X4_18_7 : sh_fl RX4 18 7 1 := ⟨RX7, TX7, 7, "SillHouse$Sill", rfl, by decide, uw_X7, List.mem_of_getElem? (i := 318) (by decide +kernel), rfl⟩
theorem kf_X4_18_8 : sh_fl RX4 18 8 1 := ⟨RX8, TX8, 7, "SillHouse$Sill", rfl, by decide, uw_X8, List.mem_of_getElem? (i := 318) (by decide +kernel), rfl⟩
theorem kf_X4_30_4 : sh_fl RX4 30 4 3 := ⟨RX4, TX4, 7, "SillHouse$Sill", rfl, by decide, uw_X4, List.mem_of_getElem? (i := 321) (by decide +kernel), rfl⟩
theorem kf_X4_30_7 : sh_fl RX4 30 7 3 := ⟨RX7, TX7, 7, "SillHouse$Sill", rfl, by decide, uw_X7, List.mem_of_getElem? (i := 321) (by decide +kernel), rfl⟩
theorem kf_X4_30_8 : sh_fl RX4 30 8 3 := ⟨RX8, TX8, 7, "SillHouse$Sill", rfl, by decide, uw_X8, List.mem_of_getElem? (i := 321) (by decide +kernel), rfl⟩
theorem kf_X4_33_4 : sh_fl RX4 33 4 4 := ⟨RX4, TX4, 7, "SillHouse$Sill", rfl, by decide, uw_X4, List.mem_of_getElem? (i := 322) (by decide +kernel), rfl⟩
theorem kf_X4_33_7 : sh_fl RX4 33 7 4 := ⟨RX7, TX7, 7, "SillHouse$Sill", rfl, by decide, uw_X7, List.mem_of_getElem? (i := 322) (by decide +kernel), rfl⟩
theorem kf_X4_33_8 : sh_fl RX4 33 8 4 := ⟨RX8, TX8, 7, "SillHouse$Sill", rfl, by decide, uw_X8, List.mem_of_getElem? (i := 322) (by decide +kernel), rfl⟩
theorem kf_X4_36_4 : sh_fl RX4 36 4 5 := ⟨RX4, TX4, 7, "SillHouse$Sill", rfl, by decide, uw_X4, List.mem_of_getElem? (i := 323) (by decide +kernel), rfl⟩
theorem kf_X4_36_7 : sh_fl RX4 36 7 5 := ⟨RX7, TX7, 7, "SillHouse$Sill", rfl, by decide, uw_X7, List.mem_of_getElem? (i := 323) (by decide +kernel), rfl⟩
theorem kf_X4_36_8 : sh_fl RX4 36 8 5 := ⟨RX8, TX8, 7, "SillHouse$Sill", rfl, by decide, uw_X8, List.mem_of_getElem? (i := 323) (by decide +kernel), rfl⟩
theorem kf_X4_39_4 : sh_fl RX4 39 4 6 := ⟨RX4, TX4, 7, "SillHouse$Sill", rfl, by decide, uw_X4, List.mem_of_getElem? (i := 324) (by decide +kernel), rfl⟩
theorem kf_X4_39_7 : sh_fl RX4 39 7 6 := ⟨RX7, TX7, 7, "SillHouse$Sill", rfl, by decide, uw_X7, List.mem_of_getElem? (i := 324) (by decide +kernel), rfl⟩
theorem kf_X4_39_8 : sh_fl RX4 39 8 6 := ⟨RX8, TX8, 7, "SillHouse$Sill", rfl, by decide, uw_X8, List.mem_of_getElem? (i := 324) (by decide +kernel), rfl⟩
theorem kl_X4_42 : Cond.methodLink RX4 42 yX4_kind ∈ lw_tbl := List.mem_of_getElem? (i := 390) (by decide +kernel)
theorem kq_X4_X4_kind : Cond.sameMethod RX4 RX4 "kind" "()I" ∈ lw_tbl := List.mem_of_getElem? (i := 393) (by decide +kernel)
theorem kx_X7_X7_kind_X4 : Cond.selects RX7 yX4_kind yX7_kind ∈ lw_tbl := List.mem_of_getElem? (i := 394) (by decide +kernel)
theorem kx_X8_X8_kind_X4 : Cond.selects RX8 yX4_kind yX8_kind ∈ lw_tbl := List.mem_of_getElem? (i := 397) (by decide +kernel)
theorem kf_X4_21_4 : sh_fl RX4 21 4 2 := ⟨RX4, TX4, 7, "SillHouse$Sill", rfl, by decide, uw_X4, List.mem_of_getElem? (i := 320) (by decide +kernel), rfl⟩
theorem kf_X4_21_7 : sh_fl RX4 21 7 2 := ⟨RX7, TX7, 7, "SillHouse$Sill", rfl, by decide, uw_X7, List.mem_of_getElem? (i := 320) (by decide +kernel), rfl⟩
theorem kf_X4_21_8 : sh_fl RX4 21 8 2 := ⟨RX8, TX8, 7, "SillHouse$Sill", rfl, by decide, uw_X8, List.mem_of_getElem? (i := 320) (by decide +kernel), rfl⟩
theorem kl_X4_46 : Cond.methodLink RX4 46 yX6_note ∈ lw_tbl := List.mem_of_getElem? (i := 682) (by decide +kernel)
theorem kl_X4_52 : Cond.methodLink RX4 52 yX4_sillsTelling ∈ lw_tbl := List.mem_of_getElem? (i := 684) (by decide +kernel)
theorem kq_X4_X4_sillsTelling : Cond.sameMethod RX4 RX4 "sillsTelling" "(LSillHouse$Trace;)I" ∈ lw_tbl := List.mem_of_getElem? (i := 1121) (by decide +kernel)
theorem kx_X7_X4_sillsTelling_X4 : Cond.selects RX7 yX4_sillsTelling yX4_sillsTelling ∈ lw_tbl := List.mem_of_getElem? (i := 1123) (by decide +kernel)
theorem kx_X8_X4_sillsTelling_X4 : Cond.selects RX8 yX4_sillsTelling yX4_sillsTelling ∈ lw_tbl := List.mem_of_getElem? (i := 1124) (by decide +kernel)
theorem kl_X5_3 : Cond.methodLink RX5 3 objectInit ∈ lw_tbl := List.mem_of_getElem? (i := 245) (by decide +kernel)
theorem kp_X5_init_9_5 : sh_fp mX5_init 9 5 0 (.array .int) := ⟨RX5, TX5, 3, "SillHouse$Text", tyX5, rfl, by decide, uw_X5, List.mem_of_getElem? (i := 246) (by decide +kernel), rfl, tyX5_ok, nmX5, rfl, Or.inr ⟨rfl, rfl, rfl⟩⟩
theorem kp_X5_init_15_5 : sh_fp mX5_init 15 5 1 .int := ⟨RX5, TX5, 3, "SillHouse$Text", tyX5, rfl, by decide, uw_X5, List.mem_of_getElem? (i := 247) (by decide +kernel), rfl, tyX5_ok, nmX5, rfl, Or.inr ⟨rfl, rfl, rfl⟩⟩
theorem kp_X5_init_19_5 : sh_fp mX5_init 19 5 2 .int := ⟨RX5, TX5, 3, "SillHouse$Text", tyX5, rfl, by decide, uw_X5, List.mem_of_getElem? (i := 248) (by decide +kernel), rfl, tyX5_ok, nmX5, rfl, Or.inr ⟨rfl, rfl, rfl⟩⟩
theorem kf_X5_19_5 : sh_fl RX5 19 5 2 := ⟨RX5, TX5, 3, "SillHouse$Text", rfl, by decide, uw_X5, List.mem_of_getElem? (i := 248) (by decide +kernel), rfl⟩
theorem kl_X5_22 : Cond.methodLink RX5 22 yX5_goesOn ∈ lw_tbl := List.mem_of_getElem? (i := 260) (by decide +kernel)
theorem kl_X5_26 : Cond.methodLink RX5 26 yX5_isNought ∈ lw_tbl := List.mem_of_getElem? (i := 284) (by decide +kernel)
theorem kl_X5_29 : Cond.methodLink RX5 29 yX5_digit ∈ lw_tbl := List.mem_of_getElem? (i := 272) (by decide +kernel)
theorem kl_X5_33 : Cond.methodLink RX5 33 yX5_code ∈ lw_tbl := List.mem_of_getElem? (i := 264) (by decide +kernel)
theorem kn_X5_door_36 : sh_nw mX5_door 36 4 7 [.int 0, .int 0, .int 0, .int 0, .int 0, .int 0, .int 0] := by
  refine ⟨RX4, TX4, tyX4, rfl, List.mem_of_getElem? (i := 304) (by decide +kernel), List.mem_of_getElem? (i := 305) (by decide +kernel), List.mem_of_getElem? (i := 62) (by decide +kernel), uw_X4, tyX4_ok, fun G j hj => ?_⟩
  match j, hj with
  | 0, _ => exact rfl
  | 1, _ => exact rfl
  | 2, _ => exact rfl
  | 3, _ => exact rfl
  | 4, _ => exact rfl
  | 5, _ => exact rfl
  | 6, _ => exact rfl
  | n + 7, h => exact absurd h (by omega)
theorem kl_X5_38 : Cond.methodLink RX5 38 yX4_init ∈ lw_tbl := List.mem_of_getElem? (i := 306) (by decide +kernel)
theorem kn_X5_door_41 : sh_nw mX5_door 41 7 7 [.int 0, .int 0, .int 0, .int 0, .int 0, .int 0, .int 0] := by
  refine ⟨RX7, TX7, tyX7, rfl, List.mem_of_getElem? (i := 340) (by decide +kernel), List.mem_of_getElem? (i := 341) (by decide +kernel), List.mem_of_getElem? (i := 63) (by decide +kernel), uw_X7, tyX7_ok, fun G j hj => ?_⟩
  match j, hj with
  | 0, _ => exact rfl
  | 1, _ => exact rfl
  | 2, _ => exact rfl
  | 3, _ => exact rfl
  | 4, _ => exact rfl
  | 5, _ => exact rfl
  | 6, _ => exact rfl
  | n + 7, h => exact absurd h (by omega)
theorem kl_X5_43 : Cond.methodLink RX5 43 yX7_init ∈ lw_tbl := List.mem_of_getElem? (i := 342) (by decide +kernel)
theorem kn_X5_door_44 : sh_nw mX5_door 44 8 7 [.int 0, .int 0, .int 0, .int 0, .int 0, .int 0, .int 0] := by
  refine ⟨RX8, TX8, tyX8, rfl, List.mem_of_getElem? (i := 357) (by decide +kernel), List.mem_of_getElem? (i := 358) (by decide +kernel), List.mem_of_getElem? (i := 64) (by decide +kernel), uw_X8, tyX8_ok, fun G j hj => ?_⟩
  match j, hj with
  | 0, _ => exact rfl
  | 1, _ => exact rfl
  | 2, _ => exact rfl
  | 3, _ => exact rfl
  | 4, _ => exact rfl
  | 5, _ => exact rfl
  | 6, _ => exact rfl
  | n + 7, h => exact absurd h (by omega)
theorem kl_X5_46 : Cond.methodLink RX5 46 yX8_init ∈ lw_tbl := List.mem_of_getElem? (i := 359) (by decide +kernel)
theorem kf_X5_15_5 : sh_fl RX5 15 5 1 := ⟨RX5, TX5, 3, "SillHouse$Text", rfl, by decide, uw_X5, List.mem_of_getElem? (i := 247) (by decide +kernel), rfl⟩
theorem kf_X5_9_5 : sh_fl RX5 9 5 0 := ⟨RX5, TX5, 3, "SillHouse$Text", rfl, by decide, uw_X5, List.mem_of_getElem? (i := 246) (by decide +kernel), rfl⟩
theorem kl_X5_47 : Cond.methodLink RX5 47 yX5_rooms ∈ lw_tbl := List.mem_of_getElem? (i := 276) (by decide +kernel)
theorem kl_X5_51 : Cond.methodLink RX5 51 yX5_isRoom ∈ lw_tbl := List.mem_of_getElem? (i := 268) (by decide +kernel)
theorem kl_X5_54 : Cond.methodLink RX5 54 yX5_isDigit ∈ lw_tbl := List.mem_of_getElem? (i := 280) (by decide +kernel)
theorem kl_X6_1 : Cond.methodLink RX6 1 objectInit ∈ lw_tbl := List.mem_of_getElem? (i := 172) (by decide +kernel)
theorem kf_X6_7_6 : sh_fl RX6 7 6 0 := ⟨RX6, TX6, 1, "SillHouse$Trace", rfl, by decide, uw_X6, List.mem_of_getElem? (i := 173) (by decide +kernel), rfl⟩
theorem kp_X6_note_7_6 : sh_fp mX6_note 7 6 0 .int := ⟨RX6, TX6, 1, "SillHouse$Trace", tyX6, rfl, by decide, uw_X6, List.mem_of_getElem? (i := 173) (by decide +kernel), rfl, tyX6_ok, nmX6, rfl, Or.inl rfl⟩
theorem kl_X7_5 : Cond.methodLink RX7 5 yX7_init_ ∈ lw_tbl := List.mem_of_getElem? (i := 345) (by decide +kernel)
theorem kl_X7_11 : Cond.methodLink RX7 11 yX4_init_ ∈ lw_tbl := List.mem_of_getElem? (i := 348) (by decide +kernel)
theorem kl_X7_14 : Cond.methodLink RX7 14 yX6_note ∈ lw_tbl := List.mem_of_getElem? (i := 666) (by decide +kernel)
theorem kl_X7_20 : Cond.methodLink RX7 20 yX4_telling ∈ lw_tbl := List.mem_of_getElem? (i := 670) (by decide +kernel)
theorem kq_X4_X4_telling : Cond.sameMethod RX4 RX4 "telling" "(LSillHouse$Trace;)I" ∈ lw_tbl := List.mem_of_getElem? (i := 662) (by decide +kernel)
theorem kx_X7_X7_telling_X4 : Cond.selects RX7 yX4_telling yX7_telling ∈ lw_tbl := List.mem_of_getElem? (i := 663) (by decide +kernel)
theorem kx_X8_X8_telling_X4 : Cond.selects RX8 yX4_telling yX8_telling ∈ lw_tbl := List.mem_of_getElem? (i := 671) (by decide +kernel)
theorem kl_X8_5 : Cond.methodLink RX8 5 yX7_init_ ∈ lw_tbl := List.mem_of_getElem? (i := 362) (by decide +kernel)
theorem kl_X8_11 : Cond.methodLink RX8 11 yX6_note ∈ lw_tbl := List.mem_of_getElem? (i := 674) (by decide +kernel)
theorem kl_X8_17 : Cond.methodLink RX8 17 yX7_telling ∈ lw_tbl := List.mem_of_getElem? (i := 675) (by decide +kernel)
theorem kq_X7_X7_telling : Cond.sameMethod RX7 RX7 "telling" "(LSillHouse$Trace;)I" ∈ lw_tbl := List.mem_of_getElem? (i := 1120) (by decide +kernel)
theorem kl_X8_21 : Cond.methodLink RX8 21 ⟨"SillHouse$Worn", "sillsTelling", "(LSillHouse$Trace;)I"⟩ ∈ lw_tbl := List.mem_of_getElem? (i := 676) (by decide +kernel)
theorem kq_X8_X4_sillsTelling : Cond.sameMethod RX8 RX4 "sillsTelling" "(LSillHouse$Trace;)I" ∈ lw_tbl := List.mem_of_getElem? (i := 677) (by decide +kernel)
theorem kx_X8_X4_sillsTelling_X8 : Cond.selects RX8 ⟨"SillHouse$Worn", "sillsTelling", "(LSillHouse$Trace;)I"⟩ yX4_sillsTelling ∈ lw_tbl := List.mem_of_getElem? (i := 679) (by decide +kernel)
theorem kl_X9_3 : Cond.methodLink RX9 3 objectInit ∈ lw_tbl := List.mem_of_getElem? (i := 72) (by decide +kernel)
theorem ka_X9_11 : Cond.classLink RX9 11 RX3 ∈ lw_tbl := List.mem_of_getElem? (i := 75) (by decide +kernel)
theorem kp_X9_init_13_9 : sh_fp mX9_init 13 9 0 (.array (.object "SillHouse$Sheet")) := ⟨RX9, TX9, 6, "SillHouse", tyX9, rfl, by decide, uw_X9, List.mem_of_getElem? (i := 195) (by decide +kernel), rfl, tyX9_ok, nmX9, rfl, Or.inr ⟨rfl, rfl, rfl⟩⟩
theorem kn_X9_init_17 : sh_nw mX9_init 17 1 3 [.int 0, .int 0, .null] := by
  refine ⟨RX1, TX1, tyX1, rfl, List.mem_of_getElem? (i := 77) (by decide +kernel), List.mem_of_getElem? (i := 78) (by decide +kernel), List.mem_of_getElem? (i := 54) (by decide +kernel), uw_X1, tyX1_ok, fun G j hj => ?_⟩
  match j, hj with
  | 0, _ => exact rfl
  | 1, _ => exact rfl
  | 2, _ => exact rfl
  | n + 3, h => exact absurd h (by omega)
theorem kp_X9_init_20_9 : sh_fp mX9_init 20 9 1 (.object "SillHouse$Plan") := ⟨RX9, TX9, 6, "SillHouse", tyX9, rfl, by decide, uw_X9, List.mem_of_getElem? (i := 196) (by decide +kernel), rfl, tyX9_ok, nmX9, rfl, Or.inr ⟨rfl, rfl, rfl⟩⟩
theorem kn_X9_init_24 : sh_nw mX9_init 24 0 6 [.int 0, .int 0, .null, .null, .null, .null] := by
  refine ⟨RX0, TX0, tyX0, rfl, List.mem_of_getElem? (i := 100) (by decide +kernel), List.mem_of_getElem? (i := 101) (by decide +kernel), List.mem_of_getElem? (i := 55) (by decide +kernel), uw_X0, tyX0_ok, fun G j hj => ?_⟩
  match j, hj with
  | 0, _ => exact rfl
  | 1, _ => exact rfl
  | 2, _ => exact rfl
  | 3, _ => exact rfl
  | 4, _ => exact rfl
  | 5, _ => exact rfl
  | n + 6, h => exact absurd h (by omega)
theorem kp_X9_init_27_9 : sh_fp mX9_init 27 9 2 (.object "SillHouse$Folk") := ⟨RX9, TX9, 6, "SillHouse", tyX9, rfl, by decide, uw_X9, List.mem_of_getElem? (i := 197) (by decide +kernel), rfl, tyX9_ok, nmX9, rfl, Or.inr ⟨rfl, rfl, rfl⟩⟩
theorem kn_X9_init_31 : sh_nw mX9_init 31 2 9 [.null, .null, .null, .null, .int 0, .int 0, .int 0, .int 0, .int 0] := by
  refine ⟨RX2, TX2, tyX2, rfl, List.mem_of_getElem? (i := 132) (by decide +kernel), List.mem_of_getElem? (i := 133) (by decide +kernel), List.mem_of_getElem? (i := 56) (by decide +kernel), uw_X2, tyX2_ok, fun G j hj => ?_⟩
  match j, hj with
  | 0, _ => exact rfl
  | 1, _ => exact rfl
  | 2, _ => exact rfl
  | 3, _ => exact rfl
  | 4, _ => exact rfl
  | 5, _ => exact rfl
  | 6, _ => exact rfl
  | 7, _ => exact rfl
  | 8, _ => exact rfl
  | n + 9, h => exact absurd h (by omega)
theorem kp_X9_init_34_9 : sh_fp mX9_init 34 9 3 (.object "SillHouse$Search") := ⟨RX9, TX9, 6, "SillHouse", tyX9, rfl, by decide, uw_X9, List.mem_of_getElem? (i := 198) (by decide +kernel), rfl, tyX9_ok, nmX9, rfl, Or.inr ⟨rfl, rfl, rfl⟩⟩
theorem kn_X9_init_38 : sh_nw mX9_init 38 6 1 [.int 0] := by
  refine ⟨RX6, TX6, tyX6, rfl, List.mem_of_getElem? (i := 167) (by decide +kernel), List.mem_of_getElem? (i := 168) (by decide +kernel), List.mem_of_getElem? (i := 57) (by decide +kernel), uw_X6, tyX6_ok, fun G j hj => ?_⟩
  match j, hj with
  | 0, _ => exact rfl
  | n + 1, h => exact absurd h (by omega)
theorem kp_X9_init_41_9 : sh_fp mX9_init 41 9 4 (.object "SillHouse$Trace") := ⟨RX9, TX9, 6, "SillHouse", tyX9, rfl, by decide, uw_X9, List.mem_of_getElem? (i := 199) (by decide +kernel), rfl, tyX9_ok, nmX9, rfl, Or.inr ⟨rfl, rfl, rfl⟩⟩
theorem kf_X9_13_9 : sh_fl RX9 13 9 0 := ⟨RX9, TX9, 6, "SillHouse", rfl, by decide, uw_X9, List.mem_of_getElem? (i := 195) (by decide +kernel), rfl⟩
theorem kn_X9_init_11 : sh_nw mX9_init 11 3 3 [.null, .int 0, .int 0] := by
  refine ⟨RX3, TX3, tyX3, rfl, List.mem_of_getElem? (i := 75) (by decide +kernel), List.mem_of_getElem? (i := 178) (by decide +kernel), List.mem_of_getElem? (i := 58) (by decide +kernel), uw_X3, tyX3_ok, fun G j hj => ?_⟩
  match j, hj with
  | 0, _ => exact rfl
  | 1, _ => exact rfl
  | 2, _ => exact rfl
  | n + 3, h => exact absurd h (by omega)
theorem kl_X9_46 : Cond.methodLink RX9 46 yX9_cellsRefused ∈ lw_tbl := List.mem_of_getElem? (i := 218) (by decide +kernel)
theorem kn_X9_house_50 : sh_nw mX9_house 50 5 3 [.null, .int 0, .int 0] := by
  refine ⟨RX5, TX5, tyX5, rfl, List.mem_of_getElem? (i := 240) (by decide +kernel), List.mem_of_getElem? (i := 241) (by decide +kernel), List.mem_of_getElem? (i := 60) (by decide +kernel), uw_X5, tyX5_ok, fun G j hj => ?_⟩
  match j, hj with
  | 0, _ => exact rfl
  | 1, _ => exact rfl
  | 2, _ => exact rfl
  | n + 3, h => exact absurd h (by omega)
theorem kf_X9_52_3 : sh_fl RX9 52 3 0 := ⟨RX3, TX3, 3, "SillHouse$Sheet", rfl, by decide, uw_X3, List.mem_of_getElem? (i := 184) (by decide +kernel), rfl⟩
theorem kl_X9_56 : Cond.methodLink RX9 56 yX5_init ∈ lw_tbl := List.mem_of_getElem? (i := 242) (by decide +kernel)
theorem kl_X9_59 : Cond.methodLink RX9 59 yX5_firstFault ∈ lw_tbl := List.mem_of_getElem? (i := 256) (by decide +kernel)
theorem kf_X9_20_9 : sh_fl RX9 20 9 1 := ⟨RX9, TX9, 6, "SillHouse", rfl, by decide, uw_X9, List.mem_of_getElem? (i := 196) (by decide +kernel), rfl⟩
theorem kl_X9_63 : Cond.methodLink RX9 63 yX1_build ∈ lw_tbl := List.mem_of_getElem? (i := 288) (by decide +kernel)
theorem kf_X9_27_9 : sh_fl RX9 27 9 2 := ⟨RX9, TX9, 6, "SillHouse", rfl, by decide, uw_X9, List.mem_of_getElem? (i := 197) (by decide +kernel), rfl⟩
theorem kl_X9_67 : Cond.methodLink RX9 67 yX0_leave ∈ lw_tbl := List.mem_of_getElem? (i := 371) (by decide +kernel)
theorem kf_X9_70_1 : sh_fl RX9 70 1 1 := ⟨RX1, TX1, 3, "SillHouse$Plan", rfl, by decide, uw_X1, List.mem_of_getElem? (i := 88) (by decide +kernel), rfl⟩
theorem kl_X9_74 : Cond.methodLink RX9 74 yX1_hasDoor ∈ lw_tbl := List.mem_of_getElem? (i := 379) (by decide +kernel)
theorem kf_X9_78_1 : sh_fl RX9 78 1 2 := ⟨RX1, TX1, 3, "SillHouse$Plan", rfl, by decide, uw_X1, List.mem_of_getElem? (i := 91) (by decide +kernel), rfl⟩
theorem kl_X9_82 : Cond.methodLink RX9 82 yX4_told ∈ lw_tbl := List.mem_of_getElem? (i := 383) (by decide +kernel)
theorem kq_X4_X4_told : Cond.sameMethod RX4 RX4 "told" "(I)I" ∈ lw_tbl := List.mem_of_getElem? (i := 386) (by decide +kernel)
theorem kx_X7_X4_told_X4 : Cond.selects RX7 yX4_told yX4_told ∈ lw_tbl := List.mem_of_getElem? (i := 387) (by decide +kernel)
theorem kx_X8_X4_told_X4 : Cond.selects RX8 yX4_told yX4_told ∈ lw_tbl := List.mem_of_getElem? (i := 388) (by decide +kernel)
theorem kl_X9_88 : Cond.methodLink RX9 88 yX1_hasRoom ∈ lw_tbl := List.mem_of_getElem? (i := 405) (by decide +kernel)
theorem kl_X9_91 : Cond.methodLink RX9 91 yX9_isPersonsWeight ∈ lw_tbl := List.mem_of_getElem? (i := 409) (by decide +kernel)
theorem kf_X9_94_0 : sh_fl RX9 94 0 0 := ⟨RX0, TX0, 6, "SillHouse$Folk", rfl, by decide, uw_X0, List.mem_of_getElem? (i := 107) (by decide +kernel), rfl⟩
theorem kl_X9_97 : Cond.methodLink RX9 97 yX0_addPerson ∈ lw_tbl := List.mem_of_getElem? (i := 412) (by decide +kernel)
theorem kf_X9_101_0 : sh_fl RX9 101 0 1 := ⟨RX0, TX0, 6, "SillHouse$Folk", rfl, by decide, uw_X0, List.mem_of_getElem? (i := 109) (by decide +kernel), rfl⟩
theorem kl_X9_104 : Cond.methodLink RX9 104 yX0_addStone ∈ lw_tbl := List.mem_of_getElem? (i := 420) (by decide +kernel)
theorem kl_X9_107 : Cond.methodLink RX9 107 yX0_hasPerson ∈ lw_tbl := List.mem_of_getElem? (i := 428) (by decide +kernel)
theorem kf_X9_110_0 : sh_fl RX9 110 0 2 := ⟨RX0, TX0, 6, "SillHouse$Folk", rfl, by decide, uw_X0, List.mem_of_getElem? (i := 111) (by decide +kernel), rfl⟩
theorem kf_X9_113_0 : sh_fl RX9 113 0 3 := ⟨RX0, TX0, 6, "SillHouse$Folk", rfl, by decide, uw_X0, List.mem_of_getElem? (i := 113) (by decide +kernel), rfl⟩
theorem kl_X9_116 : Cond.methodLink RX9 116 yX0_carriedBy ∈ lw_tbl := List.mem_of_getElem? (i := 432) (by decide +kernel)
theorem kl_X9_119 : Cond.methodLink RX9 119 yX0_weightWithStones ∈ lw_tbl := List.mem_of_getElem? (i := 439) (by decide +kernel)
theorem kl_X9_122 : Cond.methodLink RX9 122 yX0_hasStone ∈ lw_tbl := List.mem_of_getElem? (i := 447) (by decide +kernel)
theorem kf_X9_125_0 : sh_fl RX9 125 0 4 := ⟨RX0, TX0, 6, "SillHouse$Folk", rfl, by decide, uw_X0, List.mem_of_getElem? (i := 115) (by decide +kernel), rfl⟩
theorem kf_X9_128_0 : sh_fl RX9 128 0 5 := ⟨RX0, TX0, 6, "SillHouse$Folk", rfl, by decide, uw_X0, List.mem_of_getElem? (i := 117) (by decide +kernel), rfl⟩
theorem kl_X9_131 : Cond.methodLink RX9 131 yX0_howManyCarriedBy ∈ lw_tbl := List.mem_of_getElem? (i := 455) (by decide +kernel)
theorem kl_X9_134 : Cond.methodLink RX9 134 yX0_placeWith ∈ lw_tbl := List.mem_of_getElem? (i := 466) (by decide +kernel)
theorem kl_X9_137 : Cond.methodLink RX9 137 yX0_isParty ∈ lw_tbl := List.mem_of_getElem? (i := 475) (by decide +kernel)
theorem kl_X9_140 : Cond.methodLink RX9 140 yX0_roomOfParty ∈ lw_tbl := List.mem_of_getElem? (i := 479) (by decide +kernel)
theorem kl_X9_143 : Cond.methodLink RX9 143 yX4_isOf ∈ lw_tbl := List.mem_of_getElem? (i := 483) (by decide +kernel)
theorem kq_X4_X4_isOf : Cond.sameMethod RX4 RX4 "isOf" "(I)Z" ∈ lw_tbl := List.mem_of_getElem? (i := 486) (by decide +kernel)
theorem kx_X7_X4_isOf_X4 : Cond.selects RX7 yX4_isOf yX4_isOf ∈ lw_tbl := List.mem_of_getElem? (i := 487) (by decide +kernel)
theorem kx_X8_X4_isOf_X4 : Cond.selects RX8 yX4_isOf yX4_isOf ∈ lw_tbl := List.mem_of_getElem? (i := 488) (by decide +kernel)
theorem kl_X9_146 : Cond.methodLink RX9 146 yX0_weightOfParty ∈ lw_tbl := List.mem_of_getElem? (i := 490) (by decide +kernel)
theorem kl_X9_149 : Cond.methodLink RX9 149 yX4_beyond ∈ lw_tbl := List.mem_of_getElem? (i := 495) (by decide +kernel)
theorem kl_X9_152 : Cond.methodLink RX9 152 yX9_opens ∈ lw_tbl := List.mem_of_getElem? (i := 506) (by decide +kernel)
theorem kl_X9_155 : Cond.methodLink RX9 155 yX0_moveParty ∈ lw_tbl := List.mem_of_getElem? (i := 507) (by decide +kernel)
theorem kf_X9_34_9 : sh_fl RX9 34 9 3 := ⟨RX9, TX9, 6, "SillHouse", rfl, by decide, uw_X9, List.mem_of_getElem? (i := 198) (by decide +kernel), rfl⟩
theorem kl_X9_159 : Cond.methodLink RX9 159 yX2_begin ∈ lw_tbl := List.mem_of_getElem? (i := 519) (by decide +kernel)
theorem kl_X9_162 : Cond.methodLink RX9 162 yX2_setStone ∈ lw_tbl := List.mem_of_getElem? (i := 523) (by decide +kernel)
theorem kl_X9_166 : Cond.methodLink RX9 166 yX2_finds ∈ lw_tbl := List.mem_of_getElem? (i := 530) (by decide +kernel)
theorem kl_X9_170 : Cond.methodLink RX9 170 yX2_howManySteps ∈ lw_tbl := List.mem_of_getElem? (i := 550) (by decide +kernel)
theorem kl_X9_173 : Cond.methodLink RX9 173 yX2_stepAt ∈ lw_tbl := List.mem_of_getElem? (i := 554) (by decide +kernel)
theorem kl_X9_176 : Cond.methodLink RX9 176 yX1_reachOf ∈ lw_tbl := List.mem_of_getElem? (i := 563) (by decide +kernel)
theorem kl_X9_179 : Cond.methodLink RX9 179 yX1_reaches ∈ lw_tbl := List.mem_of_getElem? (i := 575) (by decide +kernel)
theorem kl_X9_183 : Cond.methodLink RX9 183 yX9_comesWith ∈ lw_tbl := List.mem_of_getElem? (i := 584) (by decide +kernel)
theorem kl_X9_187 : Cond.methodLink RX9 187 yX9_ofLaidRow ∈ lw_tbl := List.mem_of_getElem? (i := 588) (by decide +kernel)
theorem kl_X9_191 : Cond.methodLink RX9 191 yX9_comesChanged ∈ lw_tbl := List.mem_of_getElem? (i := 595) (by decide +kernel)
theorem kl_X9_194 : Cond.methodLink RX9 194 yX9_doorsRefused ∈ lw_tbl := List.mem_of_getElem? (i := 603) (by decide +kernel)
theorem kl_X9_197 : Cond.methodLink RX9 197 yX9_passesAll ∈ lw_tbl := List.mem_of_getElem? (i := 607) (by decide +kernel)
theorem kp_X9_byStrangers_201_9 : sh_fp mX9_byStrangers 201 9 5 .int := ⟨RX9, TX9, 6, "SillHouse", tyX9, rfl, by decide, uw_X9, List.mem_of_getElem? (i := 200) (by decide +kernel), rfl, tyX9_ok, nmX9, rfl, Or.inl rfl⟩
theorem kp_X9_sheet_201_9 : sh_fp mX9_sheet 201 9 5 .int := ⟨RX9, TX9, 6, "SillHouse", tyX9, rfl, by decide, uw_X9, List.mem_of_getElem? (i := 200) (by decide +kernel), rfl, tyX9_ok, nmX9, rfl, Or.inl rfl⟩
theorem kl_X9_204 : Cond.methodLink RX9 204 yX9_isSheet ∈ lw_tbl := List.mem_of_getElem? (i := 222) (by decide +kernel)
theorem kl_X9_207 : Cond.methodLink RX9 207 yX9_isLane ∈ lw_tbl := List.mem_of_getElem? (i := 225) (by decide +kernel)
theorem kl_X9_210 : Cond.methodLink RX9 210 yX9_faulted ∈ lw_tbl := List.mem_of_getElem? (i := 232) (by decide +kernel)
theorem kl_X9_213 : Cond.methodLink RX9 213 yX3_renew ∈ lw_tbl := List.mem_of_getElem? (i := 623) (by decide +kernel)
theorem kl_X9_216 : Cond.methodLink RX9 216 yX3_hasNothing ∈ lw_tbl := List.mem_of_getElem? (i := 228) (by decide +kernel)
theorem kl_X9_220 : Cond.methodLink RX9 220 yX3_empty ∈ lw_tbl := List.mem_of_getElem? (i := 631) (by decide +kernel)
theorem kp_X9_put_201_9 : sh_fp mX9_put 201 9 5 .int := ⟨RX9, TX9, 6, "SillHouse", tyX9, rfl, by decide, uw_X9, List.mem_of_getElem? (i := 200) (by decide +kernel), rfl, tyX9_ok, nmX9, rfl, Or.inl rfl⟩
theorem kl_X9_223 : Cond.methodLink RX9 223 yX3_has ∈ lw_tbl := List.mem_of_getElem? (i := 236) (by decide +kernel)
theorem kl_X9_227 : Cond.methodLink RX9 227 yX3_cut ∈ lw_tbl := List.mem_of_getElem? (i := 639) (by decide +kernel)
theorem kc_X9_230 : Cond.constantLong RX9 230 (-9223372036854775808) ∈ lw_tbl := List.mem_of_getElem? (i := 647) (by decide +kernel)
theorem kp_X9_copy_201_9 : sh_fp mX9_copy 201 9 5 .int := ⟨RX9, TX9, 6, "SillHouse", tyX9, rfl, by decide, uw_X9, List.mem_of_getElem? (i := 200) (by decide +kernel), rfl, tyX9_ok, nmX9, rfl, Or.inl rfl⟩
theorem kf_X9_232_3 : sh_fl RX9 232 3 1 := ⟨RX3, TX3, 3, "SillHouse$Sheet", rfl, by decide, uw_X3, List.mem_of_getElem? (i := 186) (by decide +kernel), rfl⟩
theorem kl_X9_235 : Cond.methodLink RX9 235 arraycopyName ∈ lw_tbl := List.mem_of_getElem? (i := 652) (by decide +kernel)
theorem kf_X9_41_9 : sh_fl RX9 41 9 4 := ⟨RX9, TX9, 6, "SillHouse", rfl, by decide, uw_X9, List.mem_of_getElem? (i := 199) (by decide +kernel), rfl⟩
theorem kl_X9_241 : Cond.methodLink RX9 241 yX4_telling ∈ lw_tbl := List.mem_of_getElem? (i := 659) (by decide +kernel)
theorem kl_X9_245 : Cond.methodLink RX9 245 yX4_rung ∈ lw_tbl := List.mem_of_getElem? (i := 689) (by decide +kernel)
theorem kq_X4_X4_rung : Cond.sameMethod RX4 RX4 "rung" "(LSillHouse$Trace;I)I" ∈ lw_tbl := List.mem_of_getElem? (i := 692) (by decide +kernel)
theorem kx_X7_X4_rung_X4 : Cond.selects RX7 yX4_rung yX4_rung ∈ lw_tbl := List.mem_of_getElem? (i := 693) (by decide +kernel)
theorem kx_X8_X8_rung_X4 : Cond.selects RX8 yX4_rung yX8_rung ∈ lw_tbl := List.mem_of_getElem? (i := 694) (by decide +kernel)
theorem kp_X9_as_201_9 : sh_fp mX9_as 201 9 5 .int := ⟨RX9, TX9, 6, "SillHouse", tyX9, rfl, by decide, uw_X9, List.mem_of_getElem? (i := 200) (by decide +kernel), rfl, tyX9_ok, nmX9, rfl, Or.inl rfl⟩
theorem kl_X9_249 : Cond.methodLink RX9 249 yX4_kind ∈ lw_tbl := List.mem_of_getElem? (i := 702) (by decide +kernel)
theorem kf_X9_252_6 : sh_fl RX9 252 6 0 := ⟨RX6, TX6, 1, "SillHouse$Trace", rfl, by decide, uw_X6, List.mem_of_getElem? (i := 174) (by decide +kernel), rfl⟩
theorem kf_X9_201_9 : sh_fl RX9 201 9 5 := ⟨RX9, TX9, 6, "SillHouse", rfl, by decide, uw_X9, List.mem_of_getElem? (i := 200) (by decide +kernel), rfl⟩
theorem kf_X9_255_1 : sh_fl RX9 255 1 0 := ⟨RX1, TX1, 3, "SillHouse$Plan", rfl, by decide, uw_X1, List.mem_of_getElem? (i := 86) (by decide +kernel), rfl⟩
theorem kp_X9_faulted_201_9 : sh_fp mX9_faulted 201 9 5 .int := ⟨RX9, TX9, 6, "SillHouse", tyX9, rfl, by decide, uw_X9, List.mem_of_getElem? (i := 200) (by decide +kernel), rfl, tyX9_ok, nmX9, rfl, Or.inl rfl⟩
theorem kp_X9_cellsRefused_201_9 : sh_fp mX9_cellsRefused 201 9 5 .int := ⟨RX9, TX9, 6, "SillHouse", tyX9, rfl, by decide, uw_X9, List.mem_of_getElem? (i := 200) (by decide +kernel), rfl, tyX9_ok, nmX9, rfl, Or.inl rfl⟩
theorem kl_X10_1 : Cond.methodLink RX10 1 objectInit ∈ lw_tbl := List.mem_of_getElem? (i := 720) (by decide +kernel)
theorem kp_X10_init_7_10 : sh_fp mX10_init 7 10 3 (.array .int) := ⟨RX10, TX10, 35, "SillHouseModel", tyX10, rfl, by decide, uw_X10, List.mem_of_getElem? (i := 724) (by decide +kernel), rfl, tyX10_ok, nmX10, rfl, Or.inr ⟨rfl, rfl, rfl⟩⟩
theorem kp_X10_init_13_10 : sh_fp mX10_init 13 10 4 (.array .int) := ⟨RX10, TX10, 35, "SillHouseModel", tyX10, rfl, by decide, uw_X10, List.mem_of_getElem? (i := 725) (by decide +kernel), rfl, tyX10_ok, nmX10, rfl, Or.inr ⟨rfl, rfl, rfl⟩⟩
theorem kp_X10_init_16_10 : sh_fp mX10_init 16 10 5 (.array .int) := ⟨RX10, TX10, 35, "SillHouseModel", tyX10, rfl, by decide, uw_X10, List.mem_of_getElem? (i := 726) (by decide +kernel), rfl, tyX10_ok, nmX10, rfl, Or.inr ⟨rfl, rfl, rfl⟩⟩
theorem kp_X10_init_19_10 : sh_fp mX10_init 19 10 9 (.array .int) := ⟨RX10, TX10, 35, "SillHouseModel", tyX10, rfl, by decide, uw_X10, List.mem_of_getElem? (i := 730) (by decide +kernel), rfl, tyX10_ok, nmX10, rfl, Or.inr ⟨rfl, rfl, rfl⟩⟩
theorem kp_X10_init_22_10 : sh_fp mX10_init 22 10 10 (.array .int) := ⟨RX10, TX10, 35, "SillHouseModel", tyX10, rfl, by decide, uw_X10, List.mem_of_getElem? (i := 731) (by decide +kernel), rfl, tyX10_ok, nmX10, rfl, Or.inr ⟨rfl, rfl, rfl⟩⟩
theorem kp_X10_init_25_10 : sh_fp mX10_init 25 10 11 (.array .int) := ⟨RX10, TX10, 35, "SillHouseModel", tyX10, rfl, by decide, uw_X10, List.mem_of_getElem? (i := 732) (by decide +kernel), rfl, tyX10_ok, nmX10, rfl, Or.inr ⟨rfl, rfl, rfl⟩⟩
theorem kp_X10_init_28_10 : sh_fp mX10_init 28 10 13 (.array .int) := ⟨RX10, TX10, 35, "SillHouseModel", tyX10, rfl, by decide, uw_X10, List.mem_of_getElem? (i := 734) (by decide +kernel), rfl, tyX10_ok, nmX10, rfl, Or.inr ⟨rfl, rfl, rfl⟩⟩
theorem kp_X10_init_31_10 : sh_fp mX10_init 31 10 14 (.array .int) := ⟨RX10, TX10, 35, "SillHouseModel", tyX10, rfl, by decide, uw_X10, List.mem_of_getElem? (i := 735) (by decide +kernel), rfl, tyX10_ok, nmX10, rfl, Or.inr ⟨rfl, rfl, rfl⟩⟩
theorem kp_X10_init_34_10 : sh_fp mX10_init 34 10 16 (.array .int) := ⟨RX10, TX10, 35, "SillHouseModel", tyX10, rfl, by decide, uw_X10, List.mem_of_getElem? (i := 737) (by decide +kernel), rfl, tyX10_ok, nmX10, rfl, Or.inr ⟨rfl, rfl, rfl⟩⟩
theorem kp_X10_init_37_10 : sh_fp mX10_init 37 10 17 (.array .int) := ⟨RX10, TX10, 35, "SillHouseModel", tyX10, rfl, by decide, uw_X10, List.mem_of_getElem? (i := 738) (by decide +kernel), rfl, tyX10_ok, nmX10, rfl, Or.inr ⟨rfl, rfl, rfl⟩⟩
theorem kp_X10_init_40_10 : sh_fp mX10_init 40 10 21 (.array .int) := ⟨RX10, TX10, 35, "SillHouseModel", tyX10, rfl, by decide, uw_X10, List.mem_of_getElem? (i := 742) (by decide +kernel), rfl, tyX10_ok, nmX10, rfl, Or.inr ⟨rfl, rfl, rfl⟩⟩
theorem kp_X10_init_43_10 : sh_fp mX10_init 43 10 22 (.array .int) := ⟨RX10, TX10, 35, "SillHouseModel", tyX10, rfl, by decide, uw_X10, List.mem_of_getElem? (i := 743) (by decide +kernel), rfl, tyX10_ok, nmX10, rfl, Or.inr ⟨rfl, rfl, rfl⟩⟩
theorem kp_X10_init_46_10 : sh_fp mX10_init 46 10 23 (.array .boolean) := ⟨RX10, TX10, 35, "SillHouseModel", tyX10, rfl, by decide, uw_X10, List.mem_of_getElem? (i := 744) (by decide +kernel), rfl, tyX10_ok, nmX10, rfl, Or.inr ⟨rfl, rfl, rfl⟩⟩
theorem kp_X10_init_50_10 : sh_fp mX10_init 50 10 24 (.array .int) := ⟨RX10, TX10, 35, "SillHouseModel", tyX10, rfl, by decide, uw_X10, List.mem_of_getElem? (i := 745) (by decide +kernel), rfl, tyX10_ok, nmX10, rfl, Or.inr ⟨rfl, rfl, rfl⟩⟩
theorem kp_X10_init_53_10 : sh_fp mX10_init 53 10 25 (.array .int) := ⟨RX10, TX10, 35, "SillHouseModel", tyX10, rfl, by decide, uw_X10, List.mem_of_getElem? (i := 746) (by decide +kernel), rfl, tyX10_ok, nmX10, rfl, Or.inr ⟨rfl, rfl, rfl⟩⟩
theorem kp_X10_init_56_10 : sh_fp mX10_init 56 10 26 (.array .int) := ⟨RX10, TX10, 35, "SillHouseModel", tyX10, rfl, by decide, uw_X10, List.mem_of_getElem? (i := 747) (by decide +kernel), rfl, tyX10_ok, nmX10, rfl, Or.inr ⟨rfl, rfl, rfl⟩⟩
theorem kp_X10_init_59_10 : sh_fp mX10_init 59 10 27 (.array .boolean) := ⟨RX10, TX10, 35, "SillHouseModel", tyX10, rfl, by decide, uw_X10, List.mem_of_getElem? (i := 748) (by decide +kernel), rfl, tyX10_ok, nmX10, rfl, Or.inr ⟨rfl, rfl, rfl⟩⟩
theorem kp_X10_init_62_10 : sh_fp mX10_init 62 10 29 (.array .int) := ⟨RX10, TX10, 35, "SillHouseModel", tyX10, rfl, by decide, uw_X10, List.mem_of_getElem? (i := 750) (by decide +kernel), rfl, tyX10_ok, nmX10, rfl, Or.inr ⟨rfl, rfl, rfl⟩⟩
theorem kp_X10_init_65_10 : sh_fp mX10_init 65 10 30 (.array .int) := ⟨RX10, TX10, 35, "SillHouseModel", tyX10, rfl, by decide, uw_X10, List.mem_of_getElem? (i := 751) (by decide +kernel), rfl, tyX10_ok, nmX10, rfl, Or.inr ⟨rfl, rfl, rfl⟩⟩
theorem kp_X10_init_68_10 : sh_fp mX10_init 68 10 31 (.array .int) := ⟨RX10, TX10, 35, "SillHouseModel", tyX10, rfl, by decide, uw_X10, List.mem_of_getElem? (i := 752) (by decide +kernel), rfl, tyX10_ok, nmX10, rfl, Or.inr ⟨rfl, rfl, rfl⟩⟩
theorem kp_X10_init_71_10 : sh_fp mX10_init 71 10 32 (.array .int) := ⟨RX10, TX10, 35, "SillHouseModel", tyX10, rfl, by decide, uw_X10, List.mem_of_getElem? (i := 753) (by decide +kernel), rfl, tyX10_ok, nmX10, rfl, Or.inr ⟨rfl, rfl, rfl⟩⟩
theorem kp_X10_init_74_10 : sh_fp mX10_init 74 10 33 (.array .int) := ⟨RX10, TX10, 35, "SillHouseModel", tyX10, rfl, by decide, uw_X10, List.mem_of_getElem? (i := 754) (by decide +kernel), rfl, tyX10_ok, nmX10, rfl, Or.inr ⟨rfl, rfl, rfl⟩⟩
theorem kf_X10_65_10 : sh_fl RX10 65 10 30 := ⟨RX10, TX10, 35, "SillHouseModel", rfl, by decide, uw_X10, List.mem_of_getElem? (i := 751) (by decide +kernel), rfl⟩
theorem kc_X10_77 : Cond.constantLong RX10 77 (-9223372036854775808) ∈ lw_tbl := List.mem_of_getElem? (i := 1083) (by decide +kernel)
theorem kp_X10_refused_79_10 : sh_fp mX10_refused 79 10 0 .int := ⟨RX10, TX10, 35, "SillHouseModel", tyX10, rfl, by decide, uw_X10, List.mem_of_getElem? (i := 721) (by decide +kernel), rfl, tyX10_ok, nmX10, rfl, Or.inl rfl⟩
theorem kp_X10_failed_79_10 : sh_fp mX10_failed 79 10 0 .int := ⟨RX10, TX10, 35, "SillHouseModel", tyX10, rfl, by decide, uw_X10, List.mem_of_getElem? (i := 721) (by decide +kernel), rfl, tyX10_ok, nmX10, rfl, Or.inl rfl⟩
theorem kp_X10_failedLong_79_10 : sh_fp mX10_failedLong 79 10 0 .int := ⟨RX10, TX10, 35, "SillHouseModel", tyX10, rfl, by decide, uw_X10, List.mem_of_getElem? (i := 721) (by decide +kernel), rfl, tyX10_ok, nmX10, rfl, Or.inl rfl⟩
theorem kl_X10_83 : Cond.methodLink RX10 83 yX10_lost ∈ lw_tbl := List.mem_of_getElem? (i := 1080) (by decide +kernel)
theorem kl_X10_87 : Cond.methodLink RX10 87 yX10_noSheet ∈ lw_tbl := List.mem_of_getElem? (i := 836) (by decide +kernel)
theorem kl_X10_91 : Cond.methodLink RX10 91 yX10_refused ∈ lw_tbl := List.mem_of_getElem? (i := 843) (by decide +kernel)
theorem kc_X10_95 : Cond.constantLong RX10 95 (2) ∈ lw_tbl := List.mem_of_getElem? (i := 847) (by decide +kernel)
theorem kl_X10_97 : Cond.methodLink RX10 97 yX10_in ∈ lw_tbl := List.mem_of_getElem? (i := 840) (by decide +kernel)
theorem kf_X10_68_10 : sh_fl RX10 68 10 31 := ⟨RX10, TX10, 35, "SillHouseModel", rfl, by decide, uw_X10, List.mem_of_getElem? (i := 752) (by decide +kernel), rfl⟩
theorem kl_X10_101 : Cond.methodLink RX10 101 yX10_failed ∈ lw_tbl := List.mem_of_getElem? (i := 848) (by decide +kernel)
theorem kl_X10_104 : Cond.methodLink RX10 104 yX10_isBeyond ∈ lw_tbl := List.mem_of_getElem? (i := 852) (by decide +kernel)
theorem kf_X10_108_10 : sh_fl RX10 108 10 1 := ⟨RX10, TX10, 35, "SillHouseModel", rfl, by decide, uw_X10, List.mem_of_getElem? (i := 722) (by decide +kernel), rfl⟩
theorem kf_X10_111_10 : sh_fl RX10 111 10 2 := ⟨RX10, TX10, 35, "SillHouseModel", rfl, by decide, uw_X10, List.mem_of_getElem? (i := 723) (by decide +kernel), rfl⟩
theorem kf_X10_114_10 : sh_fl RX10 114 10 6 := ⟨RX10, TX10, 35, "SillHouseModel", rfl, by decide, uw_X10, List.mem_of_getElem? (i := 727) (by decide +kernel), rfl⟩
theorem kf_X10_71_10 : sh_fl RX10 71 10 32 := ⟨RX10, TX10, 35, "SillHouseModel", rfl, by decide, uw_X10, List.mem_of_getElem? (i := 753) (by decide +kernel), rfl⟩
theorem kl_X10_117 : Cond.methodLink RX10 117 yX10_codeAt ∈ lw_tbl := List.mem_of_getElem? (i := 859) (by decide +kernel)
theorem kp_X10_figure_114_10 : sh_fp mX10_figure 114 10 6 .int := ⟨RX10, TX10, 35, "SillHouseModel", tyX10, rfl, by decide, uw_X10, List.mem_of_getElem? (i := 727) (by decide +kernel), rfl, tyX10_ok, nmX10, rfl, Or.inl rfl⟩
theorem kl_X10_121 : Cond.methodLink RX10 121 yX10_figure ∈ lw_tbl := List.mem_of_getElem? (i := 863) (by decide +kernel)
theorem kp_X10_readsWeight_114_10 : sh_fp mX10_readsWeight 114 10 6 .int := ⟨RX10, TX10, 35, "SillHouseModel", tyX10, rfl, by decide, uw_X10, List.mem_of_getElem? (i := 727) (by decide +kernel), rfl, tyX10_ok, nmX10, rfl, Or.inl rfl⟩
theorem kf_X10_125_10 : sh_fl RX10 125 10 8 := ⟨RX10, TX10, 35, "SillHouseModel", rfl, by decide, uw_X10, List.mem_of_getElem? (i := 729) (by decide +kernel), rfl⟩
theorem kp_X10_readsDoor_114_10 : sh_fp mX10_readsDoor 114 10 6 .int := ⟨RX10, TX10, 35, "SillHouseModel", tyX10, rfl, by decide, uw_X10, List.mem_of_getElem? (i := 727) (by decide +kernel), rfl, tyX10_ok, nmX10, rfl, Or.inl rfl⟩
theorem kf_X10_128_10 : sh_fl RX10 128 10 7 := ⟨RX10, TX10, 35, "SillHouseModel", rfl, by decide, uw_X10, List.mem_of_getElem? (i := 728) (by decide +kernel), rfl⟩
theorem kl_X10_131 : Cond.methodLink RX10 131 yX10_readsWeight ∈ lw_tbl := List.mem_of_getElem? (i := 871) (by decide +kernel)
theorem kf_X10_19_10 : sh_fl RX10 19 10 9 := ⟨RX10, TX10, 35, "SillHouseModel", rfl, by decide, uw_X10, List.mem_of_getElem? (i := 730) (by decide +kernel), rfl⟩
theorem kf_X10_22_10 : sh_fl RX10 22 10 10 := ⟨RX10, TX10, 35, "SillHouseModel", rfl, by decide, uw_X10, List.mem_of_getElem? (i := 731) (by decide +kernel), rfl⟩
theorem kf_X10_25_10 : sh_fl RX10 25 10 11 := ⟨RX10, TX10, 35, "SillHouseModel", rfl, by decide, uw_X10, List.mem_of_getElem? (i := 732) (by decide +kernel), rfl⟩
theorem kp_X10_readsDoor_125_10 : sh_fp mX10_readsDoor 125 10 8 .int := ⟨RX10, TX10, 35, "SillHouseModel", tyX10, rfl, by decide, uw_X10, List.mem_of_getElem? (i := 729) (by decide +kernel), rfl, tyX10_ok, nmX10, rfl, Or.inl rfl⟩
theorem kp_X10_readsHouse_114_10 : sh_fp mX10_readsHouse 114 10 6 .int := ⟨RX10, TX10, 35, "SillHouseModel", tyX10, rfl, by decide, uw_X10, List.mem_of_getElem? (i := 727) (by decide +kernel), rfl, tyX10_ok, nmX10, rfl, Or.inl rfl⟩
theorem kp_X10_readsHouse_125_10 : sh_fp mX10_readsHouse 125 10 8 .int := ⟨RX10, TX10, 35, "SillHouseModel", tyX10, rfl, by decide, uw_X10, List.mem_of_getElem? (i := 729) (by decide +kernel), rfl, tyX10_ok, nmX10, rfl, Or.inl rfl⟩
theorem kp_X10_readsHouse_128_10 : sh_fp mX10_readsHouse 128 10 7 .int := ⟨RX10, TX10, 35, "SillHouseModel", tyX10, rfl, by decide, uw_X10, List.mem_of_getElem? (i := 728) (by decide +kernel), rfl, tyX10_ok, nmX10, rfl, Or.inl rfl⟩
theorem kl_X10_134 : Cond.methodLink RX10 134 yX10_readsDoor ∈ lw_tbl := List.mem_of_getElem? (i := 867) (by decide +kernel)
theorem kl_X10_138 : Cond.methodLink RX10 138 yX10_barred ∈ lw_tbl := List.mem_of_getElem? (i := 832) (by decide +kernel)
theorem kl_X10_142 : Cond.methodLink RX10 142 yX10_readsHouse ∈ lw_tbl := List.mem_of_getElem? (i := 855) (by decide +kernel)
theorem kp_X10_house_108_10 : sh_fp mX10_house 108 10 1 .int := ⟨RX10, TX10, 35, "SillHouseModel", tyX10, rfl, by decide, uw_X10, List.mem_of_getElem? (i := 722) (by decide +kernel), rfl, tyX10_ok, nmX10, rfl, Or.inl rfl⟩
theorem kp_X10_house_111_10 : sh_fp mX10_house 111 10 2 .int := ⟨RX10, TX10, 35, "SillHouseModel", tyX10, rfl, by decide, uw_X10, List.mem_of_getElem? (i := 723) (by decide +kernel), rfl, tyX10_ok, nmX10, rfl, Or.inl rfl⟩
theorem kf_X10_7_10 : sh_fl RX10 7 10 3 := ⟨RX10, TX10, 35, "SillHouseModel", rfl, by decide, uw_X10, List.mem_of_getElem? (i := 724) (by decide +kernel), rfl⟩
theorem kf_X10_13_10 : sh_fl RX10 13 10 4 := ⟨RX10, TX10, 35, "SillHouseModel", rfl, by decide, uw_X10, List.mem_of_getElem? (i := 725) (by decide +kernel), rfl⟩
theorem kf_X10_16_10 : sh_fl RX10 16 10 5 := ⟨RX10, TX10, 35, "SillHouseModel", rfl, by decide, uw_X10, List.mem_of_getElem? (i := 726) (by decide +kernel), rfl⟩
theorem kp_X10_house_145_10 : sh_fp mX10_house 145 10 12 .int := ⟨RX10, TX10, 35, "SillHouseModel", tyX10, rfl, by decide, uw_X10, List.mem_of_getElem? (i := 733) (by decide +kernel), rfl, tyX10_ok, nmX10, rfl, Or.inl rfl⟩
theorem kp_X10_house_148_10 : sh_fp mX10_house 148 10 15 .int := ⟨RX10, TX10, 35, "SillHouseModel", tyX10, rfl, by decide, uw_X10, List.mem_of_getElem? (i := 736) (by decide +kernel), rfl, tyX10_ok, nmX10, rfl, Or.inl rfl⟩
theorem kl_X10_151 : Cond.methodLink RX10 151 yX10_asks ∈ lw_tbl := List.mem_of_getElem? (i := 883) (by decide +kernel)
theorem kl_X10_154 : Cond.methodLink RX10 154 yX10_slackOf ∈ lw_tbl := List.mem_of_getElem? (i := 887) (by decide +kernel)
theorem kl_X10_157 : Cond.methodLink RX10 157 yX10_sideIn ∈ lw_tbl := List.mem_of_getElem? (i := 953) (by decide +kernel)
theorem kl_X10_160 : Cond.methodLink RX10 160 yX10_isOpen ∈ lw_tbl := List.mem_of_getElem? (i := 965) (by decide +kernel)
theorem kl_X10_164 : Cond.methodLink RX10 164 yX10_noDoor ∈ lw_tbl := List.mem_of_getElem? (i := 879) (by decide +kernel)
theorem kf_X10_145_10 : sh_fl RX10 145 10 12 := ⟨RX10, TX10, 35, "SillHouseModel", rfl, by decide, uw_X10, List.mem_of_getElem? (i := 733) (by decide +kernel), rfl⟩
theorem kf_X10_148_10 : sh_fl RX10 148 10 15 := ⟨RX10, TX10, 35, "SillHouseModel", rfl, by decide, uw_X10, List.mem_of_getElem? (i := 736) (by decide +kernel), rfl⟩
theorem kl_X10_167 : Cond.methodLink RX10 167 yX10_noRoom ∈ lw_tbl := List.mem_of_getElem? (i := 895) (by decide +kernel)
theorem kc_X10_170 : Cond.constantLong RX10 170 (10) ∈ lw_tbl := List.mem_of_getElem? (i := 899) (by decide +kernel)
theorem kc_X10_172 : Cond.constantLong RX10 172 (99) ∈ lw_tbl := List.mem_of_getElem? (i := 900) (by decide +kernel)
theorem kf_X10_28_10 : sh_fl RX10 28 10 13 := ⟨RX10, TX10, 35, "SillHouseModel", rfl, by decide, uw_X10, List.mem_of_getElem? (i := 734) (by decide +kernel), rfl⟩
theorem kf_X10_31_10 : sh_fl RX10 31 10 14 := ⟨RX10, TX10, 35, "SillHouseModel", rfl, by decide, uw_X10, List.mem_of_getElem? (i := 735) (by decide +kernel), rfl⟩
theorem kp_X10_person_145_10 : sh_fp mX10_person 145 10 12 .int := ⟨RX10, TX10, 35, "SillHouseModel", tyX10, rfl, by decide, uw_X10, List.mem_of_getElem? (i := 733) (by decide +kernel), rfl, tyX10_ok, nmX10, rfl, Or.inl rfl⟩
theorem kc_X10_174 : Cond.constantLong RX10 174 (20) ∈ lw_tbl := List.mem_of_getElem? (i := 905) (by decide +kernel)
theorem kf_X10_34_10 : sh_fl RX10 34 10 16 := ⟨RX10, TX10, 35, "SillHouseModel", rfl, by decide, uw_X10, List.mem_of_getElem? (i := 737) (by decide +kernel), rfl⟩
theorem kf_X10_37_10 : sh_fl RX10 37 10 17 := ⟨RX10, TX10, 35, "SillHouseModel", rfl, by decide, uw_X10, List.mem_of_getElem? (i := 738) (by decide +kernel), rfl⟩
theorem kp_X10_stone_148_10 : sh_fp mX10_stone 148 10 15 .int := ⟨RX10, TX10, 35, "SillHouseModel", tyX10, rfl, by decide, uw_X10, List.mem_of_getElem? (i := 736) (by decide +kernel), rfl, tyX10_ok, nmX10, rfl, Or.inl rfl⟩
theorem kl_X10_176 : Cond.methodLink RX10 176 yX10_noPerson ∈ lw_tbl := List.mem_of_getElem? (i := 910) (by decide +kernel)
theorem kl_X10_179 : Cond.methodLink RX10 179 yX10_carriedBy ∈ lw_tbl := List.mem_of_getElem? (i := 914) (by decide +kernel)
theorem kl_X10_182 : Cond.methodLink RX10 182 yX10_withStones ∈ lw_tbl := List.mem_of_getElem? (i := 918) (by decide +kernel)
theorem kl_X10_185 : Cond.methodLink RX10 185 yX10_noStone ∈ lw_tbl := List.mem_of_getElem? (i := 926) (by decide +kernel)
theorem kl_X10_188 : Cond.methodLink RX10 188 yX10_bits ∈ lw_tbl := List.mem_of_getElem? (i := 934) (by decide +kernel)
theorem kl_X10_191 : Cond.methodLink RX10 191 yX10_roomOf ∈ lw_tbl := List.mem_of_getElem? (i := 949) (by decide +kernel)
theorem kl_X10_194 : Cond.methodLink RX10 194 yX10_partyBarred ∈ lw_tbl := List.mem_of_getElem? (i := 945) (by decide +kernel)
theorem kl_X10_197 : Cond.methodLink RX10 197 yX10_weightOfAll ∈ lw_tbl := List.mem_of_getElem? (i := 957) (by decide +kernel)
theorem kl_X10_200 : Cond.methodLink RX10 200 yX10_throughTo ∈ lw_tbl := List.mem_of_getElem? (i := 961) (by decide +kernel)
theorem kf_X10_204_10 : sh_fl RX10 204 10 20 := ⟨RX10, TX10, 35, "SillHouseModel", rfl, by decide, uw_X10, List.mem_of_getElem? (i := 741) (by decide +kernel), rfl⟩
theorem kf_X10_46_10 : sh_fl RX10 46 10 23 := ⟨RX10, TX10, 35, "SillHouseModel", rfl, by decide, uw_X10, List.mem_of_getElem? (i := 744) (by decide +kernel), rfl⟩
theorem kf_X10_40_10 : sh_fl RX10 40 10 21 := ⟨RX10, TX10, 35, "SillHouseModel", rfl, by decide, uw_X10, List.mem_of_getElem? (i := 742) (by decide +kernel), rfl⟩
theorem kf_X10_207_10 : sh_fl RX10 207 10 19 := ⟨RX10, TX10, 35, "SillHouseModel", rfl, by decide, uw_X10, List.mem_of_getElem? (i := 740) (by decide +kernel), rfl⟩
theorem kp_X10_takeState_207_10 : sh_fp mX10_takeState 207 10 19 .int := ⟨RX10, TX10, 35, "SillHouseModel", tyX10, rfl, by decide, uw_X10, List.mem_of_getElem? (i := 740) (by decide +kernel), rfl, tyX10_ok, nmX10, rfl, Or.inl rfl⟩
theorem kl_X10_210 : Cond.methodLink RX10 210 yX10_stateNow ∈ lw_tbl := List.mem_of_getElem? (i := 989) (by decide +kernel)
theorem kf_X10_59_10 : sh_fl RX10 59 10 27 := ⟨RX10, TX10, 35, "SillHouseModel", rfl, by decide, uw_X10, List.mem_of_getElem? (i := 748) (by decide +kernel), rfl⟩
theorem kf_X10_50_10 : sh_fl RX10 50 10 24 := ⟨RX10, TX10, 35, "SillHouseModel", rfl, by decide, uw_X10, List.mem_of_getElem? (i := 745) (by decide +kernel), rfl⟩
theorem kf_X10_214_10 : sh_fl RX10 214 10 28 := ⟨RX10, TX10, 35, "SillHouseModel", rfl, by decide, uw_X10, List.mem_of_getElem? (i := 749) (by decide +kernel), rfl⟩
theorem kf_X10_53_10 : sh_fl RX10 53 10 25 := ⟨RX10, TX10, 35, "SillHouseModel", rfl, by decide, uw_X10, List.mem_of_getElem? (i := 746) (by decide +kernel), rfl⟩
theorem kf_X10_56_10 : sh_fl RX10 56 10 26 := ⟨RX10, TX10, 35, "SillHouseModel", rfl, by decide, uw_X10, List.mem_of_getElem? (i := 747) (by decide +kernel), rfl⟩
theorem kp_X10_add_214_10 : sh_fp mX10_add 214 10 28 .int := ⟨RX10, TX10, 35, "SillHouseModel", tyX10, rfl, by decide, uw_X10, List.mem_of_getElem? (i := 749) (by decide +kernel), rfl, tyX10_ok, nmX10, rfl, Or.inl rfl⟩
theorem kf_X10_217_10 : sh_fl RX10 217 10 18 := ⟨RX10, TX10, 35, "SillHouseModel", rfl, by decide, uw_X10, List.mem_of_getElem? (i := 739) (by decide +kernel), rfl⟩
theorem kf_X10_43_10 : sh_fl RX10 43 10 22 := ⟨RX10, TX10, 35, "SillHouseModel", rfl, by decide, uw_X10, List.mem_of_getElem? (i := 743) (by decide +kernel), rfl⟩
theorem kl_X10_220 : Cond.methodLink RX10 220 yX10_takeState ∈ lw_tbl := List.mem_of_getElem? (i := 997) (by decide +kernel)
theorem kl_X10_224 : Cond.methodLink RX10 224 yX10_carriedNow ∈ lw_tbl := List.mem_of_getElem? (i := 1001) (by decide +kernel)
theorem kl_X10_227 : Cond.methodLink RX10 227 yX10_add ∈ lw_tbl := List.mem_of_getElem? (i := 985) (by decide +kernel)
theorem kl_X10_231 : Cond.methodLink RX10 231 yX10_weightNow ∈ lw_tbl := List.mem_of_getElem? (i := 1005) (by decide +kernel)
theorem kp_X10_spread_207_10 : sh_fp mX10_spread 207 10 19 .int := ⟨RX10, TX10, 35, "SillHouseModel", tyX10, rfl, by decide, uw_X10, List.mem_of_getElem? (i := 740) (by decide +kernel), rfl, tyX10_ok, nmX10, rfl, Or.inl rfl⟩
theorem kp_X10_goTill_214_10 : sh_fp mX10_goTill 214 10 28 .int := ⟨RX10, TX10, 35, "SillHouseModel", tyX10, rfl, by decide, uw_X10, List.mem_of_getElem? (i := 749) (by decide +kernel), rfl, tyX10_ok, nmX10, rfl, Or.inl rfl⟩
theorem kl_X10_234 : Cond.methodLink RX10 234 yX10_spread ∈ lw_tbl := List.mem_of_getElem? (i := 993) (by decide +kernel)
theorem kp_X10_fewest_217_10 : sh_fp mX10_fewest 217 10 18 .int := ⟨RX10, TX10, 35, "SillHouseModel", tyX10, rfl, by decide, uw_X10, List.mem_of_getElem? (i := 739) (by decide +kernel), rfl, tyX10_ok, nmX10, rfl, Or.inl rfl⟩
theorem kp_X10_fewest_207_10 : sh_fp mX10_fewest 207 10 19 .int := ⟨RX10, TX10, 35, "SillHouseModel", tyX10, rfl, by decide, uw_X10, List.mem_of_getElem? (i := 740) (by decide +kernel), rfl, tyX10_ok, nmX10, rfl, Or.inl rfl⟩
theorem kp_X10_fewest_204_10 : sh_fp mX10_fewest 204 10 20 .int := ⟨RX10, TX10, 35, "SillHouseModel", tyX10, rfl, by decide, uw_X10, List.mem_of_getElem? (i := 741) (by decide +kernel), rfl, tyX10_ok, nmX10, rfl, Or.inl rfl⟩
theorem kl_X10_237 : Cond.methodLink RX10 237 yX10_goTill ∈ lw_tbl := List.mem_of_getElem? (i := 981) (by decide +kernel)
theorem kf_X10_62_10 : sh_fl RX10 62 10 29 := ⟨RX10, TX10, 35, "SillHouseModel", rfl, by decide, uw_X10, List.mem_of_getElem? (i := 750) (by decide +kernel), rfl⟩
theorem kc_X10_240 : Cond.constantLong RX10 240 (999) ∈ lw_tbl := List.mem_of_getElem? (i := 1013) (by decide +kernel)
theorem kl_X10_242 : Cond.methodLink RX10 242 yX10_reachOf ∈ lw_tbl := List.mem_of_getElem? (i := 1014) (by decide +kernel)
theorem kl_X10_245 : Cond.methodLink RX10 245 yX10_comesTo ∈ lw_tbl := List.mem_of_getElem? (i := 1022) (by decide +kernel)
theorem kp_X10_goesWith_217_10 : sh_fp mX10_goesWith 217 10 18 .int := ⟨RX10, TX10, 35, "SillHouseModel", tyX10, rfl, by decide, uw_X10, List.mem_of_getElem? (i := 739) (by decide +kernel), rfl, tyX10_ok, nmX10, rfl, Or.inl rfl⟩
theorem kp_X10_goesWith_207_10 : sh_fp mX10_goesWith 207 10 19 .int := ⟨RX10, TX10, 35, "SillHouseModel", tyX10, rfl, by decide, uw_X10, List.mem_of_getElem? (i := 740) (by decide +kernel), rfl, tyX10_ok, nmX10, rfl, Or.inl rfl⟩
theorem kp_X10_goesWith_204_10 : sh_fp mX10_goesWith 204 10 20 .int := ⟨RX10, TX10, 35, "SillHouseModel", tyX10, rfl, by decide, uw_X10, List.mem_of_getElem? (i := 741) (by decide +kernel), rfl, tyX10_ok, nmX10, rfl, Or.inl rfl⟩
theorem kc_X10_248 : Cond.constantLong RX10 248 (-1) ∈ lw_tbl := List.mem_of_getElem? (i := 1030) (by decide +kernel)
theorem kl_X10_250 : Cond.methodLink RX10 250 yX10_goesWith ∈ lw_tbl := List.mem_of_getElem? (i := 1031) (by decide +kernel)
theorem kl_X10_254 : Cond.methodLink RX10 254 yX10_areDoors ∈ lw_tbl := List.mem_of_getElem? (i := 1043) (by decide +kernel)
theorem kl_X10_257 : Cond.methodLink RX10 257 yX10_passesAll ∈ lw_tbl := List.mem_of_getElem? (i := 1047) (by decide +kernel)
theorem kc_X10_261 : Cond.constantLong RX10 261 (9) ∈ lw_tbl := List.mem_of_getElem? (i := 1059) (by decide +kernel)
theorem kc_X10_263 : Cond.constantLong RX10 263 (3) ∈ lw_tbl := List.mem_of_getElem? (i := 839) (by decide +kernel)
theorem kl_X10_265 : Cond.methodLink RX10 265 yX10_noCell ∈ lw_tbl := List.mem_of_getElem? (i := 1072) (by decide +kernel)
theorem kp_X10_cell_79_10 : sh_fp mX10_cell 79 10 0 .int := ⟨RX10, TX10, 35, "SillHouseModel", tyX10, rfl, by decide, uw_X10, List.mem_of_getElem? (i := 721) (by decide +kernel), rfl, tyX10_ok, nmX10, rfl, Or.inl rfl⟩
theorem kl_X10_268 : Cond.methodLink RX10 268 yX10_failedLong ∈ lw_tbl := List.mem_of_getElem? (i := 1084) (by decide +kernel)
theorem kf_X10_74_10 : sh_fl RX10 74 10 33 := ⟨RX10, TX10, 35, "SillHouseModel", rfl, by decide, uw_X10, List.mem_of_getElem? (i := 754) (by decide +kernel), rfl⟩
theorem kf_X10_272_10 : sh_fl RX10 272 10 34 := ⟨RX10, TX10, 35, "SillHouseModel", rfl, by decide, uw_X10, List.mem_of_getElem? (i := 755) (by decide +kernel), rfl⟩
theorem kp_X10_traced_272_10 : sh_fp mX10_traced 272 10 34 .int := ⟨RX10, TX10, 35, "SillHouseModel", tyX10, rfl, by decide, uw_X10, List.mem_of_getElem? (i := 755) (by decide +kernel), rfl, tyX10_ok, nmX10, rfl, Or.inl rfl⟩
theorem kl_X10_275 : Cond.methodLink RX10 275 yX10_traced ∈ lw_tbl := List.mem_of_getElem? (i := 1096) (by decide +kernel)
theorem kf_X10_79_10 : sh_fl RX10 79 10 0 := ⟨RX10, TX10, 35, "SillHouseModel", rfl, by decide, uw_X10, List.mem_of_getElem? (i := 721) (by decide +kernel), rfl⟩
theorem kc_J6_265 : Cond.constant RJ6 265 (1431655765) ∈ lw_tbl := List.mem_of_getElem? (i := 463) (by decide +kernel)
theorem kc_J6_266 : Cond.constant RJ6 266 (858993459) ∈ lw_tbl := List.mem_of_getElem? (i := 464) (by decide +kernel)
theorem kc_J6_267 : Cond.constant RJ6 267 (252645135) ∈ lw_tbl := List.mem_of_getElem? (i := 465) (by decide +kernel)
theorem kn_L_law_7 : sh_nw mL_law 7 9 6 [.null, .null, .null, .null, .null, .int 0] := by
  refine ⟨RX9, TX9, tyX9, rfl, List.mem_of_getElem? (i := 67) (by decide +kernel), List.mem_of_getElem? (i := 68) (by decide +kernel), List.mem_of_getElem? (i := 53) (by decide +kernel), uw_X9, tyX9_ok, fun G j hj => ?_⟩
  match j, hj with
  | 0, _ => exact rfl
  | 1, _ => exact rfl
  | 2, _ => exact rfl
  | 3, _ => exact rfl
  | 4, _ => exact rfl
  | 5, _ => exact rfl
  | n + 6, h => exact absurd h (by omega)
theorem kl_L_9 : Cond.methodLink RL 9 yX9_init ∈ lw_tbl := List.mem_of_getElem? (i := 69) (by decide +kernel)
theorem kn_L_law_10 : sh_nw mL_law 10 10 35 [.int 0, .int 0, .int 0, .null, .null, .null, .int 0, .int 0, .int 0, .null, .null, .null, .int 0, .null, .null, .int 0, .null, .null, .int 0, .int 0, .int 0, .null, .null, .null, .null, .null, .null, .null, .int 0, .null, .null, .null, .null, .null, .int 0] := by
  refine ⟨RX10, TX10, tyX10, rfl, List.mem_of_getElem? (i := 715) (by decide +kernel), List.mem_of_getElem? (i := 716) (by decide +kernel), List.mem_of_getElem? (i := 59) (by decide +kernel), uw_X10, tyX10_ok, fun G j hj => ?_⟩
  match j, hj with
  | 0, _ => exact rfl
  | 1, _ => exact rfl
  | 2, _ => exact rfl
  | 3, _ => exact rfl
  | 4, _ => exact rfl
  | 5, _ => exact rfl
  | 6, _ => exact rfl
  | 7, _ => exact rfl
  | 8, _ => exact rfl
  | 9, _ => exact rfl
  | 10, _ => exact rfl
  | 11, _ => exact rfl
  | 12, _ => exact rfl
  | 13, _ => exact rfl
  | 14, _ => exact rfl
  | 15, _ => exact rfl
  | 16, _ => exact rfl
  | 17, _ => exact rfl
  | 18, _ => exact rfl
  | 19, _ => exact rfl
  | 20, _ => exact rfl
  | 21, _ => exact rfl
  | 22, _ => exact rfl
  | 23, _ => exact rfl
  | 24, _ => exact rfl
  | 25, _ => exact rfl
  | 26, _ => exact rfl
  | 27, _ => exact rfl
  | 28, _ => exact rfl
  | 29, _ => exact rfl
  | 30, _ => exact rfl
  | 31, _ => exact rfl
  | 32, _ => exact rfl
  | 33, _ => exact rfl
  | 34, _ => exact rfl
  | n + 35, h => exact absurd h (by omega)
theorem kl_L_12 : Cond.methodLink RL 12 yX10_init ∈ lw_tbl := List.mem_of_getElem? (i := 717) (by decide +kernel)
theorem kl_L_13 : Cond.methodLink RL 13 yX9_house ∈ lw_tbl := List.mem_of_getElem? (i := 214) (by decide +kernel)
theorem kl_L_17 : Cond.methodLink RL 17 yX10_house ∈ lw_tbl := List.mem_of_getElem? (i := 828) (by decide +kernel)
theorem kl_L_18 : Cond.methodLink RL 18 yX9_ofDoor ∈ lw_tbl := List.mem_of_getElem? (i := 375) (by decide +kernel)
theorem kl_L_22 : Cond.methodLink RL 22 yX10_ofDoor ∈ lw_tbl := List.mem_of_getElem? (i := 875) (by decide +kernel)
theorem kl_L_23 : Cond.methodLink RL 23 yX9_person ∈ lw_tbl := List.mem_of_getElem? (i := 401) (by decide +kernel)
theorem kl_L_26 : Cond.methodLink RL 26 yX10_person ∈ lw_tbl := List.mem_of_getElem? (i := 891) (by decide +kernel)
theorem kl_L_27 : Cond.methodLink RL 27 yX9_stone ∈ lw_tbl := List.mem_of_getElem? (i := 416) (by decide +kernel)
theorem kl_L_30 : Cond.methodLink RL 30 yX10_stone ∈ lw_tbl := List.mem_of_getElem? (i := 901) (by decide +kernel)
theorem kl_L_31 : Cond.methodLink RL 31 yX9_ofPerson ∈ lw_tbl := List.mem_of_getElem? (i := 424) (by decide +kernel)
theorem kl_L_34 : Cond.methodLink RL 34 yX10_ofPerson ∈ lw_tbl := List.mem_of_getElem? (i := 906) (by decide +kernel)
theorem kl_L_35 : Cond.methodLink RL 35 yX9_ofStone ∈ lw_tbl := List.mem_of_getElem? (i := 443) (by decide +kernel)
theorem kl_L_38 : Cond.methodLink RL 38 yX10_ofStone ∈ lw_tbl := List.mem_of_getElem? (i := 922) (by decide +kernel)
theorem kl_L_39 : Cond.methodLink RL 39 yX9_take ∈ lw_tbl := List.mem_of_getElem? (i := 451) (by decide +kernel)
theorem kl_L_42 : Cond.methodLink RL 42 yX10_take ∈ lw_tbl := List.mem_of_getElem? (i := 930) (by decide +kernel)
theorem kl_L_43 : Cond.methodLink RL 43 yX9_lay ∈ lw_tbl := List.mem_of_getElem? (i := 467) (by decide +kernel)
theorem kl_L_46 : Cond.methodLink RL 46 yX10_lay ∈ lw_tbl := List.mem_of_getElem? (i := 937) (by decide +kernel)
theorem kl_L_47 : Cond.methodLink RL 47 yX9_opens ∈ lw_tbl := List.mem_of_getElem? (i := 471) (by decide +kernel)
theorem kl_L_50 : Cond.methodLink RL 50 yX10_opens ∈ lw_tbl := List.mem_of_getElem? (i := 941) (by decide +kernel)
theorem kl_L_51 : Cond.methodLink RL 51 yX9_pass ∈ lw_tbl := List.mem_of_getElem? (i := 502) (by decide +kernel)
theorem kl_L_54 : Cond.methodLink RL 54 yX10_pass ∈ lw_tbl := List.mem_of_getElem? (i := 969) (by decide +kernel)
theorem kl_L_55 : Cond.methodLink RL 55 yX9_weigh ∈ lw_tbl := List.mem_of_getElem? (i := 511) (by decide +kernel)
theorem kl_L_58 : Cond.methodLink RL 58 yX10_weigh ∈ lw_tbl := List.mem_of_getElem? (i := 973) (by decide +kernel)
theorem kl_L_59 : Cond.methodLink RL 59 yX9_fewest ∈ lw_tbl := List.mem_of_getElem? (i := 515) (by decide +kernel)
theorem kl_L_63 : Cond.methodLink RL 63 yX10_fewest ∈ lw_tbl := List.mem_of_getElem? (i := 977) (by decide +kernel)
theorem kl_L_64 : Cond.methodLink RL 64 yX9_reach ∈ lw_tbl := List.mem_of_getElem? (i := 559) (by decide +kernel)
theorem kl_L_67 : Cond.methodLink RL 67 yX10_reach ∈ lw_tbl := List.mem_of_getElem? (i := 1009) (by decide +kernel)
theorem kl_L_68 : Cond.methodLink RL 68 yX9_strangers ∈ lw_tbl := List.mem_of_getElem? (i := 571) (by decide +kernel)
theorem kl_L_71 : Cond.methodLink RL 71 yX10_strangers ∈ lw_tbl := List.mem_of_getElem? (i := 1018) (by decide +kernel)
theorem kl_L_72 : Cond.methodLink RL 72 yX9_laid ∈ lw_tbl := List.mem_of_getElem? (i := 580) (by decide +kernel)
theorem kl_L_75 : Cond.methodLink RL 75 yX10_laid ∈ lw_tbl := List.mem_of_getElem? (i := 1026) (by decide +kernel)
theorem kl_L_76 : Cond.methodLink RL 76 yX9_guest ∈ lw_tbl := List.mem_of_getElem? (i := 591) (by decide +kernel)
theorem kl_L_79 : Cond.methodLink RL 79 yX10_guest ∈ lw_tbl := List.mem_of_getElem? (i := 1035) (by decide +kernel)
theorem kl_L_80 : Cond.methodLink RL 80 yX9_heard ∈ lw_tbl := List.mem_of_getElem? (i := 599) (by decide +kernel)
theorem kl_L_83 : Cond.methodLink RL 83 yX10_heard ∈ lw_tbl := List.mem_of_getElem? (i := 1039) (by decide +kernel)
theorem kl_L_84 : Cond.methodLink RL 84 yX9_byStrangers ∈ lw_tbl := List.mem_of_getElem? (i := 611) (by decide +kernel)
theorem kl_L_88 : Cond.methodLink RL 88 yX10_byStrangers ∈ lw_tbl := List.mem_of_getElem? (i := 1051) (by decide +kernel)
theorem kl_L_89 : Cond.methodLink RL 89 yX9_grows ∈ lw_tbl := List.mem_of_getElem? (i := 615) (by decide +kernel)
theorem kl_L_92 : Cond.methodLink RL 92 yX10_grows ∈ lw_tbl := List.mem_of_getElem? (i := 1055) (by decide +kernel)
theorem kl_L_93 : Cond.methodLink RL 93 yX9_sheet ∈ lw_tbl := List.mem_of_getElem? (i := 619) (by decide +kernel)
theorem kl_L_96 : Cond.methodLink RL 96 yX10_sheet ∈ lw_tbl := List.mem_of_getElem? (i := 1060) (by decide +kernel)
theorem kl_L_97 : Cond.methodLink RL 97 yX9_lose ∈ lw_tbl := List.mem_of_getElem? (i := 627) (by decide +kernel)
theorem kl_L_101 : Cond.methodLink RL 101 yX10_lose ∈ lw_tbl := List.mem_of_getElem? (i := 1064) (by decide +kernel)
theorem kl_L_102 : Cond.methodLink RL 102 yX9_put ∈ lw_tbl := List.mem_of_getElem? (i := 635) (by decide +kernel)
theorem kl_L_105 : Cond.methodLink RL 105 yX10_put ∈ lw_tbl := List.mem_of_getElem? (i := 1068) (by decide +kernel)
theorem kl_L_106 : Cond.methodLink RL 106 yX9_cell ∈ lw_tbl := List.mem_of_getElem? (i := 643) (by decide +kernel)
theorem kl_L_110 : Cond.methodLink RL 110 yX10_cell ∈ lw_tbl := List.mem_of_getElem? (i := 1076) (by decide +kernel)
theorem kl_L_111 : Cond.methodLink RL 111 yX9_copy ∈ lw_tbl := List.mem_of_getElem? (i := 648) (by decide +kernel)
theorem kl_L_114 : Cond.methodLink RL 114 yX10_copy ∈ lw_tbl := List.mem_of_getElem? (i := 1088) (by decide +kernel)
theorem kl_L_115 : Cond.methodLink RL 115 yX9_tell ∈ lw_tbl := List.mem_of_getElem? (i := 655) (by decide +kernel)
theorem kl_L_118 : Cond.methodLink RL 118 yX10_tell ∈ lw_tbl := List.mem_of_getElem? (i := 1092) (by decide +kernel)
theorem kl_L_119 : Cond.methodLink RL 119 yX9_ring ∈ lw_tbl := List.mem_of_getElem? (i := 685) (by decide +kernel)
theorem kl_L_122 : Cond.methodLink RL 122 yX10_ring ∈ lw_tbl := List.mem_of_getElem? (i := 1100) (by decide +kernel)
theorem kl_L_123 : Cond.methodLink RL 123 yX9_as ∈ lw_tbl := List.mem_of_getElem? (i := 698) (by decide +kernel)
theorem kl_L_126 : Cond.methodLink RL 126 yX10_as ∈ lw_tbl := List.mem_of_getElem? (i := 1104) (by decide +kernel)
theorem kl_L_127 : Cond.methodLink RL 127 yX9_trace ∈ lw_tbl := List.mem_of_getElem? (i := 703) (by decide +kernel)
theorem kl_L_131 : Cond.methodLink RL 131 yX10_trace ∈ lw_tbl := List.mem_of_getElem? (i := 1108) (by decide +kernel)
theorem kl_L_132 : Cond.methodLink RL 132 yX9_fault ∈ lw_tbl := List.mem_of_getElem? (i := 707) (by decide +kernel)
theorem kl_L_135 : Cond.methodLink RL 135 yX10_fault ∈ lw_tbl := List.mem_of_getElem? (i := 1112) (by decide +kernel)
theorem kl_L_136 : Cond.methodLink RL 136 yX9_many ∈ lw_tbl := List.mem_of_getElem? (i := 711) (by decide +kernel)
theorem kl_L_139 : Cond.methodLink RL 139 yX10_many ∈ lw_tbl := List.mem_of_getElem? (i := 1116) (by decide +kernel)
theorem ko_1 : Cond.instanceMethod objectInit ∈ lw_tbl := List.mem_of_getElem? (i := 73) (by decide +kernel)
theorem ko_2 : Cond.code objectInit ⟨#[0xb1]⟩ 1 none ∈ lw_tbl := List.mem_of_getElem? (i := 74) (by decide +kernel)
theorem kr_int : Cond.arrayClass .int ∈ lw_tbl := List.mem_of_getElem? (i := 131) (by decide +kernel)
theorem kr_long : Cond.arrayClass .long ∈ lw_tbl := List.mem_of_getElem? (i := 166) (by decide +kernel)
theorem kz_X7 : Cond.superclass RX7 RX4 ∈ lw_tbl := List.mem_of_getElem? (i := 356) (by decide +kernel)
theorem kz_X8 : Cond.superclass RX8 RX7 ∈ lw_tbl := List.mem_of_getElem? (i := 370) (by decide +kernel)
theorem kr_boolean : Cond.arrayClass .boolean ∈ lw_tbl := List.mem_of_getElem? (i := 827) (by decide +kernel)
theorem kb_1 : Cond.native arraycopyName ∈ lw_tbl := List.mem_of_getElem? (i := 654) (by decide +kernel)
theorem kb_2 : Cond.static arraycopyName ∈ lw_tbl := List.mem_of_getElem? (i := 653) (by decide +kernel)
theorem kb_3 : Cond.initialized "java/lang/System" ∈ lw_tbl := List.mem_of_getElem? (i := 66) (by decide +kernel)
theorem km_max_1 : Cond.static Lib.Math.max.name ∈ lw_tbl := List.mem_of_getElem? (i := 314) (by decide +kernel)
theorem km_max_2 : Cond.code Lib.Math.max.name Lib.Math.max.code 2 (some .int) ∈ lw_tbl := List.mem_of_getElem? (i := 315) (by decide +kernel)
theorem km_min_1 : Cond.static Lib.Math.min.name ∈ lw_tbl := List.mem_of_getElem? (i := 298) (by decide +kernel)
theorem km_min_2 : Cond.code Lib.Math.min.name Lib.Math.min.code 2 (some .int) ∈ lw_tbl := List.mem_of_getElem? (i := 299) (by decide +kernel)
theorem km_i : Cond.initialized "java/lang/Math" ∈ lw_tbl := List.mem_of_getElem? (i := 61) (by decide +kernel)
end
section
def sh_is (v : Option Value) (w1 : List sh_C) : Option Value → List sh_C → Prop := fun r w' => r = v ∧ w' = w1
def bi (c : Prop) [Decidable c] : Int32 := if c then 1 else 0
theorem bi_t {c : Prop} [Decidable c] (h : c) : bi c = 1 := if_pos h
theorem bi_f {c : Prop} [Decidable c] (h : ¬ c) : bi c = 0 := if_neg h
theorem bi_0 {c : Prop} [Decidable c] : bi c = 0 ↔ ¬ c := by unfold bi; split <;> simp_all
theorem bi_1 {c : Prop} [Decidable c] : bi c ≠ 0 ↔ c := by unfold bi; split <;> simp_all
theorem bi_n {c : Prop} [Decidable c] : narrow .boolean (.int (bi c)) = .int (bi c) := by unfold bi; split <;> rfl
section SHW
variable {G : sh_G} {M N : sh_M} {kc ks pc : Nat} {w w1 : List sh_C} {lv : List (Option Value)} {st : List Value} {Q : Option Value → List sh_C → Prop}
theorem e_iret {x : Int32} (d : decode M.2.2.1 pc = .ok (.ireturn, 1)) (hr : M.2.2.2.2.1 = some .int) (hq : Q (some (.int x)) w) : Ev G M kc ks w pc lv [.int x] Q := e_ret (v := some (.int x)) ⟨d, _, hr, rfl⟩ hq
theorem e_zret {x : Int32} (d : decode M.2.2.1 pc = .ok (.ireturn, 1)) (hr : M.2.2.2.2.1 = some .boolean) (hx : narrow .boolean (.int x) = .int x) (hq : Q (some (.int x)) w) : Ev G M kc ks w pc lv [.int x] Q := e_ret (v := some (.int x)) ⟨d, _, hr, hx⟩ hq
theorem e_lret {x : Int64} (d : decode M.2.2.1 pc = .ok (.lreturn, 1)) (hr : M.2.2.2.2.1 = some .long) (hq : Q (some (.long x)) w) : Ev G M kc ks w pc lv [.long x] Q := e_ret (v := some (.long x)) ⟨d, hr⟩ hq
theorem e_vret (d : decode M.2.2.1 pc = .ok (.return_, 1)) (hr : M.2.2.2.2.1 = none) (hq : Q none w) : Ev G M kc ks w pc lv [] Q := e_ret (v := none) ⟨d, hr⟩ hq
theorem e_aret {x : Nat} {n : String} (d : decode M.2.2.1 pc = .ok (.areturn, 1)) (hr : M.2.2.2.2.1 = some (.object n)) (hq : Q (some (.ref x)) w) : Ev G M kc ks w pc lv [.ref x] Q := e_ret (v := some (.ref x)) ⟨d, n, hr⟩ hq
theorem e_max {idx : Nat} {x y : Int32} (d : decode M.2.2.1 pc = .ok (.invokestatic idx, 3)) (hl1 : Cond.methodLink M.1 idx Lib.Math.max.name ∈ lw_tbl) (hr1 : 1 ≤ M.2.2.2.2.2.1) (hr2 : 21 ≤ M.2.2.2.2.2.2) (hcat : (st.map fun v => v.category).sum ≤ 8) (kk : Ev G M kc ks w (pc + 3) lv (.int (if x < y then y else x) :: st) Q) : Ev G M kc ks w pc lv (.int y :: .int x :: st) Q := by
  intro p e R s m args below meth c H locs cells slots ls Qf cx sx hS ht hl h1 h2 fin
  have hts := cx.2.2.2.2.1
  have hr1' := cx.2.2.2.2.2.2.1
  have hr2' := cx.2.2.2.2.2.2.2
  exact va_mmax (rest := st.map (sh_tr G)) cx.1 cx.2.1 (by rw [cx.2.2.1]; exact hl.1.symm) cx.2.2.2.1 (hts _ (lw_g_of hl1 rfl)) (hts _ (lw_g_of km_max_1 rfl)) (hts _ (lw_g_of km_i rfl)) (hts _ (lw_g_of km_max_2 rfl)) (by omega) (by rw [sh_cats]; omega) (by omega) (by omega) d (kk p e R s m args below meth c H locs cells slots ls Qf cx sx hS ht hl h1 h2 fin)
theorem e_min {idx : Nat} {x y : Int32} (d : decode M.2.2.1 pc = .ok (.invokestatic idx, 3)) (hl1 : Cond.methodLink M.1 idx Lib.Math.min.name ∈ lw_tbl) (hr1 : 1 ≤ M.2.2.2.2.2.1) (hr2 : 21 ≤ M.2.2.2.2.2.2) (hcat : (st.map fun v => v.category).sum ≤ 8) (kk : Ev G M kc ks w (pc + 3) lv (.int (if y < x then y else x) :: st) Q) : Ev G M kc ks w pc lv (.int y :: .int x :: st) Q := by
  intro p e R s m args below meth c H locs cells slots ls Qf cx sx hS ht hl h1 h2 fin
  have hts := cx.2.2.2.2.1
  have hr1' := cx.2.2.2.2.2.2.1
  have hr2' := cx.2.2.2.2.2.2.2
  exact va_mmin (rest := st.map (sh_tr G)) cx.1 cx.2.1 (by rw [cx.2.2.1]; exact hl.1.symm) cx.2.2.2.1 (hts _ (lw_g_of hl1 rfl)) (hts _ (lw_g_of km_min_1 rfl)) (hts _ (lw_g_of km_i rfl)) (hts _ (lw_g_of km_min_2 rfl)) (by omega) (by rw [sh_cats]; omega) (by omega) (by omega) d (kk p e R s m args below meth c H locs cells slots ls Qf cx sx hS ht hl h1 h2 fin)
theorem f_callSi {As rest : List Value} {idx n mc ms kc2 ks2 : Nat} {r : Int32} (hN : sh_ok N n) (hrr : sh_rr M N) (d : decode M.2.2.1 pc = .ok (.invokestatic idx, 3)) (hl1 : Cond.methodLink M.1 idx N.2.1 ∈ lw_tbl) (hl2 : Cond.static N.2.1 ∈ lw_tbl) (hn : As.length = n) (hst : st = As.reverse ++ rest) (hcat : (rest.map fun v => v.category).sum ≤ 8) (har : (sh_ar As).length ≤ N.2.2.2.1) (hk : mc + kc2 = kc) (hs : ms + ks2 = ks) (hE : Ev G N mc ms w 0 (sh_en N.2.2.2.1 As) [] (sh_is (some (.int r)) w1)) (kk : Ev G M kc2 ks2 w1 (pc + 3) lv (.int r :: rest) Q) : Ev G M kc ks w pc lv st Q := by
  subst hk; subst hs
  exact e_callS hN hrr d hl1 hl2 hn hst hcat har hE (fun v w' h => by obtain ⟨rfl, rfl⟩ := h; exact kk)
theorem f_callSl {As rest : List Value} {idx n mc ms kc2 ks2 : Nat} {r : Int64} (hN : sh_ok N n) (hrr : sh_rr M N) (d : decode M.2.2.1 pc = .ok (.invokestatic idx, 3)) (hl1 : Cond.methodLink M.1 idx N.2.1 ∈ lw_tbl) (hl2 : Cond.static N.2.1 ∈ lw_tbl) (hn : As.length = n) (hst : st = As.reverse ++ rest) (hcat : (rest.map fun v => v.category).sum ≤ 8) (har : (sh_ar As).length ≤ N.2.2.2.1) (hk : mc + kc2 = kc) (hs : ms + ks2 = ks) (hE : Ev G N mc ms w 0 (sh_en N.2.2.2.1 As) [] (sh_is (some (.long r)) w1)) (kk : Ev G M kc2 ks2 w1 (pc + 3) lv (.long r :: rest) Q) : Ev G M kc ks w pc lv st Q := by
  subst hk; subst hs
  exact e_callS hN hrr d hl1 hl2 hn hst hcat har hE (fun v w' h => by obtain ⟨rfl, rfl⟩ := h; exact kk)
theorem f_callSv {As rest : List Value} {idx n mc ms kc2 ks2 : Nat}  (hN : sh_ok N n) (hrr : sh_rr M N) (d : decode M.2.2.1 pc = .ok (.invokestatic idx, 3)) (hl1 : Cond.methodLink M.1 idx N.2.1 ∈ lw_tbl) (hl2 : Cond.static N.2.1 ∈ lw_tbl) (hn : As.length = n) (hst : st = As.reverse ++ rest) (hcat : (rest.map fun v => v.category).sum ≤ 8) (har : (sh_ar As).length ≤ N.2.2.2.1) (hk : mc + kc2 = kc) (hs : ms + ks2 = ks) (hE : Ev G N mc ms w 0 (sh_en N.2.2.2.1 As) [] (sh_is none w1)) (kk : Ev G M kc2 ks2 w1 (pc + 3) lv (rest) Q) : Ev G M kc ks w pc lv st Q := by
  subst hk; subst hs
  exact e_callS hN hrr d hl1 hl2 hn hst hcat har hE (fun v w' h => by obtain ⟨rfl, rfl⟩ := h; exact kk)
theorem f_callVi {As rest fs : List Value} {a ci idx n mc ms kc2 ks2 : Nat} {T : u_T} {K : Nat} {r : Int32} (hN : sh_ok N n) (hrr : sh_rr M N) (d : decode M.2.2.1 pc = .ok (.invokevirtual idx, 3)) (hl1 : Cond.methodLink M.1 idx N.2.1 ∈ lw_tbl) (hl2 : Cond.instanceMethod N.2.1 ∈ lw_tbl) (hl3 : Cond.selects N.2.1.cls N.2.1 N.2.1 ∈ lw_tbl) (hn : As.length = n) (hst : st = As.reverse ++ .ref a :: rest) (ha : w[a]? = some (.inl (ci, fs))) (hc : sh_cl[ci]? = some (N.2.1.cls, T, K)) (hcat : (rest.map fun v => v.category).sum ≤ 8) (har : (sh_ar (.ref a :: As)).length ≤ N.2.2.2.1) (hk : mc + kc2 = kc) (hs : ms + ks2 = ks) (hE : Ev G N mc ms w 0 (sh_en N.2.2.2.1 (.ref a :: As)) [] (sh_is (some (.int r)) w1)) (kk : Ev G M kc2 ks2 w1 (pc + 3) lv (.int r :: rest) Q) : Ev G M kc ks w pc lv st Q := by
  subst hk; subst hs
  exact e_callV hN hrr d hl1 hl2 hl3 ha hc hn hst hcat har hE (fun v w' h => by obtain ⟨rfl, rfl⟩ := h; exact kk)
theorem f_callVl {As rest fs : List Value} {a ci idx n mc ms kc2 ks2 : Nat} {T : u_T} {K : Nat} {r : Int64} (hN : sh_ok N n) (hrr : sh_rr M N) (d : decode M.2.2.1 pc = .ok (.invokevirtual idx, 3)) (hl1 : Cond.methodLink M.1 idx N.2.1 ∈ lw_tbl) (hl2 : Cond.instanceMethod N.2.1 ∈ lw_tbl) (hl3 : Cond.selects N.2.1.cls N.2.1 N.2.1 ∈ lw_tbl) (hn : As.length = n) (hst : st = As.reverse ++ .ref a :: rest) (ha : w[a]? = some (.inl (ci, fs))) (hc : sh_cl[ci]? = some (N.2.1.cls, T, K)) (hcat : (rest.map fun v => v.category).sum ≤ 8) (har : (sh_ar (.ref a :: As)).length ≤ N.2.2.2.1) (hk : mc + kc2 = kc) (hs : ms + ks2 = ks) (hE : Ev G N mc ms w 0 (sh_en N.2.2.2.1 (.ref a :: As)) [] (sh_is (some (.long r)) w1)) (kk : Ev G M kc2 ks2 w1 (pc + 3) lv (.long r :: rest) Q) : Ev G M kc ks w pc lv st Q := by
  subst hk; subst hs
  exact e_callV hN hrr d hl1 hl2 hl3 ha hc hn hst hcat har hE (fun v w' h => by obtain ⟨rfl, rfl⟩ := h; exact kk)
theorem f_callVv {As rest fs : List Value} {a ci idx n mc ms kc2 ks2 : Nat} {T : u_T} {K : Nat}  (hN : sh_ok N n) (hrr : sh_rr M N) (d : decode M.2.2.1 pc = .ok (.invokevirtual idx, 3)) (hl1 : Cond.methodLink M.1 idx N.2.1 ∈ lw_tbl) (hl2 : Cond.instanceMethod N.2.1 ∈ lw_tbl) (hl3 : Cond.selects N.2.1.cls N.2.1 N.2.1 ∈ lw_tbl) (hn : As.length = n) (hst : st = As.reverse ++ .ref a :: rest) (ha : w[a]? = some (.inl (ci, fs))) (hc : sh_cl[ci]? = some (N.2.1.cls, T, K)) (hcat : (rest.map fun v => v.category).sum ≤ 8) (har : (sh_ar (.ref a :: As)).length ≤ N.2.2.2.1) (hk : mc + kc2 = kc) (hs : ms + ks2 = ks) (hE : Ev G N mc ms w 0 (sh_en N.2.2.2.1 (.ref a :: As)) [] (sh_is none w1)) (kk : Ev G M kc2 ks2 w1 (pc + 3) lv (rest) Q) : Ev G M kc ks w pc lv st Q := by
  subst hk; subst hs
  exact e_callV hN hrr d hl1 hl2 hl3 ha hc hn hst hcat har hE (fun v w' h => by obtain ⟨rfl, rfl⟩ := h; exact kk)
theorem f_callVr {As rest fs : List Value} {a ci idx n mc ms kc2 ks2 : Nat} {T : u_T} {K : Nat} {r : Nat} (hN : sh_ok N n) (hrr : sh_rr M N) (d : decode M.2.2.1 pc = .ok (.invokevirtual idx, 3)) (hl1 : Cond.methodLink M.1 idx N.2.1 ∈ lw_tbl) (hl2 : Cond.instanceMethod N.2.1 ∈ lw_tbl) (hl3 : Cond.selects N.2.1.cls N.2.1 N.2.1 ∈ lw_tbl) (hn : As.length = n) (hst : st = As.reverse ++ .ref a :: rest) (ha : w[a]? = some (.inl (ci, fs))) (hc : sh_cl[ci]? = some (N.2.1.cls, T, K)) (hcat : (rest.map fun v => v.category).sum ≤ 8) (har : (sh_ar (.ref a :: As)).length ≤ N.2.2.2.1) (hk : mc + kc2 = kc) (hs : ms + ks2 = ks) (hE : Ev G N mc ms w 0 (sh_en N.2.2.2.1 (.ref a :: As)) [] (sh_is (some (.ref r)) w1)) (kk : Ev G M kc2 ks2 w1 (pc + 3) lv (.ref r :: rest) Q) : Ev G M kc ks w pc lv st Q := by
  subst hk; subst hs
  exact e_callV hN hrr d hl1 hl2 hl3 ha hc hn hst hcat har hE (fun v w' h => by obtain ⟨rfl, rfl⟩ := h; exact kk)
theorem f_callUi {As rest fs : List Value} {a ci idx n mc ms kc2 ks2 : Nat} {T : u_T} {K : Nat} {x : MethodName} {C : String} {r : Int32} (hN : sh_ok N n) (hrr : sh_rr M N) (d : decode M.2.2.1 pc = .ok (.invokevirtual idx, 3)) (hyx : N.2.1 = ⟨N.2.1.cls, x.name, x.desc⟩) (hl1 : Cond.methodLink M.1 idx x ∈ lw_tbl) (hl2 : Cond.instanceMethod N.2.1 ∈ lw_tbl) (hl3 : Cond.selects C x N.2.1 ∈ lw_tbl) (hl4 : Cond.sameMethod x.cls N.2.1.cls x.name x.desc ∈ lw_tbl) (hn : As.length = n) (hst : st = As.reverse ++ .ref a :: rest) (ha : w[a]? = some (.inl (ci, fs))) (hc : sh_cl[ci]? = some (C, T, K)) (hcat : (rest.map fun v => v.category).sum ≤ 8) (har : (sh_ar (.ref a :: As)).length ≤ N.2.2.2.1) (hk : mc + kc2 = kc) (hs : ms + ks2 = ks) (hE : Ev G N mc ms w 0 (sh_en N.2.2.2.1 (.ref a :: As)) [] (sh_is (some (.int r)) w1)) (kk : Ev G M kc2 ks2 w1 (pc + 3) lv (.int r :: rest) Q) : Ev G M kc ks w pc lv st Q := by
  subst hk; subst hs
  exact e_callU hN hrr d hyx hl1 hl2 hl3 hl4 ha hc hn hst hcat har hE (fun v w' h => by obtain ⟨rfl, rfl⟩ := h; exact kk)
theorem f_callOi {As rest fs : List Value} {a ci idx n mc ms kc2 ks2 : Nat} {T : u_T} {K : Nat} {x : MethodName} {C owner : String} {b0 : ByteArray} {m0 : Nat} {r0 : Option FieldType} {r : Int32} (hN : sh_ok N n) (hrr : sh_rr M N) (d : decode M.2.2.1 pc = .ok (.invokevirtual idx, 3)) (how : owner ≠ "java/lang/invoke/MethodHandle" ∧ owner ≠ "java/lang/invoke/VarHandle") (hxd : x.desc = N.2.1.desc) (h0 : Cond.code ⟨owner, x.name, x.desc⟩ b0 m0 r0 ∈ lw_tbl) (hl1 : Cond.methodLink M.1 idx x ∈ lw_tbl) (hl2 : Cond.instanceMethod N.2.1 ∈ lw_tbl) (hl3 : Cond.selects C x N.2.1 ∈ lw_tbl) (hl4 : Cond.sameMethod x.cls owner x.name x.desc ∈ lw_tbl) (hl5 : Cond.instanceMethod ⟨owner, x.name, x.desc⟩ ∈ lw_tbl) (hn : As.length = n) (hst : st = As.reverse ++ .ref a :: rest) (ha : w[a]? = some (.inl (ci, fs))) (hc : sh_cl[ci]? = some (C, T, K)) (hcat : (rest.map fun v => v.category).sum ≤ 8) (har : (sh_ar (.ref a :: As)).length ≤ N.2.2.2.1) (hk : mc + kc2 = kc) (hs : ms + ks2 = ks) (hE : Ev G N mc ms w 0 (sh_en N.2.2.2.1 (.ref a :: As)) [] (sh_is (some (.int r)) w1)) (kk : Ev G M kc2 ks2 w1 (pc + 3) lv (.int r :: rest) Q) : Ev G M kc ks w pc lv st Q := by
  subst hk; subst hs
  exact e_callO hN hrr d how hxd h0 hl1 hl2 hl3 hl4 hl5 ha hc hn hst hcat har hE (fun v w' h => by obtain ⟨rfl, rfl⟩ := h; exact kk)
theorem f_callIv {As rest : List Value} {a idx n mc ms kc2 ks2 : Nat}  (hN : sh_ok N n) (hret : N.2.2.2.2.1 = none) (hrr : sh_rr M N) (d : decode M.2.2.1 pc = .ok (.invokespecial idx, 3)) (hnm : N.2.1.name = "<init>") (hl1 : Cond.methodLink M.1 idx N.2.1 ∈ lw_tbl) (hl2 : Cond.instanceMethod N.2.1 ∈ lw_tbl) (hn : As.length = n) (hst : st = As.reverse ++ .ref a :: rest) (hcat : (rest.map fun v => v.category).sum ≤ 8) (har : (sh_ar (.ref a :: As)).length ≤ N.2.2.2.1) (hk : mc + kc2 = kc) (hs : ms + ks2 = ks) (hE : Ev G N mc ms w 0 (sh_en N.2.2.2.1 (.ref a :: As)) [] (sh_is none w1)) (kk : Ev G M kc2 ks2 w1 (pc + 3) lv (rest) Q) : Ev G M kc ks w pc lv st Q := by
  subst hk; subst hs
  exact e_callI hN hret hrr d hnm hl1 hl2 hn hst hcat har hE (fun v w' h => by obtain ⟨rfl, rfl⟩ := h; exact kk)
theorem f_callINv {As rest : List Value} {a idx n mc ms kc2 ks2 : Nat} {host : String}  (hN : sh_ok N n) (hret : N.2.2.2.2.1 = none) (hrr : sh_rr M N) (d : decode M.2.2.1 pc = .ok (.invokespecial idx, 3)) (hnm : N.2.1.name = "<init>") (hl1 : (M.1, idx, N.2.1, host) ∈ sh_nl) (hl2 : Cond.instanceMethod N.2.1 ∈ lw_tbl) (hn : As.length = n) (hst : st = As.reverse ++ .ref a :: rest) (hcat : (rest.map fun v => v.category).sum ≤ 8) (har : (sh_ar (.ref a :: As)).length ≤ N.2.2.2.1) (hk : mc + kc2 = kc) (hs : ms + ks2 = ks) (hE : Ev G N mc ms w 0 (sh_en N.2.2.2.1 (.ref a :: As)) [] (sh_is none w1)) (kk : Ev G M kc2 ks2 w1 (pc + 3) lv (rest) Q) : Ev G M kc ks w pc lv st Q := by
  subst hk; subst hs
  exact e_callIN hN hret hrr d hnm hl1 hl2 hn hst hcat har hE (fun v w' h => by obtain ⟨rfl, rfl⟩ := h; exact kk)
theorem f_callPi {As rest fs : List Value} {a ci idx n mc ms kc2 ks2 : Nat} {T : u_T} {K : Nat} {C : String} {r : Int32} (hN : sh_ok N n) (hrr : sh_rr M N) (d : decode M.2.2.1 pc = .ok (.invokespecial idx, 3)) (hnm : N.2.1.name ≠ "<init>") (hl1 : Cond.methodLink M.1 idx N.2.1 ∈ lw_tbl) (hl2 : Cond.instanceMethod N.2.1 ∈ lw_tbl) (hl3 : Cond.sameMethod N.2.1.cls N.2.1.cls N.2.1.name N.2.1.desc ∈ lw_tbl) (hl4 : Cond.superclass M.1 N.2.1.cls ∈ lw_tbl) (hn : As.length = n) (hst : st = As.reverse ++ .ref a :: rest) (ha : w[a]? = some (.inl (ci, fs))) (hc : sh_cl[ci]? = some (C, T, K)) (hcat : (rest.map fun v => v.category).sum ≤ 8) (har : (sh_ar (.ref a :: As)).length ≤ N.2.2.2.1) (hk : mc + kc2 = kc) (hs : ms + ks2 = ks) (hE : Ev G N mc ms w 0 (sh_en N.2.2.2.1 (.ref a :: As)) [] (sh_is (some (.int r)) w1)) (kk : Ev G M kc2 ks2 w1 (pc + 3) lv (.int r :: rest) Q) : Ev G M kc ks w pc lv st Q := by
  subst hk; subst hs
  exact e_callP hN hrr d hnm hl1 hl2 hl3 hl4 ha hc hn hst hcat har hE (fun v w' h => by obtain ⟨rfl, rfl⟩ := h; exact kk)
end SHW
def sh_shs : Nat → Option Nat := va_up (va_up (va_up (va_up (fun _ => none) 0 (some 16)) 1 (some 18)) 2 (some 20)) 3 (some 22)
/-- the world behind the constructors: scalars S, rows A, the long row Lg, the doors' places P, what was made since T -/
def mkW (G : sh_G) (S : Nat → Int32) (A : Nat → Nat → Int32) (Lg : Nat → Int64) (P : Nat → Option Nat) (T : List sh_C) : List sh_C :=
  .inr (9, G.2.2.2.2.2.1, .inl G.2.2.2.2.2.2) ::
  .inl (9, [.ref 2, .ref 3, .ref 5, .ref 10, .ref 15, .int (S 0)]) ::
  .inr (4, 4, .inr (.inr (.inr (.inr sh_shs)))) ::
  .inl (1, [.int (S 1), .int (S 2), .ref 4]) ::
  .inr (3, 8, .inr (.inr (.inr (.inr P)))) ::
  .inl (0, [.int (S 3), .int (S 4), .ref 6, .ref 7, .ref 8, .ref 9]) ::
  .inr (0, 4, .inl (A 0)) ::
  .inr (0, 4, .inl (A 1)) ::
  .inr (0, 4, .inl (A 2)) ::
  .inr (0, 4, .inl (A 3)) ::
  .inl (2, [.ref 11, .ref 12, .ref 13, .ref 14, .int (S 5), .int (S 6), .int (S 7), .int (S 8), .int (S 9)]) ::
  .inr (0, 14406, .inl (A 4)) ::
  .inr (0, 14406, .inl (A 5)) ::
  .inr (2, 384, .inr (.inl Lg)) ::
  .inr (0, 4, .inl (A 6)) ::
  .inl (6, [.int (S 10)]) ::
  .inl (3, [.ref 17, .int (S 11), .int (S 15)]) ::
  .inr (0, 60, .inl (A 7)) ::
  .inl (3, [.ref 19, .int (S 12), .int (S 16)]) ::
  .inr (0, 60, .inl (A 8)) ::
  .inl (3, [.ref 21, .int (S 13), .int (S 17)]) ::
  .inr (0, 60, .inl (A 9)) ::
  .inl (3, [.ref 23, .int (S 14), .int (S 18)]) ::
  .inr (0, 60, .inl (A 10)) ::
  .inl (10, [.int (S 20), .int (S 21), .int (S 22), .ref 25, .ref 26, .ref 27, .int (S 23), .int (S 24), .int (S 25), .ref 28, .ref 29, .ref 30, .int (S 26), .ref 31, .ref 32, .int (S 27), .ref 33, .ref 34, .int (S 28), .int (S 29), .int (S 30), .ref 35, .ref 36, .ref 37, .ref 38, .ref 39, .ref 40, .ref 41, .int (S 31), .ref 42, .ref 43, .ref 44, .ref 45, .ref 46, .int (S 32)]) ::
  .inr (0, 8, .inl (A 20)) ::
  .inr (0, 16, .inl (A 21)) ::
  .inr (0, 8, .inl (A 22)) ::
  .inr (0, 8, .inl (A 23)) ::
  .inr (0, 16, .inl (A 24)) ::
  .inr (0, 8, .inl (A 25)) ::
  .inr (0, 4, .inl (A 26)) ::
  .inr (0, 4, .inl (A 27)) ::
  .inr (0, 4, .inl (A 28)) ::
  .inr (0, 4, .inl (A 29)) ::
  .inr (0, 4, .inl (A 30)) ::
  .inr (0, 4, .inl (A 31)) ::
  .inr (1, 4, .inl (A 32)) ::
  .inr (0, 14406, .inl (A 33)) ::
  .inr (0, 14406, .inl (A 34)) ::
  .inr (0, 14406, .inl (A 35)) ::
  .inr (1, 14406, .inl (A 36)) ::
  .inr (0, 14406, .inl (A 37)) ::
  .inr (0, 4, .inl (A 38)) ::
  .inr (0, 4, .inl (A 39)) ::
  .inr (0, 240, .inl (A 40)) ::
  .inr (0, 60, .inl (A 41)) :: T
end
section
theorem is_i {x y : Int32} {w w1 : List sh_C} (h : x = y) (hw : w = w1) : sh_is (some (.int y)) w1 (some (.int x)) w := by
  subst h; subst hw; exact ⟨rfl, rfl⟩
section SHP
variable {G : sh_G} {M : sh_M} {kc ks pc : Nat} {w : List sh_C} {lv : List (Option Value)} {st : List Value} {Q : Option Value → List sh_C → Prop}
/-- a row's cell at a written number -/
theorem e_iald_n {a n : Nat} {f : Nat → Int32} {i : Int32} (j : Nat) (d : decode M.2.2.1 pc = .ok (.iaload, 1)) (ha : w[a]? = some (.inr (0, n, .inl f))) (hi : i = nI j) (hj : j < n) (hn : n < 2 ^ 31) (kk : Ev G M kc ks w (pc + 1) lv (.int (f j) :: st) Q) : Ev G M kc ks w pc lv (.int i :: .ref a :: st) Q := by
  subst hi
  refine e_iaload d ha (vp_in_nI hj hn) ?_
  rw [nI_clamp (by omega)]
  exact kk
theorem e_zald_n {a n : Nat} {f : Nat → Int32} {i : Int32} (j : Nat) (d : decode M.2.2.1 pc = .ok (.baload, 1)) (ha : w[a]? = some (.inr (1, n, .inl f))) (hi : i = nI j) (hj : j < n) (hn : n < 2 ^ 31) (kk : Ev G M kc ks w (pc + 1) lv (.int (f j) :: st) Q) : Ev G M kc ks w pc lv (.int i :: .ref a :: st) Q := by
  subst hi
  refine e_zaload d ha (vp_in_nI hj hn) ?_
  rw [nI_clamp (by omega)]
  exact kk
theorem e_lald_n {a n : Nat} {f : Nat → Int64} {i : Int32} (j : Nat) (d : decode M.2.2.1 pc = .ok (.laload, 1)) (ha : w[a]? = some (.inr (2, n, .inr (.inl f)))) (hi : i = nI j) (hj : j < n) (hn : n < 2 ^ 31) (kk : Ev G M kc ks w (pc + 1) lv (.long (f j) :: st) Q) : Ev G M kc ks w pc lv (.int i :: .ref a :: st) Q := by
  subst hi
  refine e_laload d ha (vp_in_nI hj hn) ?_
  rw [nI_clamp (by omega)]
  exact kk
theorem e_aald_n {t a n : Nat} {f : Nat → Option Nat} {i : Int32} {r : Nat} (j : Nat) (d : decode M.2.2.1 pc = .ok (.aaload, 1)) (ha : w[a]? = some (.inr (t, n, .inr (.inr (.inr (.inr f)))))) (ht0 : t = 3 ∨ t = 4) (hi : i = nI j) (hj : j < n) (hn : n < 2 ^ 31) (hr : f j = some r) (kk : Ev G M kc ks w (pc + 1) lv (.ref r :: st) Q) : Ev G M kc ks w pc lv (.int i :: .ref a :: st) Q := by
  subst hi
  exact e_aaload d ha ht0 (vp_in_nI hj hn) (by rw [nI_clamp (by omega)]; exact hr) kk
theorem e_iast_n {a n : Nat} {f : Nat → Int32} {i x : Int32} (j : Nat) (d : decode M.2.2.1 pc = .ok (.iastore, 1)) (ha : w[a]? = some (.inr (0, n, .inl f))) (hi : i = nI j) (hj : j < n) (hn : n < 2 ^ 31) (kk : Ev G M kc ks (w.set a (.inr (0, n, .inl (upd f j x)))) (pc + 1) lv st Q) : Ev G M kc ks w pc lv (.int x :: .int i :: .ref a :: st) Q := by
  subst hi
  refine e_iastore d ha (vp_in_nI hj hn) ?_
  rw [nI_clamp (by omega)]
  exact kk
theorem e_zast_n {a n : Nat} {f : Nat → Int32} {i x : Int32} (j : Nat) (d : decode M.2.2.1 pc = .ok (.bastore, 1)) (ha : w[a]? = some (.inr (1, n, .inl f))) (hi : i = nI j) (hj : j < n) (hn : n < 2 ^ 31) (hx : narrow .boolean (.int x) = .int x) (kk : Ev G M kc ks (w.set a (.inr (1, n, .inl (upd f j x)))) (pc + 1) lv st Q) : Ev G M kc ks w pc lv (.int x :: .int i :: .ref a :: st) Q := by
  subst hi
  refine e_zastore d ha (vp_in_nI hj hn) hx ?_
  rw [nI_clamp (by omega)]
  exact kk
theorem e_last_n {a n : Nat} {f : Nat → Int64} {i : Int32} {x : Int64} (j : Nat) (d : decode M.2.2.1 pc = .ok (.lastore, 1)) (ha : w[a]? = some (.inr (2, n, .inr (.inl f)))) (hi : i = nI j) (hj : j < n) (hn : n < 2 ^ 31) (kk : Ev G M kc ks (w.set a (.inr (2, n, .inr (.inl (vp_updL f j x))))) (pc + 1) lv st Q) : Ev G M kc ks w pc lv (.long x :: .int i :: .ref a :: st) Q := by
  subst hi
  refine e_lastore d ha (vp_in_nI hj hn) ?_
  rw [nI_clamp (by omega)]
  exact kk
/-- the locals, told anew -/
theorem e_lv {lv' : List (Option Value)} (h : lv = lv') (k : Ev G M kc ks w pc lv' st Q) : Ev G M kc ks w pc lv st Q := h ▸ k
theorem e_st {st' : List Value} (h : st = st') (k : Ev G M kc ks w pc lv st' Q) : Ev G M kc ks w pc lv st Q := h ▸ k
end SHP
/-! sums and sets over stones and persons -/
def sh_cb (pl : Nat → Int32) (v : Int32) : Nat → Int32
  | 0 => 0
  | s + 1 => sh_cb pl v s ||| (if pl s = v then 1 <<< (nI s &&& 31) else 0)
def sh_wt (x0 : Int32) (pl sw : Nat → Int32) (v : Int32) : Nat → Int32
  | 0 => x0
  | s + 1 => sh_wt x0 pl sw v s + (if pl s = v then sw s else 0)
theorem or_z (x : Int32) : x ||| 0 = x := by
  rw [← Int32.toBitVec_inj]; simp
end
section
/-! plain facts on numbers and arrays, to paste: each family by itself; over the kit's rows on nI and upd -/
/-! ===== order of ints, in all its forms, and through longs ===== -/
theorem fa_lt (a b : Int32) : a < b ↔ a.toInt < b.toInt := Int32.lt_iff_toInt_lt
theorem fa_le (a b : Int32) : a ≤ b ↔ a.toInt ≤ b.toInt := Int32.le_iff_toInt_le
theorem fa_eq (a b : Int32) : a = b ↔ a.toInt = b.toInt := Int32.toInt_inj.symm
theorem fa_lt64 (a b : Int64) : a < b ↔ a.toInt < b.toInt := Int64.lt_iff_toInt_lt
theorem fa_le64 (a b : Int64) : a ≤ b ↔ a.toInt ≤ b.toInt := Int64.le_iff_toInt_le
theorem fa_eq64 (a b : Int64) : a = b ↔ a.toInt = b.toInt := Int64.toInt_inj.symm
/-- a comparison of two ints taken as longs -/
theorem fa_wide_lt (a b : Int32) : a.toInt64 < b.toInt64 ↔ a < b := by rw [fa_lt64, fa_lt, Int32.toInt_toInt64, Int32.toInt_toInt64]
theorem fa_wide_le (a b : Int32) : a.toInt64 ≤ b.toInt64 ↔ a ≤ b := by rw [fa_le64, fa_le, Int32.toInt_toInt64, Int32.toInt_toInt64]
theorem fa_wide_eq (a b : Int32) : a.toInt64 = b.toInt64 ↔ a = b := by rw [fa_eq64, fa_eq, Int32.toInt_toInt64, Int32.toInt_toInt64]
/-- one strict comparison gives all the others -/
theorem fa_of_lt {a b : Int32} (h : a < b) : a ≤ b ∧ ¬ b ≤ a ∧ ¬ b < a ∧ a ≠ b ∧ b ≠ a := by
  rw [fa_lt] at h
  refine ⟨?_, ?_, ?_, ?_, ?_⟩
  · rw [fa_le]; omega
  · rw [fa_le]; omega
  · rw [fa_lt]; omega
  · intro e; rw [fa_eq] at e; omega
  · intro e; rw [fa_eq] at e; omega
theorem fa_of_nlt {a b : Int32} (h : ¬ a < b) : b ≤ a := by
  rw [fa_lt] at h
  rw [fa_le]
  omega
theorem fa_of_nle {a b : Int32} (h : ¬ a ≤ b) : b < a := by
  rw [fa_le] at h
  rw [fa_lt]
  omega
theorem fa_le_ne {a b : Int32} (h : a ≤ b) (h2 : a ≠ b) : a < b := by
  rw [fa_le] at h
  rw [fa_lt]
  have h3 : a.toInt ≠ b.toInt := fun e => h2 ((fa_eq a b).mpr e)
  omega
theorem fa_three (a b : Int32) : a < b ∨ a = b ∨ b < a := by
  rw [fa_lt, fa_lt, fa_eq]
  omega
theorem fa_trans {a b c : Int32} (h : a < b) (h2 : b ≤ c) : a < c := by
  rw [fa_lt] at *
  rw [fa_le] at h2
  omega
/-! ===== small literals as numbers ===== -/
theorem fa_lit (n : Nat) : (OfNat.ofNat n : Int32) = nI n := rfl
theorem fa_litL (n : Nat) : (OfNat.ofNat n : Int64) = lN n := rfl
/-! ===== bits of a number: 'or', masks, one bit ===== -/
theorem fa_and (a b : Nat) : nI a &&& nI b = nI (a &&& b) := by
  apply Int32.toBitVec_inj.1
  show BitVec.ofNat 32 a &&& BitVec.ofNat 32 b = BitVec.ofNat 32 (a &&& b)
  apply BitVec.eq_of_getLsbD_eq
  intro i hi
  simp [hi]
theorem fa_or (a b : Nat) : nI a ||| nI b = nI (a ||| b) := by
  apply Int32.toBitVec_inj.1
  show BitVec.ofNat 32 a ||| BitVec.ofNat 32 b = BitVec.ofNat 32 (a ||| b)
  apply BitVec.eq_of_getLsbD_eq
  intro i hi
  simp [hi]
/-- a remainder by a power of two, as a mask -/
theorem fa_mask (n k : Nat) : nI n &&& nI (2 ^ k - 1) = nI (n % 2 ^ k) := by rw [fa_and, Nat.and_two_pow_sub_one_eq_mod]
/-- 'or' of a high part and a low one that don't meet is their sum -/
theorem fa_or_sum {a k : Nat} (b : Nat) (h : a < 2 ^ k) : nI (2 ^ k * b) ||| nI a = nI (2 ^ k * b + a) := by rw [fa_or, Nat.two_pow_add_eq_or_of_lt h]
/-- one bit, by 'and' with a power of two -/
theorem fa_bit {n j : Nat} (hj : j < 31) : nI n &&& nI (2 ^ j) = 0 ↔ n.testBit j = false := by
  have h2 : (2 : Nat) ^ j < 2 ^ 31 := Nat.pow_lt_pow_right (by decide) hj
  have hle : n &&& 2 ^ j ≤ 2 ^ j := Nat.and_le_right
  have e : n &&& 2 ^ j = 0 ↔ n.testBit j = false := by
    constructor
    · intro h
      have h1 : (n &&& 2 ^ j).testBit j = false := by rw [h]; simp
      rw [Nat.testBit_and] at h1
      first | simpa using h1 | simpa [Nat.testBit_two_pow_self] using h1 | simpa [Nat.testBit_two_pow] using h1
    · intro h
      apply Nat.eq_of_testBit_eq
      intro i
      rw [Nat.testBit_and]
      by_cases hi : j = i
      · subst hi; simp [h]
      · first | (simp [Nat.testBit_two_pow, hi]; done) | (simp [Nat.testBit_two_pow_of_ne hi]; done)
  rw [fa_and]
  constructor
  · intro h
    apply e.mp
    rcases Nat.eq_zero_or_pos (n &&& 2 ^ j) with z | z
    · exact z
    · exact absurd h (nI_ne0 z (Nat.lt_of_le_of_lt hle h2))
  · intro h
    rw [e.mpr h]; exact nI_0
/-- a remainder by a power of two of a number that isn't negative, as Java divides -/
theorem fa_rem {a k : Nat} (ha : a < 2 ^ 31) (hk : k < 31) : nI a - nI a / nI (2 ^ k) * nI (2 ^ k) = nI (a % 2 ^ k) := pk_rem ha (Nat.two_pow_pos k) (Nat.pow_lt_pow_right (by decide) hk)
/-! ===== cuts to a byte, a short ===== -/
theorem fa_byte_xor (x y : Int32) : (x ^^^ y).toInt8 = x.toInt8 ^^^ y.toInt8 := by
  apply Int8.toBitVec_inj.1
  apply BitVec.eq_of_getLsbD_eq
  intro i hi
  first | (simp [hi]; done) | (simp [hi, BitVec.getLsbD_setWidth, BitVec.getLsbD_signExtend]; done)
theorem fa_short_xor (x y : Int32) : (x ^^^ y).toInt16 = x.toInt16 ^^^ y.toInt16 := by
  apply Int16.toBitVec_inj.1
  apply BitVec.eq_of_getLsbD_eq
  intro i hi
  first | (simp [hi]; done) | (simp [hi, BitVec.getLsbD_setWidth, BitVec.getLsbD_signExtend]; done)
/-- the cut to a byte sees the low byte alone -/
theorem fa_byte_low (x : Int32) : (x &&& 255).toInt8 = x.toInt8 := by
  apply Int8.toBitVec_inj.1
  apply BitVec.eq_of_getLsbD_eq
  intro i hi
  have h2 : (255 : Int32).toBitVec.getLsbD i = true := by
    have : ∀ j : Fin 8, (255 : Int32).toBitVec.getLsbD j.val = true := by decide +kernel
    exact this ⟨i, hi⟩
  have h4 : (x &&& 255).toBitVec.getLsbD i = x.toBitVec.getLsbD i := by
    show (x.toBitVec &&& (255 : Int32).toBitVec).getLsbD i = _
    rw [BitVec.getLsbD_and, h2, Bool.and_true]
  have h3 : i < 32 := by omega
  first
    | (show (((x &&& 255).toBitVec).signExtend 8).getLsbD i = (x.toBitVec.signExtend 8).getLsbD i; rw [BitVec.getLsbD_signExtend, BitVec.getLsbD_signExtend, if_pos h3, if_pos h3, h4])
    | (show (((x &&& 255).toBitVec).setWidth 8).getLsbD i = (x.toBitVec.setWidth 8).getLsbD i; rw [BitVec.getLsbD_setWidth, BitVec.getLsbD_setWidth, h4])
    | (simp [hi, h3, h4]; done)
theorem fa_short_low (x : Int32) : (x &&& 65535).toInt16 = x.toInt16 := by
  apply Int16.toBitVec_inj.1
  apply BitVec.eq_of_getLsbD_eq
  intro i hi
  have h2 : (65535 : Int32).toBitVec.getLsbD i = true := by
    have : ∀ j : Fin 16, (65535 : Int32).toBitVec.getLsbD j.val = true := by decide +kernel
    exact this ⟨i, hi⟩
  have h4 : (x &&& 65535).toBitVec.getLsbD i = x.toBitVec.getLsbD i := by
    show (x.toBitVec &&& (65535 : Int32).toBitVec).getLsbD i = _
    rw [BitVec.getLsbD_and, h2, Bool.and_true]
  have h3 : i < 32 := by omega
  first
    | (show (((x &&& 65535).toBitVec).signExtend 16).getLsbD i = (x.toBitVec.signExtend 16).getLsbD i; rw [BitVec.getLsbD_signExtend, BitVec.getLsbD_signExtend, if_pos h3, if_pos h3, h4])
    | (show (((x &&& 65535).toBitVec).setWidth 16).getLsbD i = (x.toBitVec.setWidth 16).getLsbD i; rw [BitVec.getLsbD_setWidth, BitVec.getLsbD_setWidth, h4])
    | (simp [hi, h3, h4]; done)
/-- a small number is its own byte, its own short -/
theorem fa_byte_small {n : Nat} (h : n < 128) : (nI n).toInt8.toInt32 = nI n := by
  have : ∀ j : Fin 128, (nI j.val).toInt8.toInt32 = nI j.val := by decide +kernel
  exact this ⟨n, h⟩
/-! ===== absolute difference ===== -/
theorem fa_absdiff {a b : Nat} (ha : a < 2 ^ 31) (hb : b < 2 ^ 31) : (if nI a < nI b then nI b - nI a else nI a - nI b) = nI (if a < b then b - a else a - b) := by
  by_cases h : a < b
  · rw [if_pos (nI_lt h hb), if_pos h]
    exact pk_sub (Nat.le_of_lt h)
  · rw [if_neg (nI_nlt (Nat.le_of_not_lt h) ha), if_neg h]
    exact pk_sub (Nat.le_of_not_lt h)
/-! ===== an array behind i stores, a conditional store, a row copied ===== -/
/-- f where k < i, what stood there else -/
def fa_fill {α : Type} (f g : Nat → α) (i : Nat) : Nat → α := fun k => if k < i then f k else g k
theorem fa_fill_0 {α : Type} (f g : Nat → α) : fa_fill f g 0 = g := funext fun k => if_neg (Nat.not_lt_zero k)
theorem fa_fill_in {α : Type} {f g : Nat → α} {i k : Nat} (h : k < i) : fa_fill f g i k = f k := if_pos h
theorem fa_fill_out {α : Type} {f g : Nat → α} {i k : Nat} (h : i ≤ k) : fa_fill f g i k = g k := if_neg (Nat.not_lt.mpr h)
theorem fa_fill_succ (f g : Nat → Int32) (i : Nat) : upd (fa_fill f g i) i (f i) = fa_fill f g (i + 1) := by
  funext k
  by_cases e : k = i
  · subst e
    rw [pk_us]
    exact (if_pos (Nat.lt_succ_self k)).symm
  · rw [pk_un e]
    by_cases h : k < i
    · rw [fa_fill_in h, fa_fill_in (Nat.lt_succ_of_lt h)]
    · rw [fa_fill_out (Nat.le_of_not_lt h), fa_fill_out (by omega)]
/-- a store that changes nothing -/
theorem fa_upd_same {f : Nat → Int32} {i : Nat} {x : Int32} (h : f i = x) : upd f i x = f := by
  funext k
  by_cases e : k = i
  · subst e
    rw [pk_us, h]
  · rw [pk_un e]
/-- a store under a condition, told as one -/
theorem fa_upd_if (c : Prop) [Decidable c] (f : Nat → Int32) (i : Nat) (x : Int32) : (if c then upd f i x else f) = upd f i (if c then x else f i) := by
  by_cases h : c
  · rw [if_pos h, if_pos h]
  · rw [if_neg h, if_neg h, fa_upd_same rfl]
/-- two stores at one place, at two -/
theorem fa_upd_twice (f : Nat → Int32) (i : Nat) (x y : Int32) : upd (upd f i x) i y = upd f i y := by
  funext k
  by_cases e : k = i
  · subst e
    rw [pk_us, pk_us]
  · rw [pk_un e, pk_un e, pk_un e]
theorem fa_upd_swap (f : Nat → Int32) {i j : Nat} (h : i ≠ j) (x y : Int32) : upd (upd f i x) j y = upd (upd f j y) i x := by
  funext k
  by_cases e : k = i
  · subst e
    rw [pk_un h, pk_us, pk_us]
  · by_cases e2 : k = j
    · subst e2
      rw [pk_us, pk_un e, pk_us]
    · rw [pk_un e2, pk_un e, pk_un e, pk_un e2]
/-! ===== the first index with a property; a count ===== -/
/-- the first k < n with p k, n if there is none -/
def fa_first (p : Nat → Bool) : Nat → Nat
  | 0 => 0
  | n + 1 => if fa_first p n < n then fa_first p n else if p n then n else n + 1
theorem fa_first_le (p : Nat → Bool) : ∀ n, fa_first p n ≤ n
  | 0 => Nat.le_refl 0
  | n + 1 => by
    have ih := fa_first_le p n
    unfold fa_first
    split
    · omega
    · split
      · omega
      · omega
theorem fa_first_no (p : Nat → Bool) : ∀ n k, k < fa_first p n → p k = false
  | 0, k, h => absurd h (Nat.not_lt_zero k)
  | n + 1, k, h => by
    have ih := fa_first_no p n
    have hl := fa_first_le p n
    unfold fa_first at h
    split at h
    · exact ih k h
    · rename_i h1
      split at h
      · exact ih k (by omega)
      · rename_i h2
        by_cases e : k = n
        · subst e
          exact Bool.eq_false_iff.mpr h2
        · exact ih k (by omega)
theorem fa_first_yes (p : Nat → Bool) : ∀ n, fa_first p n < n → p (fa_first p n) = true
  | 0, h => absurd h (Nat.not_lt_zero _)
  | n + 1, h => by
    have ih := fa_first_yes p n
    have hl := fa_first_le p n
    unfold fa_first at h ⊢
    split at h
    · rename_i h1
      rw [if_pos h1]
      exact ih h1
    · rename_i h1
      rw [if_neg h1]
      split at h
      · rename_i h2
        rw [if_pos h2]
        exact h2
      · omega
/-- how many k < n have p k -/
def fa_cnt (p : Nat → Bool) : Nat → Nat
  | 0 => 0
  | n + 1 => fa_cnt p n + if p n then 1 else 0
theorem fa_cnt_le (p : Nat → Bool) : ∀ n, fa_cnt p n ≤ n
  | 0 => Nat.le_refl 0
  | n + 1 => by
    have ih := fa_cnt_le p n
    unfold fa_cnt
    split
    · omega
    · omega
theorem fa_cnt_yes {p : Nat → Bool} {n : Nat} (h : p n = true) : fa_cnt p (n + 1) = fa_cnt p n + 1 := by rw [fa_cnt, if_pos h]
theorem fa_cnt_no {p : Nat → Bool} {n : Nat} (h : p n = false) : fa_cnt p (n + 1) = fa_cnt p n := by rw [fa_cnt, if_neg (by rw [h]; decide)]; rfl
theorem fa_cnt_cong {p q : Nat → Bool} : ∀ {n : Nat}, (∀ k, k < n → p k = q k) → fa_cnt p n = fa_cnt q n
  | 0, _ => rfl
  | n + 1, h => by rw [fa_cnt, fa_cnt, fa_cnt_cong (fun k hk => h k (Nat.lt_succ_of_lt hk)), h n (Nat.lt_succ_self n)]
/-! ===== an answer carried into a post; a branch on a boolean answer ===== -/
theorem fa_post {α : Type} {P : α → Prop} {x y : α} (h : x = y) (hp : P y) : P x := h ▸ hp
theorem fa_post2 {α β : Type} {P : α → β → Prop} {x y : α} {u v : β} (h : x = y) (h2 : u = v) (hp : P y v) : P x u := h ▸ h2 ▸ hp
theorem fa_bool {r : Int32} {b : Bool} (h : r = if b then 1 else 0) : (r = 0 ↔ b = false) ∧ (¬ r = 0 ↔ b = true) := by
  subst h
  cases b
  · exact ⟨⟨fun _ => rfl, fun _ => rfl⟩, ⟨fun h => absurd rfl h, fun h => absurd h (by decide)⟩⟩
  · exact ⟨⟨fun h => absurd h (by decide), fun h => absurd h (by decide)⟩, ⟨fun _ => rfl, fun _ => by decide⟩⟩
/-- a boolean's narrowing changes nothing -/
theorem fa_bool_and {r : Int32} (h : r = 0 ∨ r = 1) : r &&& 1 = r := by
  rcases h with rfl | rfl
  · decide
  · decide
theorem fa_bool_prop {c : Prop} [Decidable c] {r : Int32} (h : r = if c then 1 else 0) : (r = 0 ↔ ¬ c) ∧ (¬ r = 0 ↔ c) := by
  subst h
  by_cases hc : c
  · rw [if_pos hc]
    exact ⟨⟨fun h => absurd h (by decide), fun h => absurd hc h⟩, ⟨fun _ => hc, fun _ => by decide⟩⟩
  · rw [if_neg hc]
    exact ⟨⟨fun _ => hc, fun _ => rfl⟩, ⟨fun h => absurd rfl h, fun h => absurd h hc⟩⟩
end
section
/-! the state that both sides hold: scalars (0 rooms, 1 doors, 2 persons, 3 stones); rows (0 kind, 1 first, 2 second side, 3 weight of doors; 4 weight, 5 room of persons; 6 weight, 7 place of stones: a room, or 20 and the person); the fault; the trace; of sheets lane and length; cells -/
abbrev sh_be : Type := (Nat → Nat) × (Nat → Nat → Nat) × Int32 × Int32 × (Nat → Option (Nat × Nat)) × (Nat → Nat → Int32)
abbrev bn (b : sh_be) (i : Nat) : Nat := b.1 i
abbrev ba (b : sh_be) (i j : Nat) : Nat := b.2.1 i j
abbrev bF (b : sh_be) : Int32 := b.2.2.1
abbrev bT (b : sh_be) : Int32 := b.2.2.2.1
abbrev bz (b : sh_be) (k : Nat) : Option (Nat × Nat) := b.2.2.2.2.1 k
abbrev bc (b : sh_be) (k i : Nat) : Int32 := b.2.2.2.2.2 k i
def uN_ (b : sh_be) (i v : Nat) : sh_be := (va_up b.1 i v, b.2)
def uA_ (b : sh_be) (i j v : Nat) : sh_be := (b.1, va_up b.2.1 i (va_up (b.2.1 i) j v), b.2.2)
def uF_ (b : sh_be) (f : Int32) : sh_be := (b.1, b.2.1, f, b.2.2.2)
def uT_ (b : sh_be) (t : Int32) : sh_be := (b.1, b.2.1, b.2.2.1, t, b.2.2.2.2)
def uZ_ (b : sh_be) (k : Nat) (z : Option (Nat × Nat)) : sh_be := (b.1, b.2.1, b.2.2.1, b.2.2.2.1, va_up b.2.2.2.2.1 k z, b.2.2.2.2.2)
def uC_ (b : sh_be) (k : Nat) (f : Nat → Int32) : sh_be := (b.1, b.2.1, b.2.2.1, b.2.2.2.1, b.2.2.2.2.1, va_up b.2.2.2.2.2 k f)
theorem up_ne {α : Type} {f : Nat → α} {k j : Nat} {v : α} (h : j ≠ k) : va_up f k v j = f j := if_neg h
theorem up_eq {α : Type} {f : Nat → α} {k : Nat} {v : α} : va_up f k v k = v := if_pos rfl
/-! doors -/
def dSl (k : Nat) : Nat := if k = 2 then 5 else 2
def dAsk (k wt side : Nat) : Nat := if side = 1 ∧ 0 < k then wt + 10 else wt
def dOp (k wt side x : Nat) : Prop := dAsk k wt side - dSl k ≤ x ∧ x ≤ dAsk k wt side + dSl k
/-- a door's cell -/
def kci (k : Nat) : Nat := if k = 0 then 4 else if k = 1 then 7 else 8
def dC (k f s wt : Nat) : sh_C := .inl (kci k, [.int (nI f), .int (nI s), .int (nI wt), .int (nI (dAsk k wt 0 - dSl k)), .int (nI (dAsk k wt 0 + dSl k)), .int (nI (dAsk k wt 1 - dSl k)), .int (nI (dAsk k wt 1 + dSl k))])
def plx (v : Nat) : Int32 := if v < 20 then nI v else - nI v
/-- how many stones a person carries, and which -/
def cnN (pl : Nat → Nat) (v : Nat) : Nat → Nat
  | 0 => 0
  | s + 1 => cnN pl v s + (if pl s = v then 1 else 0)
def cbN (pl : Nat → Nat) (v : Nat) : Nat → Nat
  | 0 => 0
  | s + 1 => cbN pl v s ||| (if pl s = v then 2 ^ s else 0)
def IV (b : sh_be) : Prop := bn b 0 ≤ 6 ∧ bn b 1 ≤ 8 ∧ bn b 2 ≤ 4 ∧ bn b 3 ≤ 4 ∧
  (∀ d, d < bn b 1 → ba b 0 d ≤ 2 ∧ ba b 1 d < bn b 0 ∧ ba b 2 d < bn b 0 ∧ ba b 1 d ≠ ba b 2 d ∧ 1 ≤ ba b 3 d ∧ ba b 3 d ≤ 99) ∧
  (∀ k, k < bn b 2 → 10 ≤ ba b 4 k ∧ ba b 4 k ≤ 99 ∧ ba b 5 k < bn b 0) ∧
  (∀ s, s < bn b 3 → 1 ≤ ba b 6 s ∧ ba b 6 s ≤ 20 ∧ (ba b 7 s < bn b 0 ∨ (20 ≤ ba b 7 s ∧ ba b 7 s < 20 + bn b 2))) ∧
  (∀ k, cnN (ba b 7) (20 + k) (bn b 3) ≤ 2) ∧
  (∀ k l n, k < 4 → bz b k = some (l, n) → l ≤ 2 ∧ n ≤ 60)
def shX (S : Nat → Int32) (A : Nat → Nat → Int32) (b : sh_be) (k : Nat) : Prop := match bz b k with
  | none => S (11 + k) = -1 ∧ S (15 + k) = 0
  | some z => S (11 + k) = nI z.1 ∧ S (15 + k) = nI z.2 ∧ ∀ i, i < z.2 → A (7 + k) i = bc b k i
def shM (A : Nat → Nat → Int32) (b : sh_be) (k : Nat) : Prop := match bz b k with
  | none => A 38 k = -1
  | some z => A 38 k = nI z.2 ∧ A 39 k = nI z.1 ∧ ∀ i, i < z.2 → A 40 (60 * k + i) = bc b k i
/-- the class's world holds the state -/
def RX (S : Nat → Int32) (A : Nat → Nat → Int32) (Lg : Nat → Int64) (P : Nat → Option Nat) (T : List sh_C) (b : sh_be) : Prop :=
  S 0 = bF b ∧ S 1 = nI (bn b 0) ∧ S 2 = nI (bn b 1) ∧ S 3 = nI (bn b 2) ∧ S 4 = nI (bn b 3) ∧ S 10 = bT b ∧
  (∀ k, k < 4 → shX S A b k) ∧
  (∀ d, d < bn b 1 → ∃ j, P d = some (j + 47) ∧ T[j]? = some (dC (ba b 0 d) (ba b 1 d) (ba b 2 d) (ba b 3 d))) ∧
  (∀ k, k < bn b 2 → A 0 k = nI (ba b 4 k) ∧ A 1 k = nI (ba b 5 k)) ∧
  (∀ s, s < bn b 3 → A 2 s = nI (ba b 6 s) ∧ A 3 s = plx (ba b 7 s)) ∧
  (∀ j, Lg j = 0)
/-- the reference's world holds the state -/
def RM (S : Nat → Int32) (A : Nat → Nat → Int32) (b : sh_be) : Prop :=
  S 20 = bF b ∧ S 21 = nI (bn b 0) ∧ S 22 = nI (bn b 1) ∧ S 26 = nI (bn b 2) ∧ S 27 = nI (bn b 3) ∧ S 32 = bT b ∧
  (∀ k, k < 4 → shM A b k) ∧
  (∀ d, d < bn b 1 → A 20 d = nI (ba b 0 d) ∧ A 21 (2 * d) = nI (ba b 1 d) ∧ A 21 (2 * d + 1) = nI (ba b 2 d) ∧ A 22 d = nI (ba b 3 d)) ∧
  (∀ k, k < bn b 2 → A 26 k = nI (ba b 4 k) ∧ A 27 k = nI (ba b 5 k)) ∧
  (∀ s, s < bn b 3 → A 28 s = nI (ba b 6 s) ∧ A 29 s = nI (ba b 7 s))
def FX (S : Nat → Int32) (A : Nat → Nat → Int32) (S' : Nat → Int32) (A' : Nat → Nat → Int32) : Prop := ∀ i, 20 ≤ i → S' i = S i ∧ A' i = A i
def FM (S : Nat → Int32) (A : Nat → Nat → Int32) (S' : Nat → Int32) (A' : Nat → Nat → Int32) : Prop := ∀ i, i < 20 → S' i = S i ∧ A' i = A i
theorem FX.rf {S A} : FX S A S A := fun _ _ => ⟨rfl, rfl⟩
theorem FM.rf {S A} : FM S A S A := fun _ _ => ⟨rfl, rfl⟩
theorem FX.tr {S A S1 A1 S2 A2} (h : FX S A S1 A1) (h2 : FX S1 A1 S2 A2) : FX S A S2 A2 := fun i hi => ⟨(h2 i hi).1.trans (h i hi).1, (h2 i hi).2.trans (h i hi).2⟩
theorem FM.tr {S A S1 A1 S2 A2} (h : FM S A S1 A1) (h2 : FM S1 A1 S2 A2) : FM S A S2 A2 := fun i hi => ⟨(h2 i hi).1.trans (h i hi).1, (h2 i hi).2.trans (h i hi).2⟩
theorem FX.S {S A} {k : Nat} {x : Int32} (h : k < 20) : FX S A (va_up S k x) A := fun i hi => ⟨up_ne (by omega), rfl⟩
theorem FX.A {S A} {k : Nat} {x : Nat → Int32} (h : k < 20) : FX S A S (va_up A k x) := fun i hi => ⟨rfl, up_ne (by omega)⟩
theorem FM.S {S A} {k : Nat} {x : Int32} (h : 20 ≤ k) : FM S A (va_up S k x) A := fun i hi => ⟨up_ne (by omega), rfl⟩
theorem FM.A {S A} {k : Nat} {x : Nat → Int32} (h : 20 ≤ k) : FM S A S (va_up A k x) := fun i hi => ⟨rfl, up_ne (by omega)⟩
theorem RX.fr {S A S' A' Lg P T b} (h : RX S A Lg P T b) (hf : FM S A S' A') : RX S' A' Lg P T b := by
  obtain ⟨h0, h1, h2, h3, h4, h5, h6, h7, h8, h9, h10⟩ := h
  refine ⟨by rw [(hf 0 (by omega)).1]; exact h0, by rw [(hf 1 (by omega)).1]; exact h1, by rw [(hf 2 (by omega)).1]; exact h2, by rw [(hf 3 (by omega)).1]; exact h3, by rw [(hf 4 (by omega)).1]; exact h4, by rw [(hf 10 (by omega)).1]; exact h5, fun k hk => ?_, h7, by rw [(hf 0 (by omega)).2, (hf 1 (by omega)).2]; exact h8, by rw [(hf 2 (by omega)).2, (hf 3 (by omega)).2]; exact h9, h10⟩
  have := h6 k hk
  unfold shX at this ⊢
  rw [(hf (11 + k) (by omega)).1, (hf (15 + k) (by omega)).1, (hf (7 + k) (by omega)).2]
  exact this
theorem RM.fr {S A S' A' b} (h : RM S A b) (hf : FX S A S' A') : RM S' A' b := by
  obtain ⟨h0, h1, h2, h3, h4, h5, h6, h7, h8, h9⟩ := h
  refine ⟨by rw [(hf 20 (by omega)).1]; exact h0, by rw [(hf 21 (by omega)).1]; exact h1, by rw [(hf 22 (by omega)).1]; exact h2, by rw [(hf 26 (by omega)).1]; exact h3, by rw [(hf 27 (by omega)).1]; exact h4, by rw [(hf 32 (by omega)).1]; exact h5, fun k hk => ?_, by rw [(hf 20 (by omega)).2, (hf 21 (by omega)).2, (hf 22 (by omega)).2]; exact h7, by rw [(hf 26 (by omega)).2, (hf 27 (by omega)).2]; exact h8, by rw [(hf 28 (by omega)).2, (hf 29 (by omega)).2]; exact h9⟩
  have := h6 k hk
  unfold shM at this ⊢
  rw [(hf 38 (by omega)).2, (hf 39 (by omega)).2, (hf 40 (by omega)).2]
  exact this
/-- what a call of the class leaves; of the reference -/
def QX (G : sh_G) (S : Nat → Int32) (A : Nat → Nat → Int32) (v : Option Value) (b : sh_be) : Option Value → List sh_C → Prop := fun r w => ∃ S' A' Lg' P' T', w = mkW G S' A' Lg' P' T' ∧ r = v ∧ RX S' A' Lg' P' T' b ∧ FX S A S' A'
def QM (G : sh_G) (S : Nat → Int32) (A : Nat → Nat → Int32) (Lg : Nat → Int64) (P : Nat → Option Nat) (T : List sh_C) (v : Option Value) (b : sh_be) : Option Value → List sh_C → Prop := fun r w => ∃ S' A', w = mkW G S' A' Lg P T ∧ r = v ∧ RM S' A' b ∧ FM S A S' A'
theorem RX.F {S A Lg P T b} (h : RX S A Lg P T b) (f : Int32) : RX (va_up S 0 f) A Lg P T (uF_ b f) := by
  obtain ⟨h0, h1, h2, h3, h4, h5, h6, h7, h8, h9, h10⟩ := h
  refine ⟨rfl, h1, h2, h3, h4, h5, fun k hk => ?_, h7, h8, h9, h10⟩
  have := h6 k hk
  unfold shX at this ⊢
  rw [up_ne (f := S) (show 11 + k ≠ 0 by omega), up_ne (f := S) (show 15 + k ≠ 0 by omega)]
  exact this
theorem RM.F {S A b} (h : RM S A b) (f : Int32) : RM (va_up S 20 f) A (uF_ b f) := by
  obtain ⟨h0, h1, h2, h3, h4, h5, h6, h7, h8, h9⟩ := h
  exact ⟨rfl, h1, h2, h3, h4, h5, h6, h7, h8, h9⟩
/-- places of the sheets -/
theorem sh_shs_at {k : Nat} (h : k < 4) : sh_shs k = some (16 + 2 * k) := by
  match k, h with
  | 0, _ => rfl
  | 1, _ => rfl
  | 2, _ => rfl
  | 3, _ => rfl
theorem mkW_sh {G S A Lg P T} {k : Nat} (h : k < 4) : (mkW G S A Lg P T)[16 + 2 * k]? = some (.inl (3, [.ref (17 + 2 * k), .int (S (11 + k)), .int (S (15 + k))])) := by
  match k, h with
  | 0, _ => rfl
  | 1, _ => rfl
  | 2, _ => rfl
  | 3, _ => rfl
theorem mkW_sc {G S A Lg P T} {k : Nat} (h : k < 4) : (mkW G S A Lg P T)[17 + 2 * k]? = some (.inr (0, 60, .inl (A (7 + k)))) := by
  match k, h with
  | 0, _ => rfl
  | 1, _ => rfl
  | 2, _ => rfl
  | 3, _ => rfl
theorem mkW_sc_set {G S A Lg P T} {k : Nat} (h : k < 4) (f : Nat → Int32) : (mkW G S A Lg P T).set (17 + 2 * k) (.inr (0, 60, .inl f)) = mkW G S (va_up A (7 + k) f) Lg P T := by
  match k, h with
  | 0, _ => rfl
  | 1, _ => rfl
  | 2, _ => rfl
  | 3, _ => rfl
theorem mkW_sh_set {G S A Lg P T} {k : Nat} (h : k < 4) (l n : Int32) : (mkW G S A Lg P T).set (16 + 2 * k) (.inl (3, [.ref (17 + 2 * k), .int l, .int n])) = mkW G (va_up (va_up S (11 + k) l) (15 + k) n) A Lg P T := by
  match k, h with
  | 0, _ => rfl
  | 1, _ => rfl
  | 2, _ => rfl
  | 3, _ => rfl
theorem ix_of {x N : Int32} {n : Nat} (hN : N = nI n) (hn : n < 2 ^ 31) (h : ¬ x < 0 ∧ ¬ N ≤ x) : ∃ j, j < n ∧ x = nI j := by
  subst hN
  rcases pk_ix x hn with g | g | g
  · exact absurd g h.1
  · exact absurd g h.2
  · exact g
end
section
set_option maxRecDepth 4000 in
theorem sp_X0_placeWith {G : sh_G} {S : Nat → Int32} {A : Nat → Nat → Int32} {Lg : Nat → Int64} {P : Nat → Option Nat} {T : List sh_C} {p : Int32}  : Ev G mX0_placeWith 0 0 (mkW G S A Lg P T) 0 [some (.int p)] [] (sh_is (some (.int (-20 - p))) (mkW G S A Lg P T)) := by
  refine e_bipush (v := -20) dX0_placeWith_0 (by decide) ?_
  refine e_iload_n 0 dX0_placeWith_2 rfl rfl ?_
  refine e_isub dX0_placeWith_3 ?_
  exact e_iret dX0_placeWith_4 rfl (is_i (by first | rfl | simp [bi]) rfl)

set_option maxRecDepth 4000 in
theorem sp_X0_hasPerson {G : sh_G} {S : Nat → Int32} {A : Nat → Nat → Int32} {Lg : Nat → Int64} {P : Nat → Option Nat} {T : List sh_C} {p : Int32}  : Ev G mX0_hasPerson 0 0 (mkW G S A Lg P T) 0 [some (.ref 5), some (.int p)] [] (sh_is (some (.int (bi (¬ p < 0 ∧ ¬ S 3 ≤ p)))) (mkW G S A Lg P T)) := by
  refine e_iload_n 1 dX0_hasPerson_0 rfl rfl ?_
  refine e_if_lt (tgt := 16) dX0_hasPerson_1 rfl (fun h1 => ?_) (fun h1 => ?_)
  · refine e_iconst (v := 0) dX0_hasPerson_16 rfl ?_
    exact e_zret dX0_hasPerson_17 rfl rfl (is_i (by first | rfl | simp [bi, h1]) rfl)
  · refine e_iload_n 1 dX0_hasPerson_4 rfl rfl ?_
    refine e_aload_n 0 dX0_hasPerson_5 rfl rfl ?_
    refine e_getfield 0 dX0_hasPerson_6 kf_X0_24_0 rfl rfl ?_
    refine e_icmp_ge (tgt := 16) dX0_hasPerson_9 rfl (fun h9 => ?_) (fun h9 => ?_)
    · refine e_iconst (v := 0) dX0_hasPerson_16 rfl ?_
      exact e_zret dX0_hasPerson_17 rfl rfl (is_i (by first | rfl | simp [bi, h1, h9]) rfl)
    · refine e_iconst (v := 1) dX0_hasPerson_12 rfl ?_
      refine e_goto (tgt := 17) dX0_hasPerson_13 rfl ?_
      exact e_zret dX0_hasPerson_17 rfl rfl (is_i (by first | rfl | simp [bi, h1, h9]) rfl)

set_option maxRecDepth 4000 in
theorem sp_X0_hasStone {G : sh_G} {S : Nat → Int32} {A : Nat → Nat → Int32} {Lg : Nat → Int64} {P : Nat → Option Nat} {T : List sh_C} {p : Int32}  : Ev G mX0_hasStone 0 0 (mkW G S A Lg P T) 0 [some (.ref 5), some (.int p)] [] (sh_is (some (.int (bi (¬ p < 0 ∧ ¬ S 4 ≤ p)))) (mkW G S A Lg P T)) := by
  refine e_iload_n 1 dX0_hasStone_0 rfl rfl ?_
  refine e_if_lt (tgt := 16) dX0_hasStone_1 rfl (fun h1 => ?_) (fun h1 => ?_)
  · refine e_iconst (v := 0) dX0_hasStone_16 rfl ?_
    exact e_zret dX0_hasStone_17 rfl rfl (is_i (by first | rfl | simp [bi, h1]) rfl)
  · refine e_iload_n 1 dX0_hasStone_4 rfl rfl ?_
    refine e_aload_n 0 dX0_hasStone_5 rfl rfl ?_
    refine e_getfield 1 dX0_hasStone_6 kf_X0_28_0 rfl rfl ?_
    refine e_icmp_ge (tgt := 16) dX0_hasStone_9 rfl (fun h9 => ?_) (fun h9 => ?_)
    · refine e_iconst (v := 0) dX0_hasStone_16 rfl ?_
      exact e_zret dX0_hasStone_17 rfl rfl (is_i (by first | rfl | simp [bi, h1, h9]) rfl)
    · refine e_iconst (v := 1) dX0_hasStone_12 rfl ?_
      refine e_goto (tgt := 17) dX0_hasStone_13 rfl ?_
      exact e_zret dX0_hasStone_17 rfl rfl (is_i (by first | rfl | simp [bi, h1, h9]) rfl)

set_option maxRecDepth 4000 in
theorem lp_X0_carriedBy {G : sh_G} {S : Nat → Int32} {A : Nat → Nat → Int32} {Lg : Nat → Int64} {P : Nat → Option Nat} {T : List sh_C} {p : Int32} {ns : Nat} (hS : S 4 = nI ns) (hn : ns ≤ 4) : ∀ (m s : Nat), ns - s < m → s ≤ ns → Ev G mX0_carriedBy 0 0 (mkW G S A Lg P T) 4 [some (.ref 5), some (.int p), some (.int (sh_cb (A 3) (-20 - p) s)), some (.int (nI s))] [] (sh_is (some (.int (sh_cb (A 3) (-20 - p) ns))) (mkW G S A Lg P T)) := by
  intro m
  induction m with
  | zero => intro s h; omega
  | succ m ih =>
    intro s hm hs
    refine e_iload_n 3 dX0_carriedBy_4 rfl rfl ?_
    refine e_aload_n 0 dX0_carriedBy_5 rfl rfl ?_
    refine e_getfield 1 dX0_carriedBy_6 kf_X0_28_0 rfl rfl ?_
    refine e_icmp_ge (tgt := 37) dX0_carriedBy_9 rfl (fun h9 => ?_) (fun h9 => ?_)
    · have e : s = ns := by rw [hS, nI_leI (by omega) (by omega)] at h9; omega
      subst e
      refine e_iload_n 2 dX0_carriedBy_37 rfl rfl ?_
      exact e_iret dX0_carriedBy_38 rfl ⟨rfl, rfl⟩
    · have hlt : s < ns := by rw [hS, nI_leI (by omega) (by omega)] at h9; omega
      refine e_aload_n 0 dX0_carriedBy_12 rfl rfl ?_
      refine e_getfield 5 dX0_carriedBy_13 kf_X0_21_0 rfl rfl ?_
      refine e_iload_n 3 dX0_carriedBy_16 rfl rfl ?_
      refine e_iald_n s dX0_carriedBy_17 rfl rfl (by omega) (by decide) ?_
      refine e_iload_n 1 dX0_carriedBy_18 rfl rfl ?_
      refine f_callSi (As := [_]) ok_X0_placeWith ⟨Nat.le_of_ble_eq_true rfl, Nat.le_of_ble_eq_true rfl⟩ dX0_carriedBy_19 kl_X0_31 ks_X0_placeWith rfl rfl (Nat.le_of_ble_eq_true rfl) (Nat.le_of_ble_eq_true rfl) (Nat.zero_add _) (Nat.zero_add _) sp_X0_placeWith ?_
      refine e_icmp_ne (tgt := 31) dX0_carriedBy_22 rfl (fun h22 => ?_) (fun h22 => ?_)
      · refine e_iinc (v := _ + 1) (lv' := [_, _, _, _]) dX0_carriedBy_31 rfl (Nat.le_of_ble_eq_true rfl) rfl rfl rfl ?_
        refine e_goto (tgt := 4) dX0_carriedBy_34 rfl ?_
        have := ih (s + 1) (by omega) (by omega)
        simpa only [sh_cb, h22, if_true, if_false, or_z, nI_1] using this
      · refine e_iload_n 2 dX0_carriedBy_25 rfl rfl ?_
        refine e_iconst (v := 1) dX0_carriedBy_26 rfl ?_
        refine e_iload_n 3 dX0_carriedBy_27 rfl rfl ?_
        refine e_ishl dX0_carriedBy_28 ?_
        refine e_ior dX0_carriedBy_29 ?_
        refine e_istore_n (lv' := [_, _, _, _]) 2 dX0_carriedBy_30 rfl (Nat.le_of_ble_eq_true rfl) rfl rfl ?_
        refine e_iinc (v := _ + 1) (lv' := [_, _, _, _]) dX0_carriedBy_31 rfl (Nat.le_of_ble_eq_true rfl) rfl rfl rfl ?_
        refine e_goto (tgt := 4) dX0_carriedBy_34 rfl ?_
        have := ih (s + 1) (by omega) (by omega)
        simpa only [sh_cb, h22, if_true, if_false, or_z, nI_1] using this

set_option maxRecDepth 4000 in
theorem sp_X0_carriedBy {G : sh_G} {S : Nat → Int32} {A : Nat → Nat → Int32} {Lg : Nat → Int64} {P : Nat → Option Nat} {T : List sh_C} {p : Int32} {ns : Nat} (hS : S 4 = nI ns) (hn : ns ≤ 4) : Ev G mX0_carriedBy 0 0 (mkW G S A Lg P T) 0 [some (.ref 5), some (.int p), none, none] [] (sh_is (some (.int (sh_cb (A 3) (-20 - p) ns))) (mkW G S A Lg P T)) := by
  refine e_iconst (v := 0) dX0_carriedBy_0 rfl ?_
  refine e_istore_n (lv' := [_, _, _, _]) 2 dX0_carriedBy_1 rfl (Nat.le_of_ble_eq_true rfl) rfl rfl ?_
  refine e_iconst (v := 0) dX0_carriedBy_2 rfl ?_
  refine e_istore_n (lv' := [_, _, _, _]) 3 dX0_carriedBy_3 rfl (Nat.le_of_ble_eq_true rfl) rfl rfl ?_
  exact lp_X0_carriedBy hS hn (ns + 1) 0 (by omega) (by omega)
end
section
set_option maxRecDepth 4000 in
theorem sp_X9_isSheet {G : sh_G} {S : Nat → Int32} {A : Nat → Nat → Int32} {Lg : Nat → Int64} {P : Nat → Option Nat} {T : List sh_C} {k : Int32}  : Ev G mX9_isSheet 0 0 (mkW G S A Lg P T) 0 [some (.int k)] [] (sh_is (some (.int (bi (¬ k < 0 ∧ ¬ 4 ≤ k)))) (mkW G S A Lg P T)) := by
  refine e_iload_n 0 dX9_isSheet_0 rfl rfl ?_
  refine e_if_lt (tgt := 13) dX9_isSheet_1 rfl (fun h1 => ?_) (fun h1 => ?_)
  · refine e_iconst (v := 0) dX9_isSheet_13 rfl ?_
    exact e_zret dX9_isSheet_14 rfl rfl (is_i (by first | rfl | simp [bi, h1]) rfl)
  · refine e_iload_n 0 dX9_isSheet_4 rfl rfl ?_
    refine e_iconst (v := 4) dX9_isSheet_5 rfl ?_
    refine e_icmp_ge (tgt := 13) dX9_isSheet_6 rfl (fun h6 => ?_) (fun h6 => ?_)
    · refine e_iconst (v := 0) dX9_isSheet_13 rfl ?_
      exact e_zret dX9_isSheet_14 rfl rfl (is_i (by first | rfl | simp [bi, h1, h6]) rfl)
    · refine e_iconst (v := 1) dX9_isSheet_9 rfl ?_
      refine e_goto (tgt := 14) dX9_isSheet_10 rfl ?_
      exact e_zret dX9_isSheet_14 rfl rfl (is_i (by first | rfl | simp [bi, h1, h6]) rfl)

set_option maxRecDepth 4000 in
theorem sp_X9_isLane {G : sh_G} {S : Nat → Int32} {A : Nat → Nat → Int32} {Lg : Nat → Int64} {P : Nat → Option Nat} {T : List sh_C} {k : Int32}  : Ev G mX9_isLane 0 0 (mkW G S A Lg P T) 0 [some (.int k)] [] (sh_is (some (.int (bi (¬ k < 0 ∧ ¬ 2 < k)))) (mkW G S A Lg P T)) := by
  refine e_iload_n 0 dX9_isLane_0 rfl rfl ?_
  refine e_if_lt (tgt := 13) dX9_isLane_1 rfl (fun h1 => ?_) (fun h1 => ?_)
  · refine e_iconst (v := 0) dX9_isLane_13 rfl ?_
    exact e_zret dX9_isLane_14 rfl rfl (is_i (by first | rfl | simp [bi, h1]) rfl)
  · refine e_iload_n 0 dX9_isLane_4 rfl rfl ?_
    refine e_iconst (v := 2) dX9_isLane_5 rfl ?_
    refine e_icmp_gt (tgt := 13) dX9_isLane_6 rfl (fun h6 => ?_) (fun h6 => ?_)
    · refine e_iconst (v := 0) dX9_isLane_13 rfl ?_
      exact e_zret dX9_isLane_14 rfl rfl (is_i (by first | rfl | simp [bi, h1, h6]) rfl)
    · refine e_iconst (v := 1) dX9_isLane_9 rfl ?_
      refine e_goto (tgt := 14) dX9_isLane_10 rfl ?_
      exact e_zret dX9_isLane_14 rfl rfl (is_i (by first | rfl | simp [bi, h1, h6]) rfl)

set_option maxRecDepth 4000 in
theorem sp_X9_isPersonsWeight {G : sh_G} {S : Nat → Int32} {A : Nat → Nat → Int32} {Lg : Nat → Int64} {P : Nat → Option Nat} {T : List sh_C} {k : Int32}  : Ev G mX9_isPersonsWeight 0 0 (mkW G S A Lg P T) 0 [some (.int k)] [] (sh_is (some (.int (bi (¬ k < 10 ∧ ¬ 99 < k)))) (mkW G S A Lg P T)) := by
  refine e_iload_n 0 dX9_isPersonsWeight_0 rfl rfl ?_
  refine e_bipush (v := 10) dX9_isPersonsWeight_1 (by decide) ?_
  refine e_icmp_lt (tgt := 16) dX9_isPersonsWeight_3 rfl (fun h3 => ?_) (fun h3 => ?_)
  · refine e_iconst (v := 0) dX9_isPersonsWeight_16 rfl ?_
    exact e_zret dX9_isPersonsWeight_17 rfl rfl (is_i (by first | rfl | simp [bi, h3]) rfl)
  · refine e_iload_n 0 dX9_isPersonsWeight_6 rfl rfl ?_
    refine e_bipush (v := 99) dX9_isPersonsWeight_7 (by decide) ?_
    refine e_icmp_gt (tgt := 16) dX9_isPersonsWeight_9 rfl (fun h9 => ?_) (fun h9 => ?_)
    · refine e_iconst (v := 0) dX9_isPersonsWeight_16 rfl ?_
      exact e_zret dX9_isPersonsWeight_17 rfl rfl (is_i (by first | rfl | simp [bi, h3, h9]) rfl)
    · refine e_iconst (v := 1) dX9_isPersonsWeight_12 rfl ?_
      refine e_goto (tgt := 17) dX9_isPersonsWeight_13 rfl ?_
      exact e_zret dX9_isPersonsWeight_17 rfl rfl (is_i (by first | rfl | simp [bi, h3, h9]) rfl)

set_option maxRecDepth 4000 in
theorem sp_X9_faulted {G : sh_G} {S : Nat → Int32} {A : Nat → Nat → Int32} {Lg : Nat → Int64} {P : Nat → Option Nat} {T : List sh_C} {f : Int32}  : Ev G mX9_faulted 0 0 (mkW G S A Lg P T) 0 [some (.ref 1), some (.int f)] [] (sh_is (some (.int (-10 - f))) (mkW G (va_up S 0 f) A Lg P T)) := by
  refine e_aload_n 0 dX9_faulted_0 rfl rfl ?_
  refine e_iload_n 1 dX9_faulted_1 rfl rfl ?_
  refine e_putfield 5 dX9_faulted_2 kp_X9_faulted_201_9 (sh_fit_i _) rfl (Nat.le_of_ble_eq_true rfl) ?_
  refine e_bipush (v := -10) dX9_faulted_5 (by decide) ?_
  refine e_iload_n 1 dX9_faulted_7 rfl rfl ?_
  refine e_isub dX9_faulted_8 ?_
  exact e_iret dX9_faulted_9 rfl (is_i (by first | rfl | simp [bi]) rfl)

set_option maxRecDepth 4000 in
theorem sp_X3_hasNothing {G : sh_G} {S : Nat → Int32} {A : Nat → Nat → Int32} {Lg : Nat → Int64} {P : Nat → Option Nat} {T : List sh_C} {k : Nat} (hk : k < 4) : Ev G mX3_hasNothing 0 0 (mkW G S A Lg P T) 0 [some (.ref (16 + 2 * k))] [] (sh_is (some (.int (bi (S (11 + k) = -1)))) (mkW G S A Lg P T)) := by
  match k, hk with
  | 0, _ =>
    refine e_aload_n 0 dX3_hasNothing_0 rfl rfl ?_
    refine e_getfield 1 dX3_hasNothing_1 kf_X3_15_3 rfl rfl ?_
    refine e_iconst (v := -1) dX3_hasNothing_4 rfl ?_
    refine e_icmp_ne (tgt := 12) dX3_hasNothing_5 rfl (fun h5 => ?_) (fun h5 => ?_)
    · refine e_iconst (v := 0) dX3_hasNothing_12 rfl ?_
      exact e_zret dX3_hasNothing_13 rfl rfl (is_i (by first | rfl | simp [bi, h5]) rfl)
    · refine e_iconst (v := 1) dX3_hasNothing_8 rfl ?_
      refine e_goto (tgt := 13) dX3_hasNothing_9 rfl ?_
      exact e_zret dX3_hasNothing_13 rfl rfl (is_i (by first | rfl | simp [bi, h5]) rfl)
  | 1, _ =>
    refine e_aload_n 0 dX3_hasNothing_0 rfl rfl ?_
    refine e_getfield 1 dX3_hasNothing_1 kf_X3_15_3 rfl rfl ?_
    refine e_iconst (v := -1) dX3_hasNothing_4 rfl ?_
    refine e_icmp_ne (tgt := 12) dX3_hasNothing_5 rfl (fun h5 => ?_) (fun h5 => ?_)
    · refine e_iconst (v := 0) dX3_hasNothing_12 rfl ?_
      exact e_zret dX3_hasNothing_13 rfl rfl (is_i (by first | rfl | simp [bi, h5]) rfl)
    · refine e_iconst (v := 1) dX3_hasNothing_8 rfl ?_
      refine e_goto (tgt := 13) dX3_hasNothing_9 rfl ?_
      exact e_zret dX3_hasNothing_13 rfl rfl (is_i (by first | rfl | simp [bi, h5]) rfl)
  | 2, _ =>
    refine e_aload_n 0 dX3_hasNothing_0 rfl rfl ?_
    refine e_getfield 1 dX3_hasNothing_1 kf_X3_15_3 rfl rfl ?_
    refine e_iconst (v := -1) dX3_hasNothing_4 rfl ?_
    refine e_icmp_ne (tgt := 12) dX3_hasNothing_5 rfl (fun h5 => ?_) (fun h5 => ?_)
    · refine e_iconst (v := 0) dX3_hasNothing_12 rfl ?_
      exact e_zret dX3_hasNothing_13 rfl rfl (is_i (by first | rfl | simp [bi, h5]) rfl)
    · refine e_iconst (v := 1) dX3_hasNothing_8 rfl ?_
      refine e_goto (tgt := 13) dX3_hasNothing_9 rfl ?_
      exact e_zret dX3_hasNothing_13 rfl rfl (is_i (by first | rfl | simp [bi, h5]) rfl)
  | 3, _ =>
    refine e_aload_n 0 dX3_hasNothing_0 rfl rfl ?_
    refine e_getfield 1 dX3_hasNothing_1 kf_X3_15_3 rfl rfl ?_
    refine e_iconst (v := -1) dX3_hasNothing_4 rfl ?_
    refine e_icmp_ne (tgt := 12) dX3_hasNothing_5 rfl (fun h5 => ?_) (fun h5 => ?_)
    · refine e_iconst (v := 0) dX3_hasNothing_12 rfl ?_
      exact e_zret dX3_hasNothing_13 rfl rfl (is_i (by first | rfl | simp [bi, h5]) rfl)
    · refine e_iconst (v := 1) dX3_hasNothing_8 rfl ?_
      refine e_goto (tgt := 13) dX3_hasNothing_9 rfl ?_
      exact e_zret dX3_hasNothing_13 rfl rfl (is_i (by first | rfl | simp [bi, h5]) rfl)

set_option maxRecDepth 4000 in
theorem sp_X3_empty {G : sh_G} {S : Nat → Int32} {A : Nat → Nat → Int32} {Lg : Nat → Int64} {P : Nat → Option Nat} {T : List sh_C} {k : Nat} (hk : k < 4) : Ev G mX3_empty 0 0 (mkW G S A Lg P T) 0 [some (.ref (16 + 2 * k))] [] (sh_is none (mkW G (va_up (va_up S (11 + k) (-1)) (15 + k) 0) A Lg P T)) := by
  match k, hk with
  | 0, _ =>
    refine e_aload_n 0 dX3_empty_0 rfl rfl ?_
    refine e_iconst (v := -1) dX3_empty_1 rfl ?_
    refine e_putfield 1 dX3_empty_2 kp_X3_empty_15_3 (sh_fit_i _) rfl (Nat.le_of_ble_eq_true rfl) ?_
    refine e_aload_n 0 dX3_empty_5 rfl rfl ?_
    refine e_iconst (v := 0) dX3_empty_6 rfl ?_
    refine e_putfield 2 dX3_empty_7 kp_X3_empty_19_3 (sh_fit_i _) rfl (Nat.le_of_ble_eq_true rfl) ?_
    exact e_vret dX3_empty_10 rfl ⟨rfl, rfl⟩
  | 1, _ =>
    refine e_aload_n 0 dX3_empty_0 rfl rfl ?_
    refine e_iconst (v := -1) dX3_empty_1 rfl ?_
    refine e_putfield 1 dX3_empty_2 kp_X3_empty_15_3 (sh_fit_i _) rfl (Nat.le_of_ble_eq_true rfl) ?_
    refine e_aload_n 0 dX3_empty_5 rfl rfl ?_
    refine e_iconst (v := 0) dX3_empty_6 rfl ?_
    refine e_putfield 2 dX3_empty_7 kp_X3_empty_19_3 (sh_fit_i _) rfl (Nat.le_of_ble_eq_true rfl) ?_
    exact e_vret dX3_empty_10 rfl ⟨rfl, rfl⟩
  | 2, _ =>
    refine e_aload_n 0 dX3_empty_0 rfl rfl ?_
    refine e_iconst (v := -1) dX3_empty_1 rfl ?_
    refine e_putfield 1 dX3_empty_2 kp_X3_empty_15_3 (sh_fit_i _) rfl (Nat.le_of_ble_eq_true rfl) ?_
    refine e_aload_n 0 dX3_empty_5 rfl rfl ?_
    refine e_iconst (v := 0) dX3_empty_6 rfl ?_
    refine e_putfield 2 dX3_empty_7 kp_X3_empty_19_3 (sh_fit_i _) rfl (Nat.le_of_ble_eq_true rfl) ?_
    exact e_vret dX3_empty_10 rfl ⟨rfl, rfl⟩
  | 3, _ =>
    refine e_aload_n 0 dX3_empty_0 rfl rfl ?_
    refine e_iconst (v := -1) dX3_empty_1 rfl ?_
    refine e_putfield 1 dX3_empty_2 kp_X3_empty_15_3 (sh_fit_i _) rfl (Nat.le_of_ble_eq_true rfl) ?_
    refine e_aload_n 0 dX3_empty_5 rfl rfl ?_
    refine e_iconst (v := 0) dX3_empty_6 rfl ?_
    refine e_putfield 2 dX3_empty_7 kp_X3_empty_19_3 (sh_fit_i _) rfl (Nat.le_of_ble_eq_true rfl) ?_
    exact e_vret dX3_empty_10 rfl ⟨rfl, rfl⟩

set_option maxRecDepth 4000 in
theorem sp_X3_has {G : sh_G} {S : Nat → Int32} {A : Nat → Nat → Int32} {Lg : Nat → Int64} {P : Nat → Option Nat} {T : List sh_C} {k : Nat} {i n : Int32} (hk : k < 4) : Ev G mX3_has 0 0 (mkW G S A Lg P T) 0 [some (.ref (16 + 2 * k)), some (.int i), some (.int n)] [] (sh_is (some (.int (bi (¬ i < 0 ∧ ¬ n < 0 ∧ ¬ S (15 + k) < i ∧ ¬ S (15 + k) - i < n)))) (mkW G S A Lg P T)) := by
  match k, hk with
  | 0, _ =>
    refine e_iload_n 1 dX3_has_0 rfl rfl ?_
    refine e_if_lt (tgt := 30) dX3_has_1 rfl (fun h1 => ?_) (fun h1 => ?_)
    · refine e_iconst (v := 0) dX3_has_30 rfl ?_
      exact e_zret dX3_has_31 rfl rfl (is_i (by first | rfl | simp [bi, h1]) rfl)
    · refine e_iload_n 2 dX3_has_4 rfl rfl ?_
      refine e_if_lt (tgt := 30) dX3_has_5 rfl (fun h5 => ?_) (fun h5 => ?_)
      · refine e_iconst (v := 0) dX3_has_30 rfl ?_
        exact e_zret dX3_has_31 rfl rfl (is_i (by first | rfl | simp [bi, h1, h5]) rfl)
      · refine e_iload_n 1 dX3_has_8 rfl rfl ?_
        refine e_aload_n 0 dX3_has_9 rfl rfl ?_
        refine e_getfield 2 dX3_has_10 kf_X3_19_3 rfl rfl ?_
        refine e_icmp_gt (tgt := 30) dX3_has_13 rfl (fun h13 => ?_) (fun h13 => ?_)
        · refine e_iconst (v := 0) dX3_has_30 rfl ?_
          exact e_zret dX3_has_31 rfl rfl (is_i (by first | rfl | simp [bi, h1, h5, h13]) rfl)
        · refine e_iload_n 2 dX3_has_16 rfl rfl ?_
          refine e_aload_n 0 dX3_has_17 rfl rfl ?_
          refine e_getfield 2 dX3_has_18 kf_X3_19_3 rfl rfl ?_
          refine e_iload_n 1 dX3_has_21 rfl rfl ?_
          refine e_isub dX3_has_22 ?_
          refine e_icmp_gt (tgt := 30) dX3_has_23 rfl (fun h23 => ?_) (fun h23 => ?_)
          · refine e_iconst (v := 0) dX3_has_30 rfl ?_
            exact e_zret dX3_has_31 rfl rfl (is_i (by first | rfl | simp [bi, h1, h5, h13, h23]) rfl)
          · refine e_iconst (v := 1) dX3_has_26 rfl ?_
            refine e_goto (tgt := 31) dX3_has_27 rfl ?_
            exact e_zret dX3_has_31 rfl rfl (is_i (by first | rfl | simp [bi, h1, h5, h13, h23]) rfl)
  | 1, _ =>
    refine e_iload_n 1 dX3_has_0 rfl rfl ?_
    refine e_if_lt (tgt := 30) dX3_has_1 rfl (fun h1 => ?_) (fun h1 => ?_)
    · refine e_iconst (v := 0) dX3_has_30 rfl ?_
      exact e_zret dX3_has_31 rfl rfl (is_i (by first | rfl | simp [bi, h1]) rfl)
    · refine e_iload_n 2 dX3_has_4 rfl rfl ?_
      refine e_if_lt (tgt := 30) dX3_has_5 rfl (fun h5 => ?_) (fun h5 => ?_)
      · refine e_iconst (v := 0) dX3_has_30 rfl ?_
        exact e_zret dX3_has_31 rfl rfl (is_i (by first | rfl | simp [bi, h1, h5]) rfl)
      · refine e_iload_n 1 dX3_has_8 rfl rfl ?_
        refine e_aload_n 0 dX3_has_9 rfl rfl ?_
        refine e_getfield 2 dX3_has_10 kf_X3_19_3 rfl rfl ?_
        refine e_icmp_gt (tgt := 30) dX3_has_13 rfl (fun h13 => ?_) (fun h13 => ?_)
        · refine e_iconst (v := 0) dX3_has_30 rfl ?_
          exact e_zret dX3_has_31 rfl rfl (is_i (by first | rfl | simp [bi, h1, h5, h13]) rfl)
        · refine e_iload_n 2 dX3_has_16 rfl rfl ?_
          refine e_aload_n 0 dX3_has_17 rfl rfl ?_
          refine e_getfield 2 dX3_has_18 kf_X3_19_3 rfl rfl ?_
          refine e_iload_n 1 dX3_has_21 rfl rfl ?_
          refine e_isub dX3_has_22 ?_
          refine e_icmp_gt (tgt := 30) dX3_has_23 rfl (fun h23 => ?_) (fun h23 => ?_)
          · refine e_iconst (v := 0) dX3_has_30 rfl ?_
            exact e_zret dX3_has_31 rfl rfl (is_i (by first | rfl | simp [bi, h1, h5, h13, h23]) rfl)
          · refine e_iconst (v := 1) dX3_has_26 rfl ?_
            refine e_goto (tgt := 31) dX3_has_27 rfl ?_
            exact e_zret dX3_has_31 rfl rfl (is_i (by first | rfl | simp [bi, h1, h5, h13, h23]) rfl)
  | 2, _ =>
    refine e_iload_n 1 dX3_has_0 rfl rfl ?_
    refine e_if_lt (tgt := 30) dX3_has_1 rfl (fun h1 => ?_) (fun h1 => ?_)
    · refine e_iconst (v := 0) dX3_has_30 rfl ?_
      exact e_zret dX3_has_31 rfl rfl (is_i (by first | rfl | simp [bi, h1]) rfl)
    · refine e_iload_n 2 dX3_has_4 rfl rfl ?_
      refine e_if_lt (tgt := 30) dX3_has_5 rfl (fun h5 => ?_) (fun h5 => ?_)
      · refine e_iconst (v := 0) dX3_has_30 rfl ?_
        exact e_zret dX3_has_31 rfl rfl (is_i (by first | rfl | simp [bi, h1, h5]) rfl)
      · refine e_iload_n 1 dX3_has_8 rfl rfl ?_
        refine e_aload_n 0 dX3_has_9 rfl rfl ?_
        refine e_getfield 2 dX3_has_10 kf_X3_19_3 rfl rfl ?_
        refine e_icmp_gt (tgt := 30) dX3_has_13 rfl (fun h13 => ?_) (fun h13 => ?_)
        · refine e_iconst (v := 0) dX3_has_30 rfl ?_
          exact e_zret dX3_has_31 rfl rfl (is_i (by first | rfl | simp [bi, h1, h5, h13]) rfl)
        · refine e_iload_n 2 dX3_has_16 rfl rfl ?_
          refine e_aload_n 0 dX3_has_17 rfl rfl ?_
          refine e_getfield 2 dX3_has_18 kf_X3_19_3 rfl rfl ?_
          refine e_iload_n 1 dX3_has_21 rfl rfl ?_
          refine e_isub dX3_has_22 ?_
          refine e_icmp_gt (tgt := 30) dX3_has_23 rfl (fun h23 => ?_) (fun h23 => ?_)
          · refine e_iconst (v := 0) dX3_has_30 rfl ?_
            exact e_zret dX3_has_31 rfl rfl (is_i (by first | rfl | simp [bi, h1, h5, h13, h23]) rfl)
          · refine e_iconst (v := 1) dX3_has_26 rfl ?_
            refine e_goto (tgt := 31) dX3_has_27 rfl ?_
            exact e_zret dX3_has_31 rfl rfl (is_i (by first | rfl | simp [bi, h1, h5, h13, h23]) rfl)
  | 3, _ =>
    refine e_iload_n 1 dX3_has_0 rfl rfl ?_
    refine e_if_lt (tgt := 30) dX3_has_1 rfl (fun h1 => ?_) (fun h1 => ?_)
    · refine e_iconst (v := 0) dX3_has_30 rfl ?_
      exact e_zret dX3_has_31 rfl rfl (is_i (by first | rfl | simp [bi, h1]) rfl)
    · refine e_iload_n 2 dX3_has_4 rfl rfl ?_
      refine e_if_lt (tgt := 30) dX3_has_5 rfl (fun h5 => ?_) (fun h5 => ?_)
      · refine e_iconst (v := 0) dX3_has_30 rfl ?_
        exact e_zret dX3_has_31 rfl rfl (is_i (by first | rfl | simp [bi, h1, h5]) rfl)
      · refine e_iload_n 1 dX3_has_8 rfl rfl ?_
        refine e_aload_n 0 dX3_has_9 rfl rfl ?_
        refine e_getfield 2 dX3_has_10 kf_X3_19_3 rfl rfl ?_
        refine e_icmp_gt (tgt := 30) dX3_has_13 rfl (fun h13 => ?_) (fun h13 => ?_)
        · refine e_iconst (v := 0) dX3_has_30 rfl ?_
          exact e_zret dX3_has_31 rfl rfl (is_i (by first | rfl | simp [bi, h1, h5, h13]) rfl)
        · refine e_iload_n 2 dX3_has_16 rfl rfl ?_
          refine e_aload_n 0 dX3_has_17 rfl rfl ?_
          refine e_getfield 2 dX3_has_18 kf_X3_19_3 rfl rfl ?_
          refine e_iload_n 1 dX3_has_21 rfl rfl ?_
          refine e_isub dX3_has_22 ?_
          refine e_icmp_gt (tgt := 30) dX3_has_23 rfl (fun h23 => ?_) (fun h23 => ?_)
          · refine e_iconst (v := 0) dX3_has_30 rfl ?_
            exact e_zret dX3_has_31 rfl rfl (is_i (by first | rfl | simp [bi, h1, h5, h13, h23]) rfl)
          · refine e_iconst (v := 1) dX3_has_26 rfl ?_
            refine e_goto (tgt := 31) dX3_has_27 rfl ?_
            exact e_zret dX3_has_31 rfl rfl (is_i (by first | rfl | simp [bi, h1, h5, h13, h23]) rfl)

set_option maxRecDepth 4000 in
theorem sp_X3_cut {G : sh_G} {S : Nat → Int32} {A : Nat → Nat → Int32} {Lg : Nat → Int64} {P : Nat → Option Nat} {T : List sh_C} {k : Nat} {v : Int32} (hk : k < 4) : Ev G mX3_cut 0 0 (mkW G S A Lg P T) 0 [some (.ref (16 + 2 * k)), some (.int v)] [] (sh_is (some (.int (if S (11 + k) = 0 then v.toInt8.toInt32 else if S (11 + k) = 1 then v.toInt16.toInt32 else v))) (mkW G S A Lg P T)) := by
  match k, hk with
  | 0, _ =>
    refine e_aload_n 0 dX3_cut_0 rfl rfl ?_
    refine e_getfield 1 dX3_cut_1 kf_X3_15_3 rfl rfl ?_
    refine e_if_ne (tgt := 10) dX3_cut_4 rfl (fun h4 => ?_) (fun h4 => ?_)
    · refine e_aload_n 0 dX3_cut_10 rfl rfl ?_
      refine e_getfield 1 dX3_cut_11 kf_X3_15_3 rfl rfl ?_
      refine e_iconst (v := 1) dX3_cut_14 rfl ?_
      refine e_icmp_ne (tgt := 23) dX3_cut_15 rfl (fun h15 => ?_) (fun h15 => ?_)
      · refine e_iload_n 1 dX3_cut_23 rfl rfl ?_
        exact e_iret dX3_cut_24 rfl (is_i (by first | rfl | simp [bi, h4, h15]) rfl)
      · refine e_iload_n 1 dX3_cut_18 rfl rfl ?_
        refine e_i2s dX3_cut_19 ?_
        refine e_goto (tgt := 24) dX3_cut_20 rfl ?_
        exact e_iret dX3_cut_24 rfl (is_i (by first | rfl | simp [bi, h4, h15]) rfl)
    · refine e_iload_n 1 dX3_cut_7 rfl rfl ?_
      refine e_i2b dX3_cut_8 ?_
      exact e_iret dX3_cut_9 rfl (is_i (by first | rfl | simp [bi, h4]) rfl)
  | 1, _ =>
    refine e_aload_n 0 dX3_cut_0 rfl rfl ?_
    refine e_getfield 1 dX3_cut_1 kf_X3_15_3 rfl rfl ?_
    refine e_if_ne (tgt := 10) dX3_cut_4 rfl (fun h4 => ?_) (fun h4 => ?_)
    · refine e_aload_n 0 dX3_cut_10 rfl rfl ?_
      refine e_getfield 1 dX3_cut_11 kf_X3_15_3 rfl rfl ?_
      refine e_iconst (v := 1) dX3_cut_14 rfl ?_
      refine e_icmp_ne (tgt := 23) dX3_cut_15 rfl (fun h15 => ?_) (fun h15 => ?_)
      · refine e_iload_n 1 dX3_cut_23 rfl rfl ?_
        exact e_iret dX3_cut_24 rfl (is_i (by first | rfl | simp [bi, h4, h15]) rfl)
      · refine e_iload_n 1 dX3_cut_18 rfl rfl ?_
        refine e_i2s dX3_cut_19 ?_
        refine e_goto (tgt := 24) dX3_cut_20 rfl ?_
        exact e_iret dX3_cut_24 rfl (is_i (by first | rfl | simp [bi, h4, h15]) rfl)
    · refine e_iload_n 1 dX3_cut_7 rfl rfl ?_
      refine e_i2b dX3_cut_8 ?_
      exact e_iret dX3_cut_9 rfl (is_i (by first | rfl | simp [bi, h4]) rfl)
  | 2, _ =>
    refine e_aload_n 0 dX3_cut_0 rfl rfl ?_
    refine e_getfield 1 dX3_cut_1 kf_X3_15_3 rfl rfl ?_
    refine e_if_ne (tgt := 10) dX3_cut_4 rfl (fun h4 => ?_) (fun h4 => ?_)
    · refine e_aload_n 0 dX3_cut_10 rfl rfl ?_
      refine e_getfield 1 dX3_cut_11 kf_X3_15_3 rfl rfl ?_
      refine e_iconst (v := 1) dX3_cut_14 rfl ?_
      refine e_icmp_ne (tgt := 23) dX3_cut_15 rfl (fun h15 => ?_) (fun h15 => ?_)
      · refine e_iload_n 1 dX3_cut_23 rfl rfl ?_
        exact e_iret dX3_cut_24 rfl (is_i (by first | rfl | simp [bi, h4, h15]) rfl)
      · refine e_iload_n 1 dX3_cut_18 rfl rfl ?_
        refine e_i2s dX3_cut_19 ?_
        refine e_goto (tgt := 24) dX3_cut_20 rfl ?_
        exact e_iret dX3_cut_24 rfl (is_i (by first | rfl | simp [bi, h4, h15]) rfl)
    · refine e_iload_n 1 dX3_cut_7 rfl rfl ?_
      refine e_i2b dX3_cut_8 ?_
      exact e_iret dX3_cut_9 rfl (is_i (by first | rfl | simp [bi, h4]) rfl)
  | 3, _ =>
    refine e_aload_n 0 dX3_cut_0 rfl rfl ?_
    refine e_getfield 1 dX3_cut_1 kf_X3_15_3 rfl rfl ?_
    refine e_if_ne (tgt := 10) dX3_cut_4 rfl (fun h4 => ?_) (fun h4 => ?_)
    · refine e_aload_n 0 dX3_cut_10 rfl rfl ?_
      refine e_getfield 1 dX3_cut_11 kf_X3_15_3 rfl rfl ?_
      refine e_iconst (v := 1) dX3_cut_14 rfl ?_
      refine e_icmp_ne (tgt := 23) dX3_cut_15 rfl (fun h15 => ?_) (fun h15 => ?_)
      · refine e_iload_n 1 dX3_cut_23 rfl rfl ?_
        exact e_iret dX3_cut_24 rfl (is_i (by first | rfl | simp [bi, h4, h15]) rfl)
      · refine e_iload_n 1 dX3_cut_18 rfl rfl ?_
        refine e_i2s dX3_cut_19 ?_
        refine e_goto (tgt := 24) dX3_cut_20 rfl ?_
        exact e_iret dX3_cut_24 rfl (is_i (by first | rfl | simp [bi, h4, h15]) rfl)
    · refine e_iload_n 1 dX3_cut_7 rfl rfl ?_
      refine e_i2b dX3_cut_8 ?_
      exact e_iret dX3_cut_9 rfl (is_i (by first | rfl | simp [bi, h4]) rfl)
end
