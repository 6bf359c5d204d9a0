-- ===== PART A: goes FIRST, ahead of the names: the tables' words, and 'selects' of the private methods out of them =====
/-- a private method of a class that the tables say can be made, by its rows of tables_1 -/
def lw_okq (q : MethodName × Nat) : Prop := (q.1.cls ≠ "java/lang/invoke/MethodHandle" ∧ q.1.cls ≠ "java/lang/invoke/VarHandle") ∧ Cond.instantiable q.1.cls q.2 ∈ tables_1 ∧ Cond.privateMethod q.1 ∈ tables_1 ∧ Cond.instanceMethod q.1 ∈ tables_1
theorem lw_p0 : lw_okq (⟨"TwoInOne$History", "keepAt", "(ILTwoInOne$State;)V"⟩, 6) := ⟨⟨by decide +kernel, by decide +kernel⟩, List.mem_of_getElem? (i := 258) (by decide +kernel), List.mem_of_getElem? (i := 495) (by decide +kernel), List.mem_of_getElem? (i := 496) (by decide +kernel)⟩
theorem lw_p1 : lw_okq (⟨"TwoInOne", "put", "(I)V"⟩, 13) := ⟨⟨by decide +kernel, by decide +kernel⟩, List.mem_of_getElem? (i := 23) (by decide +kernel), List.mem_of_getElem? (i := 548) (by decide +kernel), List.mem_of_getElem? (i := 549) (by decide +kernel)⟩
theorem lw_p2 : lw_okq (⟨"TwoInOne$Reader", "advance", "()V"⟩, 17) := ⟨⟨by decide +kernel, by decide +kernel⟩, List.mem_of_getElem? (i := 151) (by decide +kernel), List.mem_of_getElem? (i := 569) (by decide +kernel), List.mem_of_getElem? (i := 570) (by decide +kernel)⟩
theorem lw_p3 : lw_okq (⟨"TwoInOne$Reader", "isLetter", "(I)Z"⟩, 17) := ⟨⟨by decide +kernel, by decide +kernel⟩, List.mem_of_getElem? (i := 151) (by decide +kernel), List.mem_of_getElem? (i := 573) (by decide +kernel), List.mem_of_getElem? (i := 574) (by decide +kernel)⟩
theorem lw_p4 : lw_okq (⟨"TwoInOne$Reader", "scanWord", "()V"⟩, 17) := ⟨⟨by decide +kernel, by decide +kernel⟩, List.mem_of_getElem? (i := 151) (by decide +kernel), List.mem_of_getElem? (i := 577) (by decide +kernel), List.mem_of_getElem? (i := 578) (by decide +kernel)⟩
theorem lw_p5 : lw_okq (⟨"TwoInOne$Reader", "wordToken", "(I)I"⟩, 17) := ⟨⟨by decide +kernel, by decide +kernel⟩, List.mem_of_getElem? (i := 151) (by decide +kernel), List.mem_of_getElem? (i := 582) (by decide +kernel), List.mem_of_getElem? (i := 583) (by decide +kernel)⟩
theorem lw_p6 : lw_okq (⟨"TwoInOne$Reader", "isDigit", "(I)Z"⟩, 17) := ⟨⟨by decide +kernel, by decide +kernel⟩, List.mem_of_getElem? (i := 151) (by decide +kernel), List.mem_of_getElem? (i := 635) (by decide +kernel), List.mem_of_getElem? (i := 636) (by decide +kernel)⟩
theorem lw_p7 : lw_okq (⟨"TwoInOne$Reader", "scanNumber", "()V"⟩, 17) := ⟨⟨by decide +kernel, by decide +kernel⟩, List.mem_of_getElem? (i := 151) (by decide +kernel), List.mem_of_getElem? (i := 639) (by decide +kernel), List.mem_of_getElem? (i := 640) (by decide +kernel)⟩
theorem lw_p8 : lw_okq (⟨"TwoInOne$Reader", "halfLine", "()Z"⟩, 17) := ⟨⟨by decide +kernel, by decide +kernel⟩, List.mem_of_getElem? (i := 151) (by decide +kernel), List.mem_of_getElem? (i := 646) (by decide +kernel), List.mem_of_getElem? (i := 647) (by decide +kernel)⟩
theorem lw_p9 : lw_okq (⟨"TwoInOne$Reader", "refuse", "(I)Z"⟩, 17) := ⟨⟨by decide +kernel, by decide +kernel⟩, List.mem_of_getElem? (i := 151) (by decide +kernel), List.mem_of_getElem? (i := 650) (by decide +kernel), List.mem_of_getElem? (i := 651) (by decide +kernel)⟩
theorem lw_p10 : lw_okq (⟨"TwoInOne$Reader", "takeNewName", "([JI)Z"⟩, 17) := ⟨⟨by decide +kernel, by decide +kernel⟩, List.mem_of_getElem? (i := 151) (by decide +kernel), List.mem_of_getElem? (i := 654) (by decide +kernel), List.mem_of_getElem? (i := 655) (by decide +kernel)⟩
theorem lw_p11 : lw_okq (⟨"TwoInOne$Reader", "indexOf", "([JI)I"⟩, 17) := ⟨⟨by decide +kernel, by decide +kernel⟩, List.mem_of_getElem? (i := 151) (by decide +kernel), List.mem_of_getElem? (i := 658) (by decide +kernel), List.mem_of_getElem? (i := 659) (by decide +kernel)⟩
theorem lw_p12 : lw_okq (⟨"TwoInOne$Reader", "take", "(I)Z"⟩, 17) := ⟨⟨by decide +kernel, by decide +kernel⟩, List.mem_of_getElem? (i := 151) (by decide +kernel), List.mem_of_getElem? (i := 662) (by decide +kernel), List.mem_of_getElem? (i := 663) (by decide +kernel)⟩
theorem lw_p13 : lw_okq (⟨"TwoInOne$Reader", "takeNumber", "(I)Z"⟩, 17) := ⟨⟨by decide +kernel, by decide +kernel⟩, List.mem_of_getElem? (i := 151) (by decide +kernel), List.mem_of_getElem? (i := 666) (by decide +kernel), List.mem_of_getElem? (i := 667) (by decide +kernel)⟩
theorem lw_p14 : lw_okq (⟨"TwoInOne$Reader", "likeLine", "()Z"⟩, 17) := ⟨⟨by decide +kernel, by decide +kernel⟩, List.mem_of_getElem? (i := 151) (by decide +kernel), List.mem_of_getElem? (i := 670) (by decide +kernel), List.mem_of_getElem? (i := 671) (by decide +kernel)⟩
theorem lw_p15 : lw_okq (⟨"TwoInOne$Reader", "takeHalf", "()Z"⟩, 17) := ⟨⟨by decide +kernel, by decide +kernel⟩, List.mem_of_getElem? (i := 151) (by decide +kernel), List.mem_of_getElem? (i := 674) (by decide +kernel), List.mem_of_getElem? (i := 675) (by decide +kernel)⟩
def lw_privs_1 : List (MethodName × Nat) := [(⟨"TwoInOne$History", "keepAt", "(ILTwoInOne$State;)V"⟩, 6), (⟨"TwoInOne", "put", "(I)V"⟩, 13), (⟨"TwoInOne$Reader", "advance", "()V"⟩, 17), (⟨"TwoInOne$Reader", "isLetter", "(I)Z"⟩, 17), (⟨"TwoInOne$Reader", "scanWord", "()V"⟩, 17), (⟨"TwoInOne$Reader", "wordToken", "(I)I"⟩, 17), (⟨"TwoInOne$Reader", "isDigit", "(I)Z"⟩, 17), (⟨"TwoInOne$Reader", "scanNumber", "()V"⟩, 17), (⟨"TwoInOne$Reader", "halfLine", "()Z"⟩, 17), (⟨"TwoInOne$Reader", "refuse", "(I)Z"⟩, 17), (⟨"TwoInOne$Reader", "takeNewName", "([JI)Z"⟩, 17), (⟨"TwoInOne$Reader", "indexOf", "([JI)I"⟩, 17), (⟨"TwoInOne$Reader", "take", "(I)Z"⟩, 17), (⟨"TwoInOne$Reader", "takeNumber", "(I)Z"⟩, 17), (⟨"TwoInOne$Reader", "likeLine", "()Z"⟩, 17), (⟨"TwoInOne$Reader", "takeHalf", "()Z"⟩, 17)]
theorem lw_r1 : ∀ q ∈ lw_privs_1, lw_okq q := List.forall_mem_cons.mpr ⟨lw_p0, List.forall_mem_cons.mpr ⟨lw_p1, List.forall_mem_cons.mpr ⟨lw_p2, List.forall_mem_cons.mpr ⟨lw_p3, List.forall_mem_cons.mpr ⟨lw_p4, List.forall_mem_cons.mpr ⟨lw_p5, List.forall_mem_cons.mpr ⟨lw_p6, List.forall_mem_cons.mpr ⟨lw_p7, List.forall_mem_cons.mpr ⟨lw_p8, List.forall_mem_cons.mpr ⟨lw_p9, List.forall_mem_cons.mpr ⟨lw_p10, List.forall_mem_cons.mpr ⟨lw_p11, List.forall_mem_cons.mpr ⟨lw_p12, List.forall_mem_cons.mpr ⟨lw_p13, List.forall_mem_cons.mpr ⟨lw_p14, List.forall_mem_cons.mpr ⟨lw_p15, fun _ h => absurd h List.not_mem_nil⟩⟩⟩⟩⟩⟩⟩⟩⟩⟩⟩⟩⟩⟩⟩⟩
theorem lw_p16 : lw_okq (⟨"TwoInOne$Reader", "halfNamed", "()I"⟩, 17) := ⟨⟨by decide +kernel, by decide +kernel⟩, List.mem_of_getElem? (i := 151) (by decide +kernel), List.mem_of_getElem? (i := 678) (by decide +kernel), List.mem_of_getElem? (i := 679) (by decide +kernel)⟩
theorem lw_p17 : lw_okq (⟨"TwoInOne$Reader", "personLine", "()Z"⟩, 17) := ⟨⟨by decide +kernel, by decide +kernel⟩, List.mem_of_getElem? (i := 151) (by decide +kernel), List.mem_of_getElem? (i := 682) (by decide +kernel), List.mem_of_getElem? (i := 683) (by decide +kernel)⟩
theorem lw_p18 : lw_okq (⟨"TwoInOne$Reader", "takeMember", "(I)Z"⟩, 17) := ⟨⟨by decide +kernel, by decide +kernel⟩, List.mem_of_getElem? (i := 151) (by decide +kernel), List.mem_of_getElem? (i := 686) (by decide +kernel), List.mem_of_getElem? (i := 687) (by decide +kernel)⟩
theorem lw_p19 : lw_okq (⟨"TwoInOne$Reader", "takeTurn", "(I)Z"⟩, 17) := ⟨⟨by decide +kernel, by decide +kernel⟩, List.mem_of_getElem? (i := 151) (by decide +kernel), List.mem_of_getElem? (i := 690) (by decide +kernel), List.mem_of_getElem? (i := 691) (by decide +kernel)⟩
theorem lw_p20 : lw_okq (⟨"TwoInOne$Reader", "deedLine", "()Z"⟩, 17) := ⟨⟨by decide +kernel, by decide +kernel⟩, List.mem_of_getElem? (i := 151) (by decide +kernel), List.mem_of_getElem? (i := 694) (by decide +kernel), List.mem_of_getElem? (i := 695) (by decide +kernel)⟩
theorem lw_p21 : lw_okq (⟨"TwoInOne$Reader", "formula", "(II)Z"⟩, 17) := ⟨⟨by decide +kernel, by decide +kernel⟩, List.mem_of_getElem? (i := 151) (by decide +kernel), List.mem_of_getElem? (i := 698) (by decide +kernel), List.mem_of_getElem? (i := 699) (by decide +kernel)⟩
theorem lw_p22 : lw_okq (⟨"TwoInOne$Reader", "unit", "(I)Z"⟩, 17) := ⟨⟨by decide +kernel, by decide +kernel⟩, List.mem_of_getElem? (i := 151) (by decide +kernel), List.mem_of_getElem? (i := 702) (by decide +kernel), List.mem_of_getElem? (i := 703) (by decide +kernel)⟩
theorem lw_p23 : lw_okq (⟨"TwoInOne$Reader", "emit", "(I)Z"⟩, 17) := ⟨⟨by decide +kernel, by decide +kernel⟩, List.mem_of_getElem? (i := 151) (by decide +kernel), List.mem_of_getElem? (i := 706) (by decide +kernel), List.mem_of_getElem? (i := 707) (by decide +kernel)⟩
theorem lw_p24 : lw_okq (⟨"TwoInOne$Reader", "favourLine", "()Z"⟩, 17) := ⟨⟨by decide +kernel, by decide +kernel⟩, List.mem_of_getElem? (i := 151) (by decide +kernel), List.mem_of_getElem? (i := 713) (by decide +kernel), List.mem_of_getElem? (i := 714) (by decide +kernel)⟩
theorem lw_p25 : lw_okq (⟨"TwoInOne$Reader", "drawLine", "()Z"⟩, 17) := ⟨⟨by decide +kernel, by decide +kernel⟩, List.mem_of_getElem? (i := 151) (by decide +kernel), List.mem_of_getElem? (i := 717) (by decide +kernel), List.mem_of_getElem? (i := 718) (by decide +kernel)⟩
theorem lw_p26 : lw_okq (⟨"TwoInOne$Course", "evaluate", "(III)I"⟩, 8) := ⟨⟨by decide +kernel, by decide +kernel⟩, List.mem_of_getElem? (i := 306) (by decide +kernel), List.mem_of_getElem? (i := 803) (by decide +kernel), List.mem_of_getElem? (i := 804) (by decide +kernel)⟩
theorem lw_p27 : lw_okq (⟨"TwoInOne$Course", "standing", "(II)I"⟩, 8) := ⟨⟨by decide +kernel, by decide +kernel⟩, List.mem_of_getElem? (i := 306) (by decide +kernel), List.mem_of_getElem? (i := 811) (by decide +kernel), List.mem_of_getElem? (i := 812) (by decide +kernel)⟩
theorem lw_p28 : lw_okq (⟨"TwoInOne$Course", "greedyDeed", "(I)I"⟩, 8) := ⟨⟨by decide +kernel, by decide +kernel⟩, List.mem_of_getElem? (i := 306) (by decide +kernel), List.mem_of_getElem? (i := 827) (by decide +kernel), List.mem_of_getElem? (i := 828) (by decide +kernel)⟩
theorem lw_p29 : lw_okq (⟨"TwoInOne", "canDo", "(II)Z"⟩, 13) := ⟨⟨by decide +kernel, by decide +kernel⟩, List.mem_of_getElem? (i := 23) (by decide +kernel), List.mem_of_getElem? (i := 835) (by decide +kernel), List.mem_of_getElem? (i := 836) (by decide +kernel)⟩
theorem lw_p30 : lw_okq (⟨"TwoInOne$Course", "carryOut", "(II)V"⟩, 8) := ⟨⟨by decide +kernel, by decide +kernel⟩, List.mem_of_getElem? (i := 306) (by decide +kernel), List.mem_of_getElem? (i := 867) (by decide +kernel), List.mem_of_getElem? (i := 868) (by decide +kernel)⟩
theorem lw_p31 : lw_okq (⟨"TwoInOne$History", "fetch", "(LTwoInOne$State;)Z"⟩, 6) := ⟨⟨by decide +kernel, by decide +kernel⟩, List.mem_of_getElem? (i := 258) (by decide +kernel), List.mem_of_getElem? (i := 912) (by decide +kernel), List.mem_of_getElem? (i := 913) (by decide +kernel)⟩
def lw_privs_2 : List (MethodName × Nat) := [(⟨"TwoInOne$Reader", "halfNamed", "()I"⟩, 17), (⟨"TwoInOne$Reader", "personLine", "()Z"⟩, 17), (⟨"TwoInOne$Reader", "takeMember", "(I)Z"⟩, 17), (⟨"TwoInOne$Reader", "takeTurn", "(I)Z"⟩, 17), (⟨"TwoInOne$Reader", "deedLine", "()Z"⟩, 17), (⟨"TwoInOne$Reader", "formula", "(II)Z"⟩, 17), (⟨"TwoInOne$Reader", "unit", "(I)Z"⟩, 17), (⟨"TwoInOne$Reader", "emit", "(I)Z"⟩, 17), (⟨"TwoInOne$Reader", "favourLine", "()Z"⟩, 17), (⟨"TwoInOne$Reader", "drawLine", "()Z"⟩, 17), (⟨"TwoInOne$Course", "evaluate", "(III)I"⟩, 8), (⟨"TwoInOne$Course", "standing", "(II)I"⟩, 8), (⟨"TwoInOne$Course", "greedyDeed", "(I)I"⟩, 8), (⟨"TwoInOne", "canDo", "(II)Z"⟩, 13), (⟨"TwoInOne$Course", "carryOut", "(II)V"⟩, 8), (⟨"TwoInOne$History", "fetch", "(LTwoInOne$State;)Z"⟩, 6)]
theorem lw_r2 : ∀ q ∈ lw_privs_2, lw_okq q := List.forall_mem_cons.mpr ⟨lw_p16, List.forall_mem_cons.mpr ⟨lw_p17, List.forall_mem_cons.mpr ⟨lw_p18, List.forall_mem_cons.mpr ⟨lw_p19, List.forall_mem_cons.mpr ⟨lw_p20, List.forall_mem_cons.mpr ⟨lw_p21, List.forall_mem_cons.mpr ⟨lw_p22, List.forall_mem_cons.mpr ⟨lw_p23, List.forall_mem_cons.mpr ⟨lw_p24, List.forall_mem_cons.mpr ⟨lw_p25, List.forall_mem_cons.mpr ⟨lw_p26, List.forall_mem_cons.mpr ⟨lw_p27, List.forall_mem_cons.mpr ⟨lw_p28, List.forall_mem_cons.mpr ⟨lw_p29, List.forall_mem_cons.mpr ⟨lw_p30, List.forall_mem_cons.mpr ⟨lw_p31, fun _ h => absurd h List.not_mem_nil⟩⟩⟩⟩⟩⟩⟩⟩⟩⟩⟩⟩⟩⟩⟩⟩
theorem lw_p32 : lw_okq (⟨"TwoInOne$Game", "begin", "(II)V"⟩, 10) := ⟨⟨by decide +kernel, by decide +kernel⟩, List.mem_of_getElem? (i := 337) (by decide +kernel), List.mem_of_getElem? (i := 941) (by decide +kernel), List.mem_of_getElem? (i := 942) (by decide +kernel)⟩
theorem lw_p33 : lw_okq (⟨"TwoInOne$Game", "solveEach", "(II)V"⟩, 10) := ⟨⟨by decide +kernel, by decide +kernel⟩, List.mem_of_getElem? (i := 337) (by decide +kernel), List.mem_of_getElem? (i := 948) (by decide +kernel), List.mem_of_getElem? (i := 949) (by decide +kernel)⟩
theorem lw_p34 : lw_okq (⟨"TwoInOne$Game", "worthAt", "(III)I"⟩, 10) := ⟨⟨by decide +kernel, by decide +kernel⟩, List.mem_of_getElem? (i := 337) (by decide +kernel), List.mem_of_getElem? (i := 959) (by decide +kernel), List.mem_of_getElem? (i := 960) (by decide +kernel)⟩
theorem lw_p35 : lw_okq (⟨"TwoInOne$Game", "settle", "(III)V"⟩, 10) := ⟨⟨by decide +kernel, by decide +kernel⟩, List.mem_of_getElem? (i := 337) (by decide +kernel), List.mem_of_getElem? (i := 963) (by decide +kernel), List.mem_of_getElem? (i := 964) (by decide +kernel)⟩
theorem lw_p36 : lw_okq (⟨"TwoInOne$Game", "solveAll", "(II)V"⟩, 10) := ⟨⟨by decide +kernel, by decide +kernel⟩, List.mem_of_getElem? (i := 337) (by decide +kernel), List.mem_of_getElem? (i := 983) (by decide +kernel), List.mem_of_getElem? (i := 984) (by decide +kernel)⟩
theorem lw_p37 : lw_okq (⟨"TwoInOne$Game", "leastAt", "(II)J"⟩, 10) := ⟨⟨by decide +kernel, by decide +kernel⟩, List.mem_of_getElem? (i := 337) (by decide +kernel), List.mem_of_getElem? (i := 991) (by decide +kernel), List.mem_of_getElem? (i := 992) (by decide +kernel)⟩
theorem lw_p38 : lw_okq (⟨"TwoInOne$Sums", "isReached", "(II)Z"⟩, 17) := ⟨⟨by decide +kernel, by decide +kernel⟩, List.mem_of_getElem? (i := 1005) (by decide +kernel), List.mem_of_getElem? (i := 1080) (by decide +kernel), List.mem_of_getElem? (i := 1081) (by decide +kernel)⟩
theorem lw_p39 : lw_okq (⟨"TwoInOne$Sums", "lookUp", "(II)V"⟩, 17) := ⟨⟨by decide +kernel, by decide +kernel⟩, List.mem_of_getElem? (i := 1005) (by decide +kernel), List.mem_of_getElem? (i := 1084) (by decide +kernel), List.mem_of_getElem? (i := 1085) (by decide +kernel)⟩
theorem lw_p40 : lw_okq (⟨"TwoInOne$Sums", "ways", "(II)I"⟩, 17) := ⟨⟨by decide +kernel, by decide +kernel⟩, List.mem_of_getElem? (i := 1005) (by decide +kernel), List.mem_of_getElem? (i := 1088) (by decide +kernel), List.mem_of_getElem? (i := 1089) (by decide +kernel)⟩
theorem lw_p41 : lw_okq (⟨"TwoInOne$Sums", "isKnownBehind", "(II)Z"⟩, 17) := ⟨⟨by decide +kernel, by decide +kernel⟩, List.mem_of_getElem? (i := 1005) (by decide +kernel), List.mem_of_getElem? (i := 1098) (by decide +kernel), List.mem_of_getElem? (i := 1099) (by decide +kernel)⟩
theorem lw_p42 : lw_okq (⟨"TwoInOne$Sums", "gather", "(II)V"⟩, 17) := ⟨⟨by decide +kernel, by decide +kernel⟩, List.mem_of_getElem? (i := 1005) (by decide +kernel), List.mem_of_getElem? (i := 1106) (by decide +kernel), List.mem_of_getElem? (i := 1107) (by decide +kernel)⟩
theorem lw_p43 : lw_okq (⟨"TwoInOne$Sums", "merge", "(IIIJI)I"⟩, 17) := ⟨⟨by decide +kernel, by decide +kernel⟩, List.mem_of_getElem? (i := 1005) (by decide +kernel), List.mem_of_getElem? (i := 1112) (by decide +kernel), List.mem_of_getElem? (i := 1113) (by decide +kernel)⟩
theorem lw_p44 : lw_okq (⟨"TwoInOne$Sums", "slice", "(IIJI)I"⟩, 17) := ⟨⟨by decide +kernel, by decide +kernel⟩, List.mem_of_getElem? (i := 1005) (by decide +kernel), List.mem_of_getElem? (i := 1116) (by decide +kernel), List.mem_of_getElem? (i := 1117) (by decide +kernel)⟩
theorem lw_p45 : lw_okq (⟨"TwoInOne$Sums", "isWanted", "(J)Z"⟩, 17) := ⟨⟨by decide +kernel, by decide +kernel⟩, List.mem_of_getElem? (i := 1005) (by decide +kernel), List.mem_of_getElem? (i := 1124) (by decide +kernel), List.mem_of_getElem? (i := 1125) (by decide +kernel)⟩
theorem lw_p46 : lw_okq (⟨"TwoInOne$Sums", "unite", "(III)I"⟩, 17) := ⟨⟨by decide +kernel, by decide +kernel⟩, List.mem_of_getElem? (i := 1005) (by decide +kernel), List.mem_of_getElem? (i := 1128) (by decide +kernel), List.mem_of_getElem? (i := 1129) (by decide +kernel)⟩
theorem lw_p47 : lw_okq (⟨"TwoInOne$Sums", "canCome", "(IIII)Z"⟩, 17) := ⟨⟨by decide +kernel, by decide +kernel⟩, List.mem_of_getElem? (i := 1005) (by decide +kernel), List.mem_of_getElem? (i := 1147) (by decide +kernel), List.mem_of_getElem? (i := 1148) (by decide +kernel)⟩
def lw_privs_3 : List (MethodName × Nat) := [(⟨"TwoInOne$Game", "begin", "(II)V"⟩, 10), (⟨"TwoInOne$Game", "solveEach", "(II)V"⟩, 10), (⟨"TwoInOne$Game", "worthAt", "(III)I"⟩, 10), (⟨"TwoInOne$Game", "settle", "(III)V"⟩, 10), (⟨"TwoInOne$Game", "solveAll", "(II)V"⟩, 10), (⟨"TwoInOne$Game", "leastAt", "(II)J"⟩, 10), (⟨"TwoInOne$Sums", "isReached", "(II)Z"⟩, 17), (⟨"TwoInOne$Sums", "lookUp", "(II)V"⟩, 17), (⟨"TwoInOne$Sums", "ways", "(II)I"⟩, 17), (⟨"TwoInOne$Sums", "isKnownBehind", "(II)Z"⟩, 17), (⟨"TwoInOne$Sums", "gather", "(II)V"⟩, 17), (⟨"TwoInOne$Sums", "merge", "(IIIJI)I"⟩, 17), (⟨"TwoInOne$Sums", "slice", "(IIJI)I"⟩, 17), (⟨"TwoInOne$Sums", "isWanted", "(J)Z"⟩, 17), (⟨"TwoInOne$Sums", "unite", "(III)I"⟩, 17), (⟨"TwoInOne$Sums", "canCome", "(IIII)Z"⟩, 17)]
theorem lw_r3 : ∀ q ∈ lw_privs_3, lw_okq q := List.forall_mem_cons.mpr ⟨lw_p32, List.forall_mem_cons.mpr ⟨lw_p33, List.forall_mem_cons.mpr ⟨lw_p34, List.forall_mem_cons.mpr ⟨lw_p35, List.forall_mem_cons.mpr ⟨lw_p36, List.forall_mem_cons.mpr ⟨lw_p37, List.forall_mem_cons.mpr ⟨lw_p38, List.forall_mem_cons.mpr ⟨lw_p39, List.forall_mem_cons.mpr ⟨lw_p40, List.forall_mem_cons.mpr ⟨lw_p41, List.forall_mem_cons.mpr ⟨lw_p42, List.forall_mem_cons.mpr ⟨lw_p43, List.forall_mem_cons.mpr ⟨lw_p44, List.forall_mem_cons.mpr ⟨lw_p45, List.forall_mem_cons.mpr ⟨lw_p46, List.forall_mem_cons.mpr ⟨lw_p47, fun _ h => absurd h List.not_mem_nil⟩⟩⟩⟩⟩⟩⟩⟩⟩⟩⟩⟩⟩⟩⟩⟩
theorem lw_p48 : lw_okq (⟨"TwoInOne$Search", "weigh", "()V"⟩, 19) := ⟨⟨by decide +kernel, by decide +kernel⟩, List.mem_of_getElem? (i := 1156) (by decide +kernel), List.mem_of_getElem? (i := 1229) (by decide +kernel), List.mem_of_getElem? (i := 1230) (by decide +kernel)⟩
theorem lw_p49 : lw_okq (⟨"TwoInOne$Search", "findLimit", "()V"⟩, 19) := ⟨⟨by decide +kernel, by decide +kernel⟩, List.mem_of_getElem? (i := 1156) (by decide +kernel), List.mem_of_getElem? (i := 1240) (by decide +kernel), List.mem_of_getElem? (i := 1241) (by decide +kernel)⟩
theorem lw_p50 : lw_okq (⟨"TwoInOne$Search", "loadBehind", "(II)I"⟩, 19) := ⟨⟨by decide +kernel, by decide +kernel⟩, List.mem_of_getElem? (i := 1156) (by decide +kernel), List.mem_of_getElem? (i := 1247) (by decide +kernel), List.mem_of_getElem? (i := 1248) (by decide +kernel)⟩
theorem lw_p51 : lw_okq (⟨"TwoInOne$Search", "sumBehind", "(II)I"⟩, 19) := ⟨⟨by decide +kernel, by decide +kernel⟩, List.mem_of_getElem? (i := 1156) (by decide +kernel), List.mem_of_getElem? (i := 1251) (by decide +kernel), List.mem_of_getElem? (i := 1252) (by decide +kernel)⟩
theorem lw_p52 : lw_okq (⟨"TwoInOne$Search", "settleFrom", "(III)V"⟩, 19) := ⟨⟨by decide +kernel, by decide +kernel⟩, List.mem_of_getElem? (i := 1156) (by decide +kernel), List.mem_of_getElem? (i := 1255) (by decide +kernel), List.mem_of_getElem? (i := 1256) (by decide +kernel)⟩
theorem lw_p53 : lw_okq (⟨"TwoInOne$Search", "isSettled", "(IIII)Z"⟩, 19) := ⟨⟨by decide +kernel, by decide +kernel⟩, List.mem_of_getElem? (i := 1156) (by decide +kernel), List.mem_of_getElem? (i := 1259) (by decide +kernel), List.mem_of_getElem? (i := 1260) (by decide +kernel)⟩
theorem lw_p54 : lw_okq (⟨"TwoInOne$Search", "keep", "(III)V"⟩, 19) := ⟨⟨by decide +kernel, by decide +kernel⟩, List.mem_of_getElem? (i := 1156) (by decide +kernel), List.mem_of_getElem? (i := 1264) (by decide +kernel), List.mem_of_getElem? (i := 1265) (by decide +kernel)⟩
theorem lw_p55 : lw_okq (⟨"TwoInOne$Search", "advanceFront", "()V"⟩, 19) := ⟨⟨by decide +kernel, by decide +kernel⟩, List.mem_of_getElem? (i := 1156) (by decide +kernel), List.mem_of_getElem? (i := 1274) (by decide +kernel), List.mem_of_getElem? (i := 1275) (by decide +kernel)⟩
theorem lw_p56 : lw_okq (⟨"TwoInOne$Search", "swapFront", "()V"⟩, 19) := ⟨⟨by decide +kernel, by decide +kernel⟩, List.mem_of_getElem? (i := 1156) (by decide +kernel), List.mem_of_getElem? (i := 1288) (by decide +kernel), List.mem_of_getElem? (i := 1289) (by decide +kernel)⟩
theorem lw_p57 : lw_okq (⟨"TwoInOne$Search", "sortFront", "()V"⟩, 19) := ⟨⟨by decide +kernel, by decide +kernel⟩, List.mem_of_getElem? (i := 1156) (by decide +kernel), List.mem_of_getElem? (i := 1292) (by decide +kernel), List.mem_of_getElem? (i := 1293) (by decide +kernel)⟩
theorem lw_p58 : lw_okq (⟨"TwoInOne$Search", "mergeRuns", "(III)V"⟩, 19) := ⟨⟨by decide +kernel, by decide +kernel⟩, List.mem_of_getElem? (i := 1156) (by decide +kernel), List.mem_of_getElem? (i := 1297) (by decide +kernel), List.mem_of_getElem? (i := 1298) (by decide +kernel)⟩
theorem lw_p59 : lw_okq (⟨"TwoInOne$Search", "dropTwins", "()V"⟩, 19) := ⟨⟨by decide +kernel, by decide +kernel⟩, List.mem_of_getElem? (i := 1156) (by decide +kernel), List.mem_of_getElem? (i := 1301) (by decide +kernel), List.mem_of_getElem? (i := 1302) (by decide +kernel)⟩
theorem lw_p60 : lw_okq (⟨"TwoInOne$Search", "findBlocks", "()V"⟩, 19) := ⟨⟨by decide +kernel, by decide +kernel⟩, List.mem_of_getElem? (i := 1156) (by decide +kernel), List.mem_of_getElem? (i := 1305) (by decide +kernel), List.mem_of_getElem? (i := 1306) (by decide +kernel)⟩
theorem lw_p61 : lw_okq (⟨"TwoInOne$Search", "chooseMiddle", "()V"⟩, 19) := ⟨⟨by decide +kernel, by decide +kernel⟩, List.mem_of_getElem? (i := 1156) (by decide +kernel), List.mem_of_getElem? (i := 1309) (by decide +kernel), List.mem_of_getElem? (i := 1310) (by decide +kernel)⟩
theorem lw_p62 : lw_okq (⟨"TwoInOne$Search", "flowTo", "(I)V"⟩, 19) := ⟨⟨by decide +kernel, by decide +kernel⟩, List.mem_of_getElem? (i := 1156) (by decide +kernel), List.mem_of_getElem? (i := 1313) (by decide +kernel), List.mem_of_getElem? (i := 1314) (by decide +kernel)⟩
theorem lw_p63 : lw_okq (⟨"TwoInOne$Search", "dropLater", "()V"⟩, 19) := ⟨⟨by decide +kernel, by decide +kernel⟩, List.mem_of_getElem? (i := 1156) (by decide +kernel), List.mem_of_getElem? (i := 1325) (by decide +kernel), List.mem_of_getElem? (i := 1326) (by decide +kernel)⟩
def lw_privs_4 : List (MethodName × Nat) := [(⟨"TwoInOne$Search", "weigh", "()V"⟩, 19), (⟨"TwoInOne$Search", "findLimit", "()V"⟩, 19), (⟨"TwoInOne$Search", "loadBehind", "(II)I"⟩, 19), (⟨"TwoInOne$Search", "sumBehind", "(II)I"⟩, 19), (⟨"TwoInOne$Search", "settleFrom", "(III)V"⟩, 19), (⟨"TwoInOne$Search", "isSettled", "(IIII)Z"⟩, 19), (⟨"TwoInOne$Search", "keep", "(III)V"⟩, 19), (⟨"TwoInOne$Search", "advanceFront", "()V"⟩, 19), (⟨"TwoInOne$Search", "swapFront", "()V"⟩, 19), (⟨"TwoInOne$Search", "sortFront", "()V"⟩, 19), (⟨"TwoInOne$Search", "mergeRuns", "(III)V"⟩, 19), (⟨"TwoInOne$Search", "dropTwins", "()V"⟩, 19), (⟨"TwoInOne$Search", "findBlocks", "()V"⟩, 19), (⟨"TwoInOne$Search", "chooseMiddle", "()V"⟩, 19), (⟨"TwoInOne$Search", "flowTo", "(I)V"⟩, 19), (⟨"TwoInOne$Search", "dropLater", "()V"⟩, 19)]
theorem lw_r4 : ∀ q ∈ lw_privs_4, lw_okq q := List.forall_mem_cons.mpr ⟨lw_p48, List.forall_mem_cons.mpr ⟨lw_p49, List.forall_mem_cons.mpr ⟨lw_p50, List.forall_mem_cons.mpr ⟨lw_p51, List.forall_mem_cons.mpr ⟨lw_p52, List.forall_mem_cons.mpr ⟨lw_p53, List.forall_mem_cons.mpr ⟨lw_p54, List.forall_mem_cons.mpr ⟨lw_p55, List.forall_mem_cons.mpr ⟨lw_p56, List.forall_mem_cons.mpr ⟨lw_p57, List.forall_mem_cons.mpr ⟨lw_p58, List.forall_mem_cons.mpr ⟨lw_p59, List.forall_mem_cons.mpr ⟨lw_p60, List.forall_mem_cons.mpr ⟨lw_p61, List.forall_mem_cons.mpr ⟨lw_p62, List.forall_mem_cons.mpr ⟨lw_p63, fun _ h => absurd h List.not_mem_nil⟩⟩⟩⟩⟩⟩⟩⟩⟩⟩⟩⟩⟩⟩⟩⟩
theorem lw_p64 : lw_okq (⟨"TwoInOne$Search", "sweepTo", "(I)V"⟩, 19) := ⟨⟨by decide +kernel, by decide +kernel⟩, List.mem_of_getElem? (i := 1156) (by decide +kernel), List.mem_of_getElem? (i := 1329) (by decide +kernel), List.mem_of_getElem? (i := 1330) (by decide +kernel)⟩
theorem lw_p65 : lw_okq (⟨"TwoInOne$Search", "markPaths", "(I)V"⟩, 19) := ⟨⟨by decide +kernel, by decide +kernel⟩, List.mem_of_getElem? (i := 1156) (by decide +kernel), List.mem_of_getElem? (i := 1333) (by decide +kernel), List.mem_of_getElem? (i := 1334) (by decide +kernel)⟩
theorem lw_p66 : lw_okq (⟨"TwoInOne$Search", "walk", "(IIIIJ)V"⟩, 19) := ⟨⟨by decide +kernel, by decide +kernel⟩, List.mem_of_getElem? (i := 1156) (by decide +kernel), List.mem_of_getElem? (i := 1356) (by decide +kernel), List.mem_of_getElem? (i := 1357) (by decide +kernel)⟩
theorem lw_p67 : lw_okq (⟨"TwoInOne$Search", "meet", "(IIJ)V"⟩, 19) := ⟨⟨by decide +kernel, by decide +kernel⟩, List.mem_of_getElem? (i := 1156) (by decide +kernel), List.mem_of_getElem? (i := 1360) (by decide +kernel), List.mem_of_getElem? (i := 1361) (by decide +kernel)⟩
theorem lw_p68 : lw_okq (⟨"TwoInOne$Search", "lastInBlock", "(II)I"⟩, 19) := ⟨⟨by decide +kernel, by decide +kernel⟩, List.mem_of_getElem? (i := 1156) (by decide +kernel), List.mem_of_getElem? (i := 1364) (by decide +kernel), List.mem_of_getElem? (i := 1365) (by decide +kernel)⟩
theorem lw_p69 : lw_okq (⟨"TwoInOne$Search", "followMost", "(II)V"⟩, 19) := ⟨⟨by decide +kernel, by decide +kernel⟩, List.mem_of_getElem? (i := 1156) (by decide +kernel), List.mem_of_getElem? (i := 1387) (by decide +kernel), List.mem_of_getElem? (i := 1388) (by decide +kernel)⟩
theorem lw_p70 : lw_okq (⟨"TwoInOne$Game", "isBetterBroken", "(IIII)Z"⟩, 10) := ⟨⟨by decide +kernel, by decide +kernel⟩, List.mem_of_getElem? (i := 337) (by decide +kernel), List.mem_of_getElem? (i := 1409) (by decide +kernel), List.mem_of_getElem? (i := 1410) (by decide +kernel)⟩
theorem lw_p71 : lw_okq (⟨"TwoInOne$Game", "deedOn", "(I)I"⟩, 10) := ⟨⟨by decide +kernel, by decide +kernel⟩, List.mem_of_getElem? (i := 337) (by decide +kernel), List.mem_of_getElem? (i := 1417) (by decide +kernel), List.mem_of_getElem? (i := 1418) (by decide +kernel)⟩
theorem lw_p72 : lw_okq (⟨"TwoInOne$Pairings", "extend", "(IZ)V"⟩, 9) := ⟨⟨by decide +kernel, by decide +kernel⟩, List.mem_of_getElem? (i := 384) (by decide +kernel), List.mem_of_getElem? (i := 1449) (by decide +kernel), List.mem_of_getElem? (i := 1450) (by decide +kernel)⟩
theorem lw_p73 : lw_okq (⟨"TwoInOne$Pairings", "isOpen", "(I)Z"⟩, 9) := ⟨⟨by decide +kernel, by decide +kernel⟩, List.mem_of_getElem? (i := 384) (by decide +kernel), List.mem_of_getElem? (i := 1453) (by decide +kernel), List.mem_of_getElem? (i := 1454) (by decide +kernel)⟩
theorem lw_p74 : lw_okq (⟨"TwoInOne$Pairings", "judge", "()V"⟩, 9) := ⟨⟨by decide +kernel, by decide +kernel⟩, List.mem_of_getElem? (i := 384) (by decide +kernel), List.mem_of_getElem? (i := 1457) (by decide +kernel), List.mem_of_getElem? (i := 1458) (by decide +kernel)⟩
theorem lw_p75 : lw_okq (⟨"TwoInOne$Pairings", "likesHis", "(I)I"⟩, 9) := ⟨⟨by decide +kernel, by decide +kernel⟩, List.mem_of_getElem? (i := 384) (by decide +kernel), List.mem_of_getElem? (i := 1461) (by decide +kernel), List.mem_of_getElem? (i := 1462) (by decide +kernel)⟩
theorem lw_p76 : lw_okq (⟨"TwoInOne$Pairings", "isFast", "()Z"⟩, 9) := ⟨⟨by decide +kernel, by decide +kernel⟩, List.mem_of_getElem? (i := 384) (by decide +kernel), List.mem_of_getElem? (i := 1468) (by decide +kernel), List.mem_of_getElem? (i := 1469) (by decide +kernel)⟩
theorem lw_p77 : lw_okq (⟨"TwoInOne$Course", "addVote", "(I)V"⟩, 8) := ⟨⟨by decide +kernel, by decide +kernel⟩, List.mem_of_getElem? (i := 306) (by decide +kernel), List.mem_of_getElem? (i := 1490) (by decide +kernel), List.mem_of_getElem? (i := 1491) (by decide +kernel)⟩
theorem lw_p78 : lw_okq (⟨"TwoInOne$Course", "winner", "()I"⟩, 8) := ⟨⟨by decide +kernel, by decide +kernel⟩, List.mem_of_getElem? (i := 306) (by decide +kernel), List.mem_of_getElem? (i := 1495) (by decide +kernel), List.mem_of_getElem? (i := 1496) (by decide +kernel)⟩
theorem lw_p79 : lw_okq (⟨"TwoInOne$Sights", "gatherSeen", "(II)Z"⟩, 15) := ⟨⟨by decide +kernel, by decide +kernel⟩, List.mem_of_getElem? (i := 423) (by decide +kernel), List.mem_of_getElem? (i := 1555) (by decide +kernel), List.mem_of_getElem? (i := 1556) (by decide +kernel)⟩
def lw_privs_5 : List (MethodName × Nat) := [(⟨"TwoInOne$Search", "sweepTo", "(I)V"⟩, 19), (⟨"TwoInOne$Search", "markPaths", "(I)V"⟩, 19), (⟨"TwoInOne$Search", "walk", "(IIIIJ)V"⟩, 19), (⟨"TwoInOne$Search", "meet", "(IIJ)V"⟩, 19), (⟨"TwoInOne$Search", "lastInBlock", "(II)I"⟩, 19), (⟨"TwoInOne$Search", "followMost", "(II)V"⟩, 19), (⟨"TwoInOne$Game", "isBetterBroken", "(IIII)Z"⟩, 10), (⟨"TwoInOne$Game", "deedOn", "(I)I"⟩, 10), (⟨"TwoInOne$Pairings", "extend", "(IZ)V"⟩, 9), (⟨"TwoInOne$Pairings", "isOpen", "(I)Z"⟩, 9), (⟨"TwoInOne$Pairings", "judge", "()V"⟩, 9), (⟨"TwoInOne$Pairings", "likesHis", "(I)I"⟩, 9), (⟨"TwoInOne$Pairings", "isFast", "()Z"⟩, 9), (⟨"TwoInOne$Course", "addVote", "(I)V"⟩, 8), (⟨"TwoInOne$Course", "winner", "()I"⟩, 8), (⟨"TwoInOne$Sights", "gatherSeen", "(II)Z"⟩, 15)]
theorem lw_r5 : ∀ q ∈ lw_privs_5, lw_okq q := List.forall_mem_cons.mpr ⟨lw_p64, List.forall_mem_cons.mpr ⟨lw_p65, List.forall_mem_cons.mpr ⟨lw_p66, List.forall_mem_cons.mpr ⟨lw_p67, List.forall_mem_cons.mpr ⟨lw_p68, List.forall_mem_cons.mpr ⟨lw_p69, List.forall_mem_cons.mpr ⟨lw_p70, List.forall_mem_cons.mpr ⟨lw_p71, List.forall_mem_cons.mpr ⟨lw_p72, List.forall_mem_cons.mpr ⟨lw_p73, List.forall_mem_cons.mpr ⟨lw_p74, List.forall_mem_cons.mpr ⟨lw_p75, List.forall_mem_cons.mpr ⟨lw_p76, List.forall_mem_cons.mpr ⟨lw_p77, List.forall_mem_cons.mpr ⟨lw_p78, List.forall_mem_cons.mpr ⟨lw_p79, fun _ h => absurd h List.not_mem_nil⟩⟩⟩⟩⟩⟩⟩⟩⟩⟩⟩⟩⟩⟩⟩⟩
theorem lw_p80 : lw_okq (⟨"TwoInOne$Sights", "counts", "(II)Z"⟩, 15) := ⟨⟨by decide +kernel, by decide +kernel⟩, List.mem_of_getElem? (i := 423) (by decide +kernel), List.mem_of_getElem? (i := 1561) (by decide +kernel), List.mem_of_getElem? (i := 1562) (by decide +kernel)⟩
theorem lw_p81 : lw_okq (⟨"TwoInOne$Sights", "tryAlibi", "(IIIII)V"⟩, 15) := ⟨⟨by decide +kernel, by decide +kernel⟩, List.mem_of_getElem? (i := 423) (by decide +kernel), List.mem_of_getElem? (i := 1568) (by decide +kernel), List.mem_of_getElem? (i := 1569) (by decide +kernel)⟩
theorem lw_p82 : lw_okq (⟨"TwoInOne$Sights", "wouldBeIn", "(III)I"⟩, 15) := ⟨⟨by decide +kernel, by decide +kernel⟩, List.mem_of_getElem? (i := 423) (by decide +kernel), List.mem_of_getElem? (i := 1575) (by decide +kernel), List.mem_of_getElem? (i := 1576) (by decide +kernel)⟩
theorem lw_p83 : lw_okq (⟨"TwoInOne$Sights", "explains", "(II)Z"⟩, 15) := ⟨⟨by decide +kernel, by decide +kernel⟩, List.mem_of_getElem? (i := 423) (by decide +kernel), List.mem_of_getElem? (i := 1591) (by decide +kernel), List.mem_of_getElem? (i := 1592) (by decide +kernel)⟩
theorem lw_p84 : lw_okq (⟨"TwoInOneModel", "clearBank", "()V"⟩, 80) := ⟨⟨by decide +kernel, by decide +kernel⟩, List.mem_of_getElem? (i := 1626) (by decide +kernel), List.mem_of_getElem? (i := 1632) (by decide +kernel), List.mem_of_getElem? (i := 1633) (by decide +kernel)⟩
theorem lw_p85 : lw_okq (⟨"TwoInOneModel", "startAnew", "()V"⟩, 80) := ⟨⟨by decide +kernel, by decide +kernel⟩, List.mem_of_getElem? (i := 1626) (by decide +kernel), List.mem_of_getElem? (i := 1636) (by decide +kernel), List.mem_of_getElem? (i := 1637) (by decide +kernel)⟩
theorem lw_p86 : lw_okq (⟨"TwoInOneModel", "goOn", "()V"⟩, 80) := ⟨⟨by decide +kernel, by decide +kernel⟩, List.mem_of_getElem? (i := 1626) (by decide +kernel), List.mem_of_getElem? (i := 1885) (by decide +kernel), List.mem_of_getElem? (i := 1886) (by decide +kernel)⟩
theorem lw_p87 : lw_okq (⟨"TwoInOneModel", "sign", "(I)I"⟩, 80) := ⟨⟨by decide +kernel, by decide +kernel⟩, List.mem_of_getElem? (i := 1626) (by decide +kernel), List.mem_of_getElem? (i := 1889) (by decide +kernel), List.mem_of_getElem? (i := 1890) (by decide +kernel)⟩
theorem lw_p88 : lw_okq (⟨"TwoInOneModel", "isGood", "()Z"⟩, 80) := ⟨⟨by decide +kernel, by decide +kernel⟩, List.mem_of_getElem? (i := 1626) (by decide +kernel), List.mem_of_getElem? (i := 1923) (by decide +kernel), List.mem_of_getElem? (i := 1924) (by decide +kernel)⟩
theorem lw_p89 : lw_okq (⟨"TwoInOneModel", "readLine", "()V"⟩, 80) := ⟨⟨by decide +kernel, by decide +kernel⟩, List.mem_of_getElem? (i := 1626) (by decide +kernel), List.mem_of_getElem? (i := 1927) (by decide +kernel), List.mem_of_getElem? (i := 1928) (by decide +kernel)⟩
theorem lw_p90 : lw_okq (⟨"TwoInOneModel", "isFull", "()Z"⟩, 80) := ⟨⟨by decide +kernel, by decide +kernel⟩, List.mem_of_getElem? (i := 1626) (by decide +kernel), List.mem_of_getElem? (i := 1931) (by decide +kernel), List.mem_of_getElem? (i := 1932) (by decide +kernel)⟩
theorem lw_p91 : lw_okq (⟨"TwoInOneModel", "isWord", "(J)Z"⟩, 80) := ⟨⟨by decide +kernel, by decide +kernel⟩, List.mem_of_getElem? (i := 1626) (by decide +kernel), List.mem_of_getElem? (i := 1935) (by decide +kernel), List.mem_of_getElem? (i := 1936) (by decide +kernel)⟩
theorem lw_p92 : lw_okq (⟨"TwoInOneModel", "misplaced", "()V"⟩, 80) := ⟨⟨by decide +kernel, by decide +kernel⟩, List.mem_of_getElem? (i := 1626) (by decide +kernel), List.mem_of_getElem? (i := 1939) (by decide +kernel), List.mem_of_getElem? (i := 1940) (by decide +kernel)⟩
theorem lw_p93 : lw_okq (⟨"TwoInOneModel", "fails", "(II)V"⟩, 80) := ⟨⟨by decide +kernel, by decide +kernel⟩, List.mem_of_getElem? (i := 1626) (by decide +kernel), List.mem_of_getElem? (i := 1943) (by decide +kernel), List.mem_of_getElem? (i := 1944) (by decide +kernel)⟩
theorem lw_p94 : lw_okq (⟨"TwoInOneModel", "readHalf", "()V"⟩, 80) := ⟨⟨by decide +kernel, by decide +kernel⟩, List.mem_of_getElem? (i := 1626) (by decide +kernel), List.mem_of_getElem? (i := 1947) (by decide +kernel), List.mem_of_getElem? (i := 1948) (by decide +kernel)⟩
theorem lw_p95 : lw_okq (⟨"TwoInOneModel", "halfHere", "()I"⟩, 80) := ⟨⟨by decide +kernel, by decide +kernel⟩, List.mem_of_getElem? (i := 1626) (by decide +kernel), List.mem_of_getElem? (i := 1951) (by decide +kernel), List.mem_of_getElem? (i := 1952) (by decide +kernel)⟩
def lw_privs_6 : List (MethodName × Nat) := [(⟨"TwoInOne$Sights", "counts", "(II)Z"⟩, 15), (⟨"TwoInOne$Sights", "tryAlibi", "(IIIII)V"⟩, 15), (⟨"TwoInOne$Sights", "wouldBeIn", "(III)I"⟩, 15), (⟨"TwoInOne$Sights", "explains", "(II)Z"⟩, 15), (⟨"TwoInOneModel", "clearBank", "()V"⟩, 80), (⟨"TwoInOneModel", "startAnew", "()V"⟩, 80), (⟨"TwoInOneModel", "goOn", "()V"⟩, 80), (⟨"TwoInOneModel", "sign", "(I)I"⟩, 80), (⟨"TwoInOneModel", "isGood", "()Z"⟩, 80), (⟨"TwoInOneModel", "readLine", "()V"⟩, 80), (⟨"TwoInOneModel", "isFull", "()Z"⟩, 80), (⟨"TwoInOneModel", "isWord", "(J)Z"⟩, 80), (⟨"TwoInOneModel", "misplaced", "()V"⟩, 80), (⟨"TwoInOneModel", "fails", "(II)V"⟩, 80), (⟨"TwoInOneModel", "readHalf", "()V"⟩, 80), (⟨"TwoInOneModel", "halfHere", "()I"⟩, 80)]
theorem lw_r6 : ∀ q ∈ lw_privs_6, lw_okq q := List.forall_mem_cons.mpr ⟨lw_p80, List.forall_mem_cons.mpr ⟨lw_p81, List.forall_mem_cons.mpr ⟨lw_p82, List.forall_mem_cons.mpr ⟨lw_p83, List.forall_mem_cons.mpr ⟨lw_p84, List.forall_mem_cons.mpr ⟨lw_p85, List.forall_mem_cons.mpr ⟨lw_p86, List.forall_mem_cons.mpr ⟨lw_p87, List.forall_mem_cons.mpr ⟨lw_p88, List.forall_mem_cons.mpr ⟨lw_p89, List.forall_mem_cons.mpr ⟨lw_p90, List.forall_mem_cons.mpr ⟨lw_p91, List.forall_mem_cons.mpr ⟨lw_p92, List.forall_mem_cons.mpr ⟨lw_p93, List.forall_mem_cons.mpr ⟨lw_p94, List.forall_mem_cons.mpr ⟨lw_p95, fun _ h => absurd h List.not_mem_nil⟩⟩⟩⟩⟩⟩⟩⟩⟩⟩⟩⟩⟩⟩⟩⟩
theorem lw_p96 : lw_okq (⟨"TwoInOneModel", "here", "([JII)I"⟩, 80) := ⟨⟨by decide +kernel, by decide +kernel⟩, List.mem_of_getElem? (i := 1626) (by decide +kernel), List.mem_of_getElem? (i := 1955) (by decide +kernel), List.mem_of_getElem? (i := 1956) (by decide +kernel)⟩
theorem lw_p97 : lw_okq (⟨"TwoInOneModel", "fresh", "(I)J"⟩, 80) := ⟨⟨by decide +kernel, by decide +kernel⟩, List.mem_of_getElem? (i := 1626) (by decide +kernel), List.mem_of_getElem? (i := 1959) (by decide +kernel), List.mem_of_getElem? (i := 1960) (by decide +kernel)⟩
theorem lw_p98 : lw_okq (⟨"TwoInOneModel", "after", "(JII)I"⟩, 80) := ⟨⟨by decide +kernel, by decide +kernel⟩, List.mem_of_getElem? (i := 1626) (by decide +kernel), List.mem_of_getElem? (i := 1963) (by decide +kernel), List.mem_of_getElem? (i := 1964) (by decide +kernel)⟩
theorem lw_p99 : lw_okq (⟨"TwoInOneModel", "must", "(Z)V"⟩, 80) := ⟨⟨by decide +kernel, by decide +kernel⟩, List.mem_of_getElem? (i := 1626) (by decide +kernel), List.mem_of_getElem? (i := 1967) (by decide +kernel), List.mem_of_getElem? (i := 1968) (by decide +kernel)⟩
theorem lw_p100 : lw_okq (⟨"TwoInOneModel", "numeral", "(II)I"⟩, 80) := ⟨⟨by decide +kernel, by decide +kernel⟩, List.mem_of_getElem? (i := 1626) (by decide +kernel), List.mem_of_getElem? (i := 1971) (by decide +kernel), List.mem_of_getElem? (i := 1972) (by decide +kernel)⟩
theorem lw_p101 : lw_okq (⟨"TwoInOneModel", "readLike", "()V"⟩, 80) := ⟨⟨by decide +kernel, by decide +kernel⟩, List.mem_of_getElem? (i := 1626) (by decide +kernel), List.mem_of_getElem? (i := 1975) (by decide +kernel), List.mem_of_getElem? (i := 1976) (by decide +kernel)⟩
theorem lw_p102 : lw_okq (⟨"TwoInOneModel", "known", "()I"⟩, 80) := ⟨⟨by decide +kernel, by decide +kernel⟩, List.mem_of_getElem? (i := 1626) (by decide +kernel), List.mem_of_getElem? (i := 1979) (by decide +kernel), List.mem_of_getElem? (i := 1980) (by decide +kernel)⟩
theorem lw_p103 : lw_okq (⟨"TwoInOneModel", "readPerson", "()V"⟩, 80) := ⟨⟨by decide +kernel, by decide +kernel⟩, List.mem_of_getElem? (i := 1626) (by decide +kernel), List.mem_of_getElem? (i := 1983) (by decide +kernel), List.mem_of_getElem? (i := 1984) (by decide +kernel)⟩
theorem lw_p104 : lw_okq (⟨"TwoInOneModel", "readDeed", "()V"⟩, 80) := ⟨⟨by decide +kernel, by decide +kernel⟩, List.mem_of_getElem? (i := 1626) (by decide +kernel), List.mem_of_getElem? (i := 1987) (by decide +kernel), List.mem_of_getElem? (i := 1988) (by decide +kernel)⟩
theorem lw_p105 : lw_okq (⟨"TwoInOneModel", "readRule", "(I)V"⟩, 80) := ⟨⟨by decide +kernel, by decide +kernel⟩, List.mem_of_getElem? (i := 1626) (by decide +kernel), List.mem_of_getElem? (i := 1991) (by decide +kernel), List.mem_of_getElem? (i := 1992) (by decide +kernel)⟩
theorem lw_p106 : lw_okq (⟨"TwoInOneModel", "e", "()V"⟩, 80) := ⟨⟨by decide +kernel, by decide +kernel⟩, List.mem_of_getElem? (i := 1626) (by decide +kernel), List.mem_of_getElem? (i := 1995) (by decide +kernel), List.mem_of_getElem? (i := 1996) (by decide +kernel)⟩
theorem lw_p107 : lw_okq (⟨"TwoInOneModel", "pushE", "(II)V"⟩, 80) := ⟨⟨by decide +kernel, by decide +kernel⟩, List.mem_of_getElem? (i := 1626) (by decide +kernel), List.mem_of_getElem? (i := 1999) (by decide +kernel), List.mem_of_getElem? (i := 2000) (by decide +kernel)⟩
theorem lw_p108 : lw_okq (⟨"TwoInOneModel", "unit", "()Z"⟩, 80) := ⟨⟨by decide +kernel, by decide +kernel⟩, List.mem_of_getElem? (i := 1626) (by decide +kernel), List.mem_of_getElem? (i := 2003) (by decide +kernel), List.mem_of_getElem? (i := 2004) (by decide +kernel)⟩
theorem lw_p109 : lw_okq (⟨"TwoInOneModel", "isSignHere", "(I)Z"⟩, 80) := ⟨⟨by decide +kernel, by decide +kernel⟩, List.mem_of_getElem? (i := 1626) (by decide +kernel), List.mem_of_getElem? (i := 2007) (by decide +kernel), List.mem_of_getElem? (i := 2008) (by decide +kernel)⟩
theorem lw_p110 : lw_okq (⟨"TwoInOneModel", "wordHere", "()I"⟩, 80) := ⟨⟨by decide +kernel, by decide +kernel⟩, List.mem_of_getElem? (i := 1626) (by decide +kernel), List.mem_of_getElem? (i := 2011) (by decide +kernel), List.mem_of_getElem? (i := 2012) (by decide +kernel)⟩
theorem lw_p111 : lw_okq (⟨"TwoInOneModel", "emit", "(II)V"⟩, 80) := ⟨⟨by decide +kernel, by decide +kernel⟩, List.mem_of_getElem? (i := 1626) (by decide +kernel), List.mem_of_getElem? (i := 2015) (by decide +kernel), List.mem_of_getElem? (i := 2016) (by decide +kernel)⟩
def lw_privs_7 : List (MethodName × Nat) := [(⟨"TwoInOneModel", "here", "([JII)I"⟩, 80), (⟨"TwoInOneModel", "fresh", "(I)J"⟩, 80), (⟨"TwoInOneModel", "after", "(JII)I"⟩, 80), (⟨"TwoInOneModel", "must", "(Z)V"⟩, 80), (⟨"TwoInOneModel", "numeral", "(II)I"⟩, 80), (⟨"TwoInOneModel", "readLike", "()V"⟩, 80), (⟨"TwoInOneModel", "known", "()I"⟩, 80), (⟨"TwoInOneModel", "readPerson", "()V"⟩, 80), (⟨"TwoInOneModel", "readDeed", "()V"⟩, 80), (⟨"TwoInOneModel", "readRule", "(I)V"⟩, 80), (⟨"TwoInOneModel", "e", "()V"⟩, 80), (⟨"TwoInOneModel", "pushE", "(II)V"⟩, 80), (⟨"TwoInOneModel", "unit", "()Z"⟩, 80), (⟨"TwoInOneModel", "isSignHere", "(I)Z"⟩, 80), (⟨"TwoInOneModel", "wordHere", "()I"⟩, 80), (⟨"TwoInOneModel", "emit", "(II)V"⟩, 80)]
theorem lw_r7 : ∀ q ∈ lw_privs_7, lw_okq q := List.forall_mem_cons.mpr ⟨lw_p96, List.forall_mem_cons.mpr ⟨lw_p97, List.forall_mem_cons.mpr ⟨lw_p98, List.forall_mem_cons.mpr ⟨lw_p99, List.forall_mem_cons.mpr ⟨lw_p100, List.forall_mem_cons.mpr ⟨lw_p101, List.forall_mem_cons.mpr ⟨lw_p102, List.forall_mem_cons.mpr ⟨lw_p103, List.forall_mem_cons.mpr ⟨lw_p104, List.forall_mem_cons.mpr ⟨lw_p105, List.forall_mem_cons.mpr ⟨lw_p106, List.forall_mem_cons.mpr ⟨lw_p107, List.forall_mem_cons.mpr ⟨lw_p108, List.forall_mem_cons.mpr ⟨lw_p109, List.forall_mem_cons.mpr ⟨lw_p110, List.forall_mem_cons.mpr ⟨lw_p111, fun _ h => absurd h List.not_mem_nil⟩⟩⟩⟩⟩⟩⟩⟩⟩⟩⟩⟩⟩⟩⟩⟩
theorem lw_p112 : lw_okq (⟨"TwoInOneModel", "behindUnit", "()Z"⟩, 80) := ⟨⟨by decide +kernel, by decide +kernel⟩, List.mem_of_getElem? (i := 1626) (by decide +kernel), List.mem_of_getElem? (i := 2019) (by decide +kernel), List.mem_of_getElem? (i := 2020) (by decide +kernel)⟩
theorem lw_p113 : lw_okq (⟨"TwoInOneModel", "rankHere", "()I"⟩, 80) := ⟨⟨by decide +kernel, by decide +kernel⟩, List.mem_of_getElem? (i := 1626) (by decide +kernel), List.mem_of_getElem? (i := 2023) (by decide +kernel), List.mem_of_getElem? (i := 2024) (by decide +kernel)⟩
theorem lw_p114 : lw_okq (⟨"TwoInOneModel", "isCompared", "()Z"⟩, 80) := ⟨⟨by decide +kernel, by decide +kernel⟩, List.mem_of_getElem? (i := 1626) (by decide +kernel), List.mem_of_getElem? (i := 2027) (by decide +kernel), List.mem_of_getElem? (i := 2028) (by decide +kernel)⟩
theorem lw_p115 : lw_okq (⟨"TwoInOneModel", "readFavour", "()V"⟩, 80) := ⟨⟨by decide +kernel, by decide +kernel⟩, List.mem_of_getElem? (i := 1626) (by decide +kernel), List.mem_of_getElem? (i := 2031) (by decide +kernel), List.mem_of_getElem? (i := 2032) (by decide +kernel)⟩
theorem lw_p116 : lw_okq (⟨"TwoInOneModel", "isHalf", "(I)Z"⟩, 80) := ⟨⟨by decide +kernel, by decide +kernel⟩, List.mem_of_getElem? (i := 1626) (by decide +kernel), List.mem_of_getElem? (i := 2043) (by decide +kernel), List.mem_of_getElem? (i := 2044) (by decide +kernel)⟩
theorem lw_p117 : lw_okq (⟨"TwoInOneModel", "isAlive", "(I)Z"⟩, 80) := ⟨⟨by decide +kernel, by decide +kernel⟩, List.mem_of_getElem? (i := 1626) (by decide +kernel), List.mem_of_getElem? (i := 2050) (by decide +kernel), List.mem_of_getElem? (i := 2051) (by decide +kernel)⟩
theorem lw_p118 : lw_okq (⟨"TwoInOneModel", "likeOf", "(II)I"⟩, 80) := ⟨⟨by decide +kernel, by decide +kernel⟩, List.mem_of_getElem? (i := 1626) (by decide +kernel), List.mem_of_getElem? (i := 2058) (by decide +kernel), List.mem_of_getElem? (i := 2059) (by decide +kernel)⟩
theorem lw_p119 : lw_okq (⟨"TwoInOneModel", "isPerson", "(I)Z"⟩, 80) := ⟨⟨by decide +kernel, by decide +kernel⟩, List.mem_of_getElem? (i := 1626) (by decide +kernel), List.mem_of_getElem? (i := 2066) (by decide +kernel), List.mem_of_getElem? (i := 2067) (by decide +kernel)⟩
theorem lw_p120 : lw_okq (⟨"TwoInOneModel", "turnOf", "(I)I"⟩, 80) := ⟨⟨by decide +kernel, by decide +kernel⟩, List.mem_of_getElem? (i := 1626) (by decide +kernel), List.mem_of_getElem? (i := 2070) (by decide +kernel), List.mem_of_getElem? (i := 2071) (by decide +kernel)⟩
theorem lw_p121 : lw_okq (⟨"TwoInOneModel", "whoIs", "(II)I"⟩, 80) := ⟨⟨by decide +kernel, by decide +kernel⟩, List.mem_of_getElem? (i := 1626) (by decide +kernel), List.mem_of_getElem? (i := 2078) (by decide +kernel), List.mem_of_getElem? (i := 2079) (by decide +kernel)⟩
theorem lw_p122 : lw_okq (⟨"TwoInOneModel", "halfAt", "(II)I"⟩, 80) := ⟨⟨by decide +kernel, by decide +kernel⟩, List.mem_of_getElem? (i := 1626) (by decide +kernel), List.mem_of_getElem? (i := 2082) (by decide +kernel), List.mem_of_getElem? (i := 2083) (by decide +kernel)⟩
theorem lw_p123 : lw_okq (⟨"TwoInOneModel", "caresOf", "(I)I"⟩, 80) := ⟨⟨by decide +kernel, by decide +kernel⟩, List.mem_of_getElem? (i := 1626) (by decide +kernel), List.mem_of_getElem? (i := 2090) (by decide +kernel), List.mem_of_getElem? (i := 2091) (by decide +kernel)⟩
theorem lw_p124 : lw_okq (⟨"TwoInOneModel", "chosen", "(IIII)I"⟩, 80) := ⟨⟨by decide +kernel, by decide +kernel⟩, List.mem_of_getElem? (i := 1626) (by decide +kernel), List.mem_of_getElem? (i := 2094) (by decide +kernel), List.mem_of_getElem? (i := 2095) (by decide +kernel)⟩
theorem lw_p125 : lw_okq (⟨"TwoInOneModel", "deedMany", "()I"⟩, 80) := ⟨⟨by decide +kernel, by decide +kernel⟩, List.mem_of_getElem? (i := 1626) (by decide +kernel), List.mem_of_getElem? (i := 2098) (by decide +kernel), List.mem_of_getElem? (i := 2099) (by decide +kernel)⟩
theorem lw_p126 : lw_okq (⟨"TwoInOneModel", "joyOf", "(IIII)I"⟩, 80) := ⟨⟨by decide +kernel, by decide +kernel⟩, List.mem_of_getElem? (i := 1626) (by decide +kernel), List.mem_of_getElem? (i := 2102) (by decide +kernel), List.mem_of_getElem? (i := 2103) (by decide +kernel)⟩
theorem lw_p127 : lw_okq (⟨"TwoInOneModel", "askOf", "(III)V"⟩, 80) := ⟨⟨by decide +kernel, by decide +kernel⟩, List.mem_of_getElem? (i := 1626) (by decide +kernel), List.mem_of_getElem? (i := 2106) (by decide +kernel), List.mem_of_getElem? (i := 2107) (by decide +kernel)⟩
def lw_privs_8 : List (MethodName × Nat) := [(⟨"TwoInOneModel", "behindUnit", "()Z"⟩, 80), (⟨"TwoInOneModel", "rankHere", "()I"⟩, 80), (⟨"TwoInOneModel", "isCompared", "()Z"⟩, 80), (⟨"TwoInOneModel", "readFavour", "()V"⟩, 80), (⟨"TwoInOneModel", "isHalf", "(I)Z"⟩, 80), (⟨"TwoInOneModel", "isAlive", "(I)Z"⟩, 80), (⟨"TwoInOneModel", "likeOf", "(II)I"⟩, 80), (⟨"TwoInOneModel", "isPerson", "(I)Z"⟩, 80), (⟨"TwoInOneModel", "turnOf", "(I)I"⟩, 80), (⟨"TwoInOneModel", "whoIs", "(II)I"⟩, 80), (⟨"TwoInOneModel", "halfAt", "(II)I"⟩, 80), (⟨"TwoInOneModel", "caresOf", "(I)I"⟩, 80), (⟨"TwoInOneModel", "chosen", "(IIII)I"⟩, 80), (⟨"TwoInOneModel", "deedMany", "()I"⟩, 80), (⟨"TwoInOneModel", "joyOf", "(IIII)I"⟩, 80), (⟨"TwoInOneModel", "askOf", "(III)V"⟩, 80)]
theorem lw_r8 : ∀ q ∈ lw_privs_8, lw_okq q := List.forall_mem_cons.mpr ⟨lw_p112, List.forall_mem_cons.mpr ⟨lw_p113, List.forall_mem_cons.mpr ⟨lw_p114, List.forall_mem_cons.mpr ⟨lw_p115, List.forall_mem_cons.mpr ⟨lw_p116, List.forall_mem_cons.mpr ⟨lw_p117, List.forall_mem_cons.mpr ⟨lw_p118, List.forall_mem_cons.mpr ⟨lw_p119, List.forall_mem_cons.mpr ⟨lw_p120, List.forall_mem_cons.mpr ⟨lw_p121, List.forall_mem_cons.mpr ⟨lw_p122, List.forall_mem_cons.mpr ⟨lw_p123, List.forall_mem_cons.mpr ⟨lw_p124, List.forall_mem_cons.mpr ⟨lw_p125, List.forall_mem_cons.mpr ⟨lw_p126, List.forall_mem_cons.mpr ⟨lw_p127, fun _ h => absurd h List.not_mem_nil⟩⟩⟩⟩⟩⟩⟩⟩⟩⟩⟩⟩⟩⟩⟩⟩
theorem lw_p128 : lw_okq (⟨"TwoInOneModel", "comes", "(I)I"⟩, 80) := ⟨⟨by decide +kernel, by decide +kernel⟩, List.mem_of_getElem? (i := 1626) (by decide +kernel), List.mem_of_getElem? (i := 2110) (by decide +kernel), List.mem_of_getElem? (i := 2111) (by decide +kernel)⟩
theorem lw_p129 : lw_okq (⟨"TwoInOneModel", "asked", "(II)I"⟩, 80) := ⟨⟨by decide +kernel, by decide +kernel⟩, List.mem_of_getElem? (i := 1626) (by decide +kernel), List.mem_of_getElem? (i := 2114) (by decide +kernel), List.mem_of_getElem? (i := 2115) (by decide +kernel)⟩
theorem lw_p130 : lw_okq (⟨"TwoInOneModel", "loadBehind", "(IIII)I"⟩, 80) := ⟨⟨by decide +kernel, by decide +kernel⟩, List.mem_of_getElem? (i := 1626) (by decide +kernel), List.mem_of_getElem? (i := 2121) (by decide +kernel), List.mem_of_getElem? (i := 2122) (by decide +kernel)⟩
theorem lw_p131 : lw_okq (⟨"TwoInOneModel", "greedyJoy", "(IIIII)I"⟩, 80) := ⟨⟨by decide +kernel, by decide +kernel⟩, List.mem_of_getElem? (i := 1626) (by decide +kernel), List.mem_of_getElem? (i := 2125) (by decide +kernel), List.mem_of_getElem? (i := 2126) (by decide +kernel)⟩
theorem lw_p132 : lw_okq (⟨"TwoInOneModel", "greedy", "(III)I"⟩, 80) := ⟨⟨by decide +kernel, by decide +kernel⟩, List.mem_of_getElem? (i := 1626) (by decide +kernel), List.mem_of_getElem? (i := 2129) (by decide +kernel), List.mem_of_getElem? (i := 2130) (by decide +kernel)⟩
theorem lw_p133 : lw_okq (⟨"TwoInOneModel", "isDeed", "(I)Z"⟩, 80) := ⟨⟨by decide +kernel, by decide +kernel⟩, List.mem_of_getElem? (i := 1626) (by decide +kernel), List.mem_of_getElem? (i := 2137) (by decide +kernel), List.mem_of_getElem? (i := 2138) (by decide +kernel)⟩
theorem lw_p134 : lw_okq (⟨"TwoInOneModel", "keepAct", "()V"⟩, 80) := ⟨⟨by decide +kernel, by decide +kernel⟩, List.mem_of_getElem? (i := 1626) (by decide +kernel), List.mem_of_getElem? (i := 2157) (by decide +kernel), List.mem_of_getElem? (i := 2158) (by decide +kernel)⟩
theorem lw_p135 : lw_okq (⟨"TwoInOneModel", "ownChoice", "(I)I"⟩, 80) := ⟨⟨by decide +kernel, by decide +kernel⟩, List.mem_of_getElem? (i := 1626) (by decide +kernel), List.mem_of_getElem? (i := 2161) (by decide +kernel), List.mem_of_getElem? (i := 2162) (by decide +kernel)⟩
theorem lw_p136 : lw_okq (⟨"TwoInOneModel", "does", "(II)I"⟩, 80) := ⟨⟨by decide +kernel, by decide +kernel⟩, List.mem_of_getElem? (i := 1626) (by decide +kernel), List.mem_of_getElem? (i := 2165) (by decide +kernel), List.mem_of_getElem? (i := 2166) (by decide +kernel)⟩
theorem lw_p137 : lw_okq (⟨"TwoInOneModel", "exchangeAct", "()V"⟩, 80) := ⟨⟨by decide +kernel, by decide +kernel⟩, List.mem_of_getElem? (i := 1626) (by decide +kernel), List.mem_of_getElem? (i := 2189) (by decide +kernel), List.mem_of_getElem? (i := 2190) (by decide +kernel)⟩
theorem lw_p138 : lw_okq (⟨"TwoInOneModel", "isOf", "(II)Z"⟩, 80) := ⟨⟨by decide +kernel, by decide +kernel⟩, List.mem_of_getElem? (i := 1626) (by decide +kernel), List.mem_of_getElem? (i := 2205) (by decide +kernel), List.mem_of_getElem? (i := 2206) (by decide +kernel)⟩
theorem lw_p139 : lw_okq (⟨"TwoInOneModel", "layGame", "(IIZ)V"⟩, 80) := ⟨⟨by decide +kernel, by decide +kernel⟩, List.mem_of_getElem? (i := 1626) (by decide +kernel), List.mem_of_getElem? (i := 2212) (by decide +kernel), List.mem_of_getElem? (i := 2213) (by decide +kernel)⟩
theorem lw_p140 : lw_okq (⟨"TwoInOneModel", "layPlace", "(IIIZ)V"⟩, 80) := ⟨⟨by decide +kernel, by decide +kernel⟩, List.mem_of_getElem? (i := 1626) (by decide +kernel), List.mem_of_getElem? (i := 2216) (by decide +kernel), List.mem_of_getElem? (i := 2217) (by decide +kernel)⟩
theorem lw_p141 : lw_okq (⟨"TwoInOneModel", "placeOf", "(II)I"⟩, 80) := ⟨⟨by decide +kernel, by decide +kernel⟩, List.mem_of_getElem? (i := 1626) (by decide +kernel), List.mem_of_getElem? (i := 2220) (by decide +kernel), List.mem_of_getElem? (i := 2221) (by decide +kernel)⟩
theorem lw_p142 : lw_okq (⟨"TwoInOneModel", "wouldBring", "(IIIIIZ)I"⟩, 80) := ⟨⟨by decide +kernel, by decide +kernel⟩, List.mem_of_getElem? (i := 1626) (by decide +kernel), List.mem_of_getElem? (i := 2224) (by decide +kernel), List.mem_of_getElem? (i := 2225) (by decide +kernel)⟩
theorem lw_p143 : lw_okq (⟨"TwoInOneModel", "layRow", "(II)V"⟩, 80) := ⟨⟨by decide +kernel, by decide +kernel⟩, List.mem_of_getElem? (i := 1626) (by decide +kernel), List.mem_of_getElem? (i := 2228) (by decide +kernel), List.mem_of_getElem? (i := 2229) (by decide +kernel)⟩
def lw_privs_9 : List (MethodName × Nat) := [(⟨"TwoInOneModel", "comes", "(I)I"⟩, 80), (⟨"TwoInOneModel", "asked", "(II)I"⟩, 80), (⟨"TwoInOneModel", "loadBehind", "(IIII)I"⟩, 80), (⟨"TwoInOneModel", "greedyJoy", "(IIIII)I"⟩, 80), (⟨"TwoInOneModel", "greedy", "(III)I"⟩, 80), (⟨"TwoInOneModel", "isDeed", "(I)Z"⟩, 80), (⟨"TwoInOneModel", "keepAct", "()V"⟩, 80), (⟨"TwoInOneModel", "ownChoice", "(I)I"⟩, 80), (⟨"TwoInOneModel", "does", "(II)I"⟩, 80), (⟨"TwoInOneModel", "exchangeAct", "()V"⟩, 80), (⟨"TwoInOneModel", "isOf", "(II)Z"⟩, 80), (⟨"TwoInOneModel", "layGame", "(IIZ)V"⟩, 80), (⟨"TwoInOneModel", "layPlace", "(IIIZ)V"⟩, 80), (⟨"TwoInOneModel", "placeOf", "(II)I"⟩, 80), (⟨"TwoInOneModel", "wouldBring", "(IIIIIZ)I"⟩, 80), (⟨"TwoInOneModel", "layRow", "(II)V"⟩, 80)]
theorem lw_r9 : ∀ q ∈ lw_privs_9, lw_okq q := List.forall_mem_cons.mpr ⟨lw_p128, List.forall_mem_cons.mpr ⟨lw_p129, List.forall_mem_cons.mpr ⟨lw_p130, List.forall_mem_cons.mpr ⟨lw_p131, List.forall_mem_cons.mpr ⟨lw_p132, List.forall_mem_cons.mpr ⟨lw_p133, List.forall_mem_cons.mpr ⟨lw_p134, List.forall_mem_cons.mpr ⟨lw_p135, List.forall_mem_cons.mpr ⟨lw_p136, List.forall_mem_cons.mpr ⟨lw_p137, List.forall_mem_cons.mpr ⟨lw_p138, List.forall_mem_cons.mpr ⟨lw_p139, List.forall_mem_cons.mpr ⟨lw_p140, List.forall_mem_cons.mpr ⟨lw_p141, List.forall_mem_cons.mpr ⟨lw_p142, List.forall_mem_cons.mpr ⟨lw_p143, fun _ h => absurd h List.not_mem_nil⟩⟩⟩⟩⟩⟩⟩⟩⟩⟩⟩⟩⟩⟩⟩⟩
theorem lw_p144 : lw_okq (⟨"TwoInOneModel", "canBargain", "(II)Z"⟩, 80) := ⟨⟨by decide +kernel, by decide +kernel⟩, List.mem_of_getElem? (i := 1626) (by decide +kernel), List.mem_of_getElem? (i := 2248) (by decide +kernel), List.mem_of_getElem? (i := 2249) (by decide +kernel)⟩
theorem lw_p145 : lw_okq (⟨"TwoInOneModel", "doesHold", "(IIII)Z"⟩, 80) := ⟨⟨by decide +kernel, by decide +kernel⟩, List.mem_of_getElem? (i := 1626) (by decide +kernel), List.mem_of_getElem? (i := 2252) (by decide +kernel), List.mem_of_getElem? (i := 2253) (by decide +kernel)⟩
theorem lw_p146 : lw_okq (⟨"TwoInOneModel", "kept", "(IIIII)I"⟩, 80) := ⟨⟨by decide +kernel, by decide +kernel⟩, List.mem_of_getElem? (i := 1626) (by decide +kernel), List.mem_of_getElem? (i := 2256) (by decide +kernel), List.mem_of_getElem? (i := 2257) (by decide +kernel)⟩
theorem lw_p147 : lw_okq (⟨"TwoInOneModel", "areChosen", "(III)Z"⟩, 80) := ⟨⟨by decide +kernel, by decide +kernel⟩, List.mem_of_getElem? (i := 1626) (by decide +kernel), List.mem_of_getElem? (i := 2264) (by decide +kernel), List.mem_of_getElem? (i := 2265) (by decide +kernel)⟩
theorem lw_p148 : lw_okq (⟨"TwoInOneModel", "goThrough", "(Z)V"⟩, 80) := ⟨⟨by decide +kernel, by decide +kernel⟩, List.mem_of_getElem? (i := 1626) (by decide +kernel), List.mem_of_getElem? (i := 2276) (by decide +kernel), List.mem_of_getElem? (i := 2277) (by decide +kernel)⟩
theorem lw_p149 : lw_okq (⟨"TwoInOneModel", "firstFree", "()I"⟩, 80) := ⟨⟨by decide +kernel, by decide +kernel⟩, List.mem_of_getElem? (i := 1626) (by decide +kernel), List.mem_of_getElem? (i := 2283) (by decide +kernel), List.mem_of_getElem? (i := 2284) (by decide +kernel)⟩
theorem lw_p150 : lw_okq (⟨"TwoInOneModel", "canHave", "(IIZ)Z"⟩, 80) := ⟨⟨by decide +kernel, by decide +kernel⟩, List.mem_of_getElem? (i := 1626) (by decide +kernel), List.mem_of_getElem? (i := 2287) (by decide +kernel), List.mem_of_getElem? (i := 2288) (by decide +kernel)⟩
theorem lw_p151 : lw_okq (⟨"TwoInOneModel", "takes", "(IZ)I"⟩, 80) := ⟨⟨by decide +kernel, by decide +kernel⟩, List.mem_of_getElem? (i := 1626) (by decide +kernel), List.mem_of_getElem? (i := 2291) (by decide +kernel), List.mem_of_getElem? (i := 2292) (by decide +kernel)⟩
theorem lw_p152 : lw_okq (⟨"TwoInOneModel", "isFast", "()Z"⟩, 80) := ⟨⟨by decide +kernel, by decide +kernel⟩, List.mem_of_getElem? (i := 1626) (by decide +kernel), List.mem_of_getElem? (i := 2295) (by decide +kernel), List.mem_of_getElem? (i := 2296) (by decide +kernel)⟩
theorem lw_p153 : lw_okq (⟨"TwoInOneModel", "liking", "(I)I"⟩, 80) := ⟨⟨by decide +kernel, by decide +kernel⟩, List.mem_of_getElem? (i := 1626) (by decide +kernel), List.mem_of_getElem? (i := 2299) (by decide +kernel), List.mem_of_getElem? (i := 2300) (by decide +kernel)⟩
theorem lw_p154 : lw_okq (⟨"TwoInOneModel", "likedInAll", "()I"⟩, 80) := ⟨⟨by decide +kernel, by decide +kernel⟩, List.mem_of_getElem? (i := 1626) (by decide +kernel), List.mem_of_getElem? (i := 2303) (by decide +kernel), List.mem_of_getElem? (i := 2304) (by decide +kernel)⟩
theorem lw_p155 : lw_okq (⟨"TwoInOneModel", "electedOn", "(I)I"⟩, 80) := ⟨⟨by decide +kernel, by decide +kernel⟩, List.mem_of_getElem? (i := 1626) (by decide +kernel), List.mem_of_getElem? (i := 2315) (by decide +kernel), List.mem_of_getElem? (i := 2316) (by decide +kernel)⟩
theorem lw_p156 : lw_okq (⟨"TwoInOneModel", "clearVotes", "()V"⟩, 80) := ⟨⟨by decide +kernel, by decide +kernel⟩, List.mem_of_getElem? (i := 1626) (by decide +kernel), List.mem_of_getElem? (i := 2319) (by decide +kernel), List.mem_of_getElem? (i := 2320) (by decide +kernel)⟩
theorem lw_p157 : lw_okq (⟨"TwoInOneModel", "mostVotes", "()I"⟩, 80) := ⟨⟨by decide +kernel, by decide +kernel⟩, List.mem_of_getElem? (i := 1626) (by decide +kernel), List.mem_of_getElem? (i := 2323) (by decide +kernel), List.mem_of_getElem? (i := 2324) (by decide +kernel)⟩
theorem lw_p158 : lw_okq (⟨"TwoInOneModel", "add", "(III)I"⟩, 80) := ⟨⟨by decide +kernel, by decide +kernel⟩, List.mem_of_getElem? (i := 1626) (by decide +kernel), List.mem_of_getElem? (i := 2340) (by decide +kernel), List.mem_of_getElem? (i := 2341) (by decide +kernel)⟩
theorem lw_p159 : lw_okq (⟨"TwoInOneModel", "goAlibis", "(III)V"⟩, 80) := ⟨⟨by decide +kernel, by decide +kernel⟩, List.mem_of_getElem? (i := 1626) (by decide +kernel), List.mem_of_getElem? (i := 2361) (by decide +kernel), List.mem_of_getElem? (i := 2362) (by decide +kernel)⟩
def lw_privs_10 : List (MethodName × Nat) := [(⟨"TwoInOneModel", "canBargain", "(II)Z"⟩, 80), (⟨"TwoInOneModel", "doesHold", "(IIII)Z"⟩, 80), (⟨"TwoInOneModel", "kept", "(IIIII)I"⟩, 80), (⟨"TwoInOneModel", "areChosen", "(III)Z"⟩, 80), (⟨"TwoInOneModel", "goThrough", "(Z)V"⟩, 80), (⟨"TwoInOneModel", "firstFree", "()I"⟩, 80), (⟨"TwoInOneModel", "canHave", "(IIZ)Z"⟩, 80), (⟨"TwoInOneModel", "takes", "(IZ)I"⟩, 80), (⟨"TwoInOneModel", "isFast", "()Z"⟩, 80), (⟨"TwoInOneModel", "liking", "(I)I"⟩, 80), (⟨"TwoInOneModel", "likedInAll", "()I"⟩, 80), (⟨"TwoInOneModel", "electedOn", "(I)I"⟩, 80), (⟨"TwoInOneModel", "clearVotes", "()V"⟩, 80), (⟨"TwoInOneModel", "mostVotes", "()I"⟩, 80), (⟨"TwoInOneModel", "add", "(III)I"⟩, 80), (⟨"TwoInOneModel", "goAlibis", "(III)V"⟩, 80)]
theorem lw_r10 : ∀ q ∈ lw_privs_10, lw_okq q := List.forall_mem_cons.mpr ⟨lw_p144, List.forall_mem_cons.mpr ⟨lw_p145, List.forall_mem_cons.mpr ⟨lw_p146, List.forall_mem_cons.mpr ⟨lw_p147, List.forall_mem_cons.mpr ⟨lw_p148, List.forall_mem_cons.mpr ⟨lw_p149, List.forall_mem_cons.mpr ⟨lw_p150, List.forall_mem_cons.mpr ⟨lw_p151, List.forall_mem_cons.mpr ⟨lw_p152, List.forall_mem_cons.mpr ⟨lw_p153, List.forall_mem_cons.mpr ⟨lw_p154, List.forall_mem_cons.mpr ⟨lw_p155, List.forall_mem_cons.mpr ⟨lw_p156, List.forall_mem_cons.mpr ⟨lw_p157, List.forall_mem_cons.mpr ⟨lw_p158, List.forall_mem_cons.mpr ⟨lw_p159, fun _ h => absurd h List.not_mem_nil⟩⟩⟩⟩⟩⟩⟩⟩⟩⟩⟩⟩⟩⟩⟩⟩
theorem lw_p160 : lw_okq (⟨"TwoInOneModel", "takesAlibi", "(IIIIII)V"⟩, 80) := ⟨⟨by decide +kernel, by decide +kernel⟩, List.mem_of_getElem? (i := 1626) (by decide +kernel), List.mem_of_getElem? (i := 2365) (by decide +kernel), List.mem_of_getElem? (i := 2366) (by decide +kernel)⟩
theorem lw_p161 : lw_okq (⟨"TwoInOneModel", "layTrial", "(IIII)V"⟩, 80) := ⟨⟨by decide +kernel, by decide +kernel⟩, List.mem_of_getElem? (i := 1626) (by decide +kernel), List.mem_of_getElem? (i := 2369) (by decide +kernel), List.mem_of_getElem? (i := 2370) (by decide +kernel)⟩
theorem lw_p162 : lw_okq (⟨"TwoInOneModel", "isAlibi", "(II)Z"⟩, 80) := ⟨⟨by decide +kernel, by decide +kernel⟩, List.mem_of_getElem? (i := 1626) (by decide +kernel), List.mem_of_getElem? (i := 2373) (by decide +kernel), List.mem_of_getElem? (i := 2374) (by decide +kernel)⟩
theorem lw_p163 : lw_okq (⟨"TwoInOneModel", "counts", "(II)Z"⟩, 80) := ⟨⟨by decide +kernel, by decide +kernel⟩, List.mem_of_getElem? (i := 1626) (by decide +kernel), List.mem_of_getElem? (i := 2377) (by decide +kernel), List.mem_of_getElem? (i := 2378) (by decide +kernel)⟩
theorem lw_p164 : lw_okq (⟨"TwoInOneModel", "isStranger", "(II)Z"⟩, 80) := ⟨⟨by decide +kernel, by decide +kernel⟩, List.mem_of_getElem? (i := 1626) (by decide +kernel), List.mem_of_getElem? (i := 2389) (by decide +kernel), List.mem_of_getElem? (i := 2390) (by decide +kernel)⟩
theorem lw_p165 : lw_okq (⟨"TwoInOneModel", "skillsSeen", "(I)I"⟩, 80) := ⟨⟨by decide +kernel, by decide +kernel⟩, List.mem_of_getElem? (i := 1626) (by decide +kernel), List.mem_of_getElem? (i := 2393) (by decide +kernel), List.mem_of_getElem? (i := 2394) (by decide +kernel)⟩
def lw_privs_11 : List (MethodName × Nat) := [(⟨"TwoInOneModel", "takesAlibi", "(IIIIII)V"⟩, 80), (⟨"TwoInOneModel", "layTrial", "(IIII)V"⟩, 80), (⟨"TwoInOneModel", "isAlibi", "(II)Z"⟩, 80), (⟨"TwoInOneModel", "counts", "(II)Z"⟩, 80), (⟨"TwoInOneModel", "isStranger", "(II)Z"⟩, 80), (⟨"TwoInOneModel", "skillsSeen", "(I)I"⟩, 80)]
theorem lw_r11 : ∀ q ∈ lw_privs_11, lw_okq q := List.forall_mem_cons.mpr ⟨lw_p160, List.forall_mem_cons.mpr ⟨lw_p161, List.forall_mem_cons.mpr ⟨lw_p162, List.forall_mem_cons.mpr ⟨lw_p163, List.forall_mem_cons.mpr ⟨lw_p164, List.forall_mem_cons.mpr ⟨lw_p165, fun _ h => absurd h List.not_mem_nil⟩⟩⟩⟩⟩⟩
def lw_privs : List (MethodName × Nat) := lw_privs_1 ++ (lw_privs_2 ++ (lw_privs_3 ++ (lw_privs_4 ++ (lw_privs_5 ++ (lw_privs_6 ++ (lw_privs_7 ++ (lw_privs_8 ++ (lw_privs_9 ++ (lw_privs_10 ++ (lw_privs_11))))))))))
def lw_tbl : List Cond := k2_sels lw_privs ++ tables_1
theorem lw_privs_ok : ∀ q ∈ lw_privs, lw_okq q := by
  show ∀ q ∈ lw_privs_1 ++ (lw_privs_2 ++ (lw_privs_3 ++ (lw_privs_4 ++ (lw_privs_5 ++ (lw_privs_6 ++ (lw_privs_7 ++ (lw_privs_8 ++ (lw_privs_9 ++ (lw_privs_10 ++ (lw_privs_11)))))))))), lw_okq q
  exact List.forall_mem_append.mpr ⟨lw_r1, List.forall_mem_append.mpr ⟨lw_r2, List.forall_mem_append.mpr ⟨lw_r3, List.forall_mem_append.mpr ⟨lw_r4, List.forall_mem_append.mpr ⟨lw_r5, List.forall_mem_append.mpr ⟨lw_r6, List.forall_mem_append.mpr ⟨lw_r7, List.forall_mem_append.mpr ⟨lw_r8, List.forall_mem_append.mpr ⟨lw_r9, List.forall_mem_append.mpr ⟨lw_r10, lw_r11⟩⟩⟩⟩⟩⟩⟩⟩⟩⟩

def RX0 : String := "TwoInOne$Course"
def TX0 : u_T := fun k => match k with
  | 0 => ("TwoInOne$Course", "told", "LTwoInOne$Told;", true)
  | 1 => ("TwoInOne$Course", "now", "LTwoInOne$State;", true)
  | 2 => ("TwoInOne$Course", "stack", "[I", true)
  | 3 => ("TwoInOne$Course", "votes", "[I", true)
  | 4 => ("TwoInOne$Course", "day", "I", false)
  | 5 => ("TwoInOne$Course", "skill", "I", false)
  | 6 => ("TwoInOne$Course", "again", "I", false)
  | _ => ("TwoInOne$Course", "greatestJoy", "I", false)
def tyX0 : Nat → FieldType := fun k => match k with
  | 0 => .object "TwoInOne$Told"
  | 1 => .object "TwoInOne$State"
  | 2 => .array .int
  | 3 => .array .int
  | 4 => .int
  | 5 => .int
  | 6 => .int
  | _ => .int
abbrev wsX00 : List Cond := u_ws RX0 TX0 8
theorem nmX0 : ∀ a, a < 8 → ∀ b, b < 8 → a ≠ b → (TX0 a).2.1 ≠ (TX0 b).2.1 := by decide +kernel
theorem tyX0_ok : ∀ k, k < 8 → parseFieldDescriptor (TX0 k).2.2.1 = some (tyX0 k) := by decide +kernel

def RX1 : String := "TwoInOne$Game"
def TX1 : u_T := fun k => match k with
  | 0 => ("TwoInOne$Game", "told", "LTwoInOne$Told;", true)
  | 1 => ("TwoInOne$Game", "now", "LTwoInOne$State;", true)
  | 2 => ("TwoInOne$Game", "course", "LTwoInOne$Course;", true)
  | 3 => ("TwoInOne$Game", "choice", "[I", true)
  | 4 => ("TwoInOne$Game", "worth", "[I", true)
  | 5 => ("TwoInOne$Game", "most", "[J", true)
  | 6 => ("TwoInOne$Game", "least", "[J", true)
  | 7 => ("TwoInOne$Game", "bargain", "LTwoInOne$Row;", true)
  | 8 => ("TwoInOne$Game", "person", "I", false)
  | _ => ("TwoInOne$Game", "length", "I", false)
def tyX1 : Nat → FieldType := fun k => match k with
  | 0 => .object "TwoInOne$Told"
  | 1 => .object "TwoInOne$State"
  | 2 => .object "TwoInOne$Course"
  | 3 => .array .int
  | 4 => .array .int
  | 5 => .array .long
  | 6 => .array .long
  | 7 => .object "TwoInOne$Row"
  | 8 => .int
  | _ => .int
abbrev wsX10 : List Cond := u_ws RX1 TX1 10
theorem nmX1 : ∀ a, a < 10 → ∀ b, b < 10 → a ≠ b → (TX1 a).2.1 ≠ (TX1 b).2.1 := by decide +kernel
theorem tyX1_ok : ∀ k, k < 10 → parseFieldDescriptor (TX1 k).2.2.1 = some (tyX1 k) := by decide +kernel

def RX2 : String := "TwoInOne$History"
def TX2 : u_T := fun k => match k with
  | 0 => ("TwoInOne$History", "kept", "[LTwoInOne$State;", true)
  | 1 => ("TwoInOne$History", "boxes", "[LTwoInOne$State;", true)
  | 2 => ("TwoInOne$History", "filled", "[Z", true)
  | 3 => ("TwoInOne$History", "first", "I", false)
  | 4 => ("TwoInOne$History", "past", "I", false)
  | _ => ("TwoInOne$History", "future", "I", false)
def tyX2 : Nat → FieldType := fun k => match k with
  | 0 => .array (.object "TwoInOne$State")
  | 1 => .array (.object "TwoInOne$State")
  | 2 => .array .boolean
  | 3 => .int
  | 4 => .int
  | _ => .int
abbrev wsX20 : List Cond := u_ws RX2 TX2 6
theorem nmX2 : ∀ a, a < 6 → ∀ b, b < 6 → a ≠ b → (TX2 a).2.1 ≠ (TX2 b).2.1 := by decide +kernel
theorem tyX2_ok : ∀ k, k < 6 → parseFieldDescriptor (TX2 k).2.2.1 = some (tyX2 k) := by decide +kernel

def RX3 : String := "TwoInOne$Pairings"
def TX3 : u_T := fun k => match k with
  | 0 => ("TwoInOne$Pairings", "told", "LTwoInOne$Told;", true)
  | 1 => ("TwoInOne$Pairings", "now", "LTwoInOne$State;", true)
  | 2 => ("TwoInOne$Pairings", "other", "[I", true)
  | 3 => ("TwoInOne$Pairings", "most", "[I", true)
  | 4 => ("TwoInOne$Pairings", "firstFast", "[I", true)
  | 5 => ("TwoInOne$Pairings", "found", "Z", false)
  | 6 => ("TwoInOne$Pairings", "mostLiking", "I", false)
  | 7 => ("TwoInOne$Pairings", "firstFastLiking", "I", false)
  | _ => ("TwoInOne$Pairings", "fastOnes", "I", false)
def tyX3 : Nat → FieldType := fun k => match k with
  | 0 => .object "TwoInOne$Told"
  | 1 => .object "TwoInOne$State"
  | 2 => .array .int
  | 3 => .array .int
  | 4 => .array .int
  | 5 => .boolean
  | 6 => .int
  | 7 => .int
  | _ => .int
abbrev wsX30 : List Cond := u_ws RX3 TX3 9
theorem nmX3 : ∀ a, a < 9 → ∀ b, b < 9 → a ≠ b → (TX3 a).2.1 ≠ (TX3 b).2.1 := by decide +kernel
theorem tyX3_ok : ∀ k, k < 9 → parseFieldDescriptor (TX3 k).2.2.1 = some (tyX3 k) := by decide +kernel

def RX4 : String := "TwoInOne$Reader"
def TX4 : u_T := fun k => match k with
  | 0 => ("TwoInOne$Reader", "draft", "LTwoInOne$Told;", true)
  | 1 => ("TwoInOne$Reader", "halfNames", "[J", true)
  | 2 => ("TwoInOne$Reader", "personNames", "[J", true)
  | 3 => ("TwoInOne$Reader", "deedNames", "[J", true)
  | 4 => ("TwoInOne$Reader", "memberAt", "[I", true)
  | 5 => ("TwoInOne$Reader", "text", "[I", true)
  | 6 => ("TwoInOne$Reader", "length", "I", false)
  | 7 => ("TwoInOne$Reader", "fault", "I", false)
  | 8 => ("TwoInOne$Reader", "place", "I", false)
  | 9 => ("TwoInOne$Reader", "start", "I", false)
  | 10 => ("TwoInOne$Reader", "token", "I", false)
  | 11 => ("TwoInOne$Reader", "name", "J", false)
  | 12 => ("TwoInOne$Reader", "number", "I", false)
  | 13 => ("TwoInOne$Reader", "behind", "I", false)
  | 14 => ("TwoInOne$Reader", "taken", "I", false)
  | 15 => ("TwoInOne$Reader", "unitsOfOne", "I", false)
  | _ => ("TwoInOne$Reader", "codeLength", "I", false)
def tyX4 : Nat → FieldType := fun k => match k with
  | 0 => .object "TwoInOne$Told"
  | 1 => .array .long
  | 2 => .array .long
  | 3 => .array .long
  | 4 => .array .int
  | 5 => .array .int
  | 6 => .int
  | 7 => .int
  | 8 => .int
  | 9 => .int
  | 10 => .int
  | 11 => .long
  | 12 => .int
  | 13 => .int
  | 14 => .int
  | 15 => .int
  | _ => .int
abbrev wsX40 : List Cond := u_ws RX4 TX4 17
theorem nmX4 : ∀ a, a < 17 → ∀ b, b < 17 → a ≠ b → (TX4 a).2.1 ≠ (TX4 b).2.1 := by decide +kernel
theorem tyX4_ok : ∀ k, k < 17 → parseFieldDescriptor (TX4 k).2.2.1 = some (tyX4 k) := by decide +kernel

def RX5 : String := "TwoInOne$Row"
def TX5 : u_T := fun k => match k with
  | 0 => ("TwoInOne$Row", "cells", "[I", true)
  | _ => ("TwoInOne$Row", "size", "I", false)
def tyX5 : Nat → FieldType := fun k => match k with
  | 0 => .array .int
  | _ => .int
abbrev wsX50 : List Cond := u_ws RX5 TX5 2
theorem nmX5 : ∀ a, a < 2 → ∀ b, b < 2 → a ≠ b → (TX5 a).2.1 ≠ (TX5 b).2.1 := by decide +kernel
theorem tyX5_ok : ∀ k, k < 2 → parseFieldDescriptor (TX5 k).2.2.1 = some (tyX5 k) := by decide +kernel

def RX6 : String := "TwoInOne$Search"
def TX6 : u_T := fun k => match k with
  | 0 => ("TwoInOne$Search", "game", "LTwoInOne$Game;", true)
  | 1 => ("TwoInOne$Search", "sums", "LTwoInOne$Sums;", true)
  | 2 => ("TwoInOne$Search", "front", "[J", false)
  | 3 => ("TwoInOne$Search", "spare", "[J", false)
  | 4 => ("TwoInOne$Search", "frontCount", "I", false)
  | 5 => ("TwoInOne$Search", "startDay", "I", false)
  | 6 => ("TwoInOne$Search", "frontDay", "I", false)
  | 7 => ("TwoInOne$Search", "blocks", "[I", true)
  | 8 => ("TwoInOne$Search", "weights", "[J", true)
  | 9 => ("TwoInOne$Search", "flow", "[J", false)
  | 10 => ("TwoInOne$Search", "flowThen", "[J", false)
  | 11 => ("TwoInOne$Search", "middleDay", "I", false)
  | 12 => ("TwoInOne$Search", "leads", "[Z", true)
  | 13 => ("TwoInOne$Search", "slack", "J", false)
  | 14 => ("TwoInOne$Search", "isMarking", "Z", false)
  | 15 => ("TwoInOne$Search", "best", "I", false)
  | 16 => ("TwoInOne$Search", "bestLead", "I", false)
  | 17 => ("TwoInOne$Search", "bestDay", "I", false)
  | _ => ("TwoInOne$Search", "limit", "I", false)
def tyX6 : Nat → FieldType := fun k => match k with
  | 0 => .object "TwoInOne$Game"
  | 1 => .object "TwoInOne$Sums"
  | 2 => .array .long
  | 3 => .array .long
  | 4 => .int
  | 5 => .int
  | 6 => .int
  | 7 => .array .int
  | 8 => .array .long
  | 9 => .array .long
  | 10 => .array .long
  | 11 => .int
  | 12 => .array .boolean
  | 13 => .long
  | 14 => .boolean
  | 15 => .int
  | 16 => .int
  | 17 => .int
  | _ => .int
abbrev wsX60 : List Cond := u_ws RX6 TX6 19
theorem nmX6 : ∀ a, a < 19 → ∀ b, b < 19 → a ≠ b → (TX6 a).2.1 ≠ (TX6 b).2.1 := by decide +kernel
theorem tyX6_ok : ∀ k, k < 19 → parseFieldDescriptor (TX6 k).2.2.1 = some (tyX6 k) := by decide +kernel

def RX7 : String := "TwoInOne$Sights"
def TX7 : u_T := fun k => match k with
  | 0 => ("TwoInOne$Sights", "told", "LTwoInOne$Told;", true)
  | 1 => ("TwoInOne$Sights", "day", "[I", true)
  | 2 => ("TwoInOne$Sights", "half", "[I", true)
  | 3 => ("TwoInOne$Sights", "skill", "[I", true)
  | 4 => ("TwoInOne$Sights", "toldAt", "[I", true)
  | 5 => ("TwoInOne$Sights", "untoldAt", "[I", true)
  | 6 => ("TwoInOne$Sights", "count", "I", false)
  | 7 => ("TwoInOne$Sights", "time", "I", false)
  | 8 => ("TwoInOne$Sights", "seen", "[I", true)
  | 9 => ("TwoInOne$Sights", "shownAt", "[I", true)
  | 10 => ("TwoInOne$Sights", "alibisFound", "I", false)
  | 11 => ("TwoInOne$Sights", "firstGoneOn", "I", false)
  | 12 => ("TwoInOne$Sights", "firstLess", "I", false)
  | 13 => ("TwoInOne$Sights", "firstGreater", "I", false)
  | _ => ("TwoInOne$Sights", "possible", "I", false)
def tyX7 : Nat → FieldType := fun k => match k with
  | 0 => .object "TwoInOne$Told"
  | 1 => .array .int
  | 2 => .array .int
  | 3 => .array .int
  | 4 => .array .int
  | 5 => .array .int
  | 6 => .int
  | 7 => .int
  | 8 => .array .int
  | 9 => .array .int
  | 10 => .int
  | 11 => .int
  | 12 => .int
  | 13 => .int
  | _ => .int
abbrev wsX70 : List Cond := u_ws RX7 TX7 15
theorem nmX7 : ∀ a, a < 15 → ∀ b, b < 15 → a ≠ b → (TX7 a).2.1 ≠ (TX7 b).2.1 := by decide +kernel
theorem tyX7_ok : ∀ k, k < 15 → parseFieldDescriptor (TX7 k).2.2.1 = some (tyX7 k) := by decide +kernel

def RX8 : String := "TwoInOne$State"
def TX8 : u_T := fun k => match k with
  | 0 => ("TwoInOne$State", "day", "I", false)
  | 1 => ("TwoInOne$State", "seed", "I", false)
  | 2 => ("TwoInOne$State", "load", "[I", true)
  | 3 => ("TwoInOne$State", "turn", "[I", true)
  | 4 => ("TwoInOne$State", "alive", "[I", true)
  | 5 => ("TwoInOne$State", "did", "[I", true)
  | _ => ("TwoInOne$State", "joys", "[I", true)
def tyX8 : Nat → FieldType := fun k => match k with
  | 0 => .int
  | 1 => .int
  | 2 => .array .int
  | 3 => .array .int
  | 4 => .array .int
  | 5 => .array .int
  | _ => .array .int
abbrev wsX80 : List Cond := u_ws RX8 TX8 7
theorem nmX8 : ∀ a, a < 7 → ∀ b, b < 7 → a ≠ b → (TX8 a).2.1 ≠ (TX8 b).2.1 := by decide +kernel
theorem tyX8_ok : ∀ k, k < 7 → parseFieldDescriptor (TX8 k).2.2.1 = some (tyX8 k) := by decide +kernel

def RX9 : String := "TwoInOne$Sums"
def TX9 : u_T := fun k => match k with
  | 0 => ("TwoInOne$Sums", "told", "LTwoInOne$Told;", true)
  | 1 => ("TwoInOne$Sums", "game", "LTwoInOne$Game;", true)
  | 2 => ("TwoInOne$Sums", "joys", "[I", true)
  | 3 => ("TwoInOne$Sums", "loads", "[I", true)
  | 4 => ("TwoInOne$Sums", "known", "[I", true)
  | 5 => ("TwoInOne$Sums", "starts", "[I", true)
  | 6 => ("TwoInOne$Sums", "counts", "[I", true)
  | 7 => ("TwoInOne$Sums", "used", "I", false)
  | 8 => ("TwoInOne$Sums", "pool", "[I", true)
  | 9 => ("TwoInOne$Sums", "merged", "[I", true)
  | 10 => ("TwoInOne$Sums", "stretchStart", "I", false)
  | 11 => ("TwoInOne$Sums", "stretchCount", "I", false)
  | 12 => ("TwoInOne$Sums", "sumBefore", "I", false)
  | 13 => ("TwoInOne$Sums", "sieve", "[I", true)
  | 14 => ("TwoInOne$Sums", "isSieved", "Z", false)
  | 15 => ("TwoInOne$Sums", "sieveShift", "I", false)
  | _ => ("TwoInOne$Sums", "row", "[I", true)
def tyX9 : Nat → FieldType := fun k => match k with
  | 0 => .object "TwoInOne$Told"
  | 1 => .object "TwoInOne$Game"
  | 2 => .array .int
  | 3 => .array .int
  | 4 => .array .int
  | 5 => .array .int
  | 6 => .array .int
  | 7 => .int
  | 8 => .array .int
  | 9 => .array .int
  | 10 => .int
  | 11 => .int
  | 12 => .int
  | 13 => .array .int
  | 14 => .boolean
  | 15 => .int
  | _ => .array .int
abbrev wsX90 : List Cond := u_ws RX9 TX9 17
theorem nmX9 : ∀ a, a < 17 → ∀ b, b < 17 → a ≠ b → (TX9 a).2.1 ≠ (TX9 b).2.1 := by decide +kernel
theorem tyX9_ok : ∀ k, k < 17 → parseFieldDescriptor (TX9 k).2.2.1 = some (tyX9 k) := by decide +kernel

def RX10 : String := "TwoInOne$Told"
def TX10 : u_T := fun k => match k with
  | 0 => ("TwoInOne$Told", "halves", "I", false)
  | 1 => ("TwoInOne$Told", "persons", "I", false)
  | 2 => ("TwoInOne$Told", "deeds", "I", false)
  | 3 => ("TwoInOne$Told", "likesTold", "I", false)
  | 4 => ("TwoInOne$Told", "units", "I", false)
  | 5 => ("TwoInOne$Told", "draw", "I", false)
  | 6 => ("TwoInOne$Told", "skill", "[I", true)
  | 7 => ("TwoInOne$Told", "cares", "[I", true)
  | 8 => ("TwoInOne$Told", "favour", "[I", true)
  | 9 => ("TwoInOne$Told", "personOf", "[I", true)
  | 10 => ("TwoInOne$Told", "placeOf", "[I", true)
  | 11 => ("TwoInOne$Told", "liking", "[I", true)
  | 12 => ("TwoInOne$Told", "members", "[I", true)
  | 13 => ("TwoInOne$Told", "places", "[I", true)
  | 14 => ("TwoInOne$Told", "turn", "[I", true)
  | 15 => ("TwoInOne$Told", "joyStart", "[I", true)
  | 16 => ("TwoInOne$Told", "loadStart", "[I", true)
  | 17 => ("TwoInOne$Told", "loadEnd", "[I", true)
  | _ => ("TwoInOne$Told", "code", "[I", true)
def tyX10 : Nat → FieldType := fun k => match k with
  | 0 => .int
  | 1 => .int
  | 2 => .int
  | 3 => .int
  | 4 => .int
  | 5 => .int
  | 6 => .array .int
  | 7 => .array .int
  | 8 => .array .int
  | 9 => .array .int
  | 10 => .array .int
  | 11 => .array .int
  | 12 => .array .int
  | 13 => .array .int
  | 14 => .array .int
  | 15 => .array .int
  | 16 => .array .int
  | 17 => .array .int
  | _ => .array .int
abbrev wsX100 : List Cond := u_ws RX10 TX10 19
theorem nmX10 : ∀ a, a < 19 → ∀ b, b < 19 → a ≠ b → (TX10 a).2.1 ≠ (TX10 b).2.1 := by decide +kernel
theorem tyX10_ok : ∀ k, k < 19 → parseFieldDescriptor (TX10 k).2.2.1 = some (tyX10 k) := by decide +kernel

def RX11 : String := "TwoInOne"
def TX11 : u_T := fun k => match k with
  | 0 => ("TwoInOne", "tape", "[I", true)
  | 1 => ("TwoInOne", "tapeLength", "I", false)
  | 2 => ("TwoInOne", "told", "LTwoInOne$Told;", true)
  | 3 => ("TwoInOne", "reader", "LTwoInOne$Reader;", true)
  | 4 => ("TwoInOne", "now", "LTwoInOne$State;", true)
  | 5 => ("TwoInOne", "history", "LTwoInOne$History;", true)
  | 6 => ("TwoInOne", "lying", "LTwoInOne$Row;", true)
  | 7 => ("TwoInOne", "course", "LTwoInOne$Course;", true)
  | 8 => ("TwoInOne", "game", "LTwoInOne$Game;", true)
  | 9 => ("TwoInOne", "fewSums", "LTwoInOne$Sums;", false)
  | 10 => ("TwoInOne", "search", "LTwoInOne$Search;", false)
  | 11 => ("TwoInOne", "pairings", "LTwoInOne$Pairings;", true)
  | _ => ("TwoInOne", "sights", "LTwoInOne$Sights;", true)
def tyX11 : Nat → FieldType := fun k => match k with
  | 0 => .array .int
  | 1 => .int
  | 2 => .object "TwoInOne$Told"
  | 3 => .object "TwoInOne$Reader"
  | 4 => .object "TwoInOne$State"
  | 5 => .object "TwoInOne$History"
  | 6 => .object "TwoInOne$Row"
  | 7 => .object "TwoInOne$Course"
  | 8 => .object "TwoInOne$Game"
  | 9 => .object "TwoInOne$Sums"
  | 10 => .object "TwoInOne$Search"
  | 11 => .object "TwoInOne$Pairings"
  | _ => .object "TwoInOne$Sights"
abbrev wsX110 : List Cond := u_ws RX11 TX11 13
theorem nmX11 : ∀ a, a < 13 → ∀ b, b < 13 → a ≠ b → (TX11 a).2.1 ≠ (TX11 b).2.1 := by decide +kernel
theorem tyX11_ok : ∀ k, k < 13 → parseFieldDescriptor (TX11 k).2.2.1 = some (tyX11 k) := by decide +kernel

def RX12 : String := "TwoInOneModel"
def TX12 : u_T := fun k => match k with
  | 0 => ("TwoInOneModel", "tape", "[B", true)
  | 1 => ("TwoInOneModel", "text", "[B", true)
  | 2 => ("TwoInOneModel", "taped", "I", false)
  | 3 => ("TwoInOneModel", "size", "I", false)
  | 4 => ("TwoInOneModel", "faultKind", "I", false)
  | 5 => ("TwoInOneModel", "faultPlace", "I", false)
  | 6 => ("TwoInOneModel", "at", "I", false)
  | 7 => ("TwoInOneModel", "end", "I", false)
  | 8 => ("TwoInOneModel", "token", "I", false)
  | 9 => ("TwoInOneModel", "number", "I", false)
  | 10 => ("TwoInOneModel", "name", "J", false)
  | 11 => ("TwoInOneModel", "halves", "[I", true)
  | 12 => ("TwoInOneModel", "likes", "[I", true)
  | 13 => ("TwoInOneModel", "persons", "[I", true)
  | 14 => ("TwoInOneModel", "deeds", "[I", true)
  | 15 => ("TwoInOneModel", "units", "[I", true)
  | 16 => ("TwoInOneModel", "draw", "[I", true)
  | 17 => ("TwoInOneModel", "skill", "[I", true)
  | 18 => ("TwoInOneModel", "care", "[I", true)
  | 19 => ("TwoInOneModel", "person", "[I", true)
  | 20 => ("TwoInOneModel", "favour", "[I", true)
  | 21 => ("TwoInOneModel", "like", "[I", true)
  | 22 => ("TwoInOneModel", "halfMany", "[I", true)
  | 23 => ("TwoInOneModel", "halfOf", "[I", true)
  | 24 => ("TwoInOneModel", "turnMany", "[I", true)
  | 25 => ("TwoInOneModel", "turn", "[I", true)
  | 26 => ("TwoInOneModel", "ruleFrom", "[I", true)
  | 27 => ("TwoInOneModel", "ruleTo", "[I", true)
  | 28 => ("TwoInOneModel", "isDraw", "[Z", true)
  | 29 => ("TwoInOneModel", "isFavoured", "[Z", true)
  | 30 => ("TwoInOneModel", "isLiked", "[Z", true)
  | 31 => ("TwoInOneModel", "hName", "[J", true)
  | 32 => ("TwoInOneModel", "pName", "[J", true)
  | 33 => ("TwoInOneModel", "dName", "[J", true)
  | 34 => ("TwoInOneModel", "code", "[I", true)
  | 35 => ("TwoInOneModel", "codeNumber", "[I", true)
  | 36 => ("TwoInOneModel", "eWhat", "[I", true)
  | 37 => ("TwoInOneModel", "eSign", "[I", true)
  | 38 => ("TwoInOneModel", "pile", "[I", true)
  | 39 => ("TwoInOneModel", "bank", "I", false)
  | 40 => ("TwoInOneModel", "rb", "I", false)
  | 41 => ("TwoInOneModel", "codes", "I", false)
  | 42 => ("TwoInOneModel", "within", "I", false)
  | 43 => ("TwoInOneModel", "piled", "I", false)
  | 44 => ("TwoInOneModel", "unitsInRule", "I", false)
  | 45 => ("TwoInOneModel", "askLoad", "I", false)
  | 46 => ("TwoInOneModel", "askDay", "I", false)
  | 47 => ("TwoInOneModel", "askSkill", "I", false)
  | 48 => ("TwoInOneModel", "askAgain", "I", false)
  | 49 => ("TwoInOneModel", "all", "[I", true)
  | 50 => ("TwoInOneModel", "was", "[I", true)
  | 51 => ("TwoInOneModel", "acts", "I", false)
  | 52 => ("TwoInOneModel", "undone", "I", false)
  | 53 => ("TwoInOneModel", "gamePay", "[I", true)
  | 54 => ("TwoInOneModel", "gameDeed", "[I", true)
  | 55 => ("TwoInOneModel", "laidRow", "[I", true)
  | 56 => ("TwoInOneModel", "laid", "I", false)
  | 57 => ("TwoInOneModel", "bargain", "[I", true)
  | 58 => ("TwoInOneModel", "bargains", "I", false)
  | 59 => ("TwoInOneModel", "other", "[I", true)
  | 60 => ("TwoInOneModel", "bestOther", "[I", true)
  | 61 => ("TwoInOneModel", "pairings", "I", false)
  | 62 => ("TwoInOneModel", "opened", "[I", true)
  | 63 => ("TwoInOneModel", "bestLiked", "I", false)
  | 64 => ("TwoInOneModel", "votes", "[I", true)
  | 65 => ("TwoInOneModel", "sDay", "[I", true)
  | 66 => ("TwoInOneModel", "sHalf", "[I", true)
  | 67 => ("TwoInOneModel", "sSkill", "[I", true)
  | 68 => ("TwoInOneModel", "sTold", "[I", true)
  | 69 => ("TwoInOneModel", "sUntold", "[I", true)
  | 70 => ("TwoInOneModel", "trial", "[I", true)
  | 71 => ("TwoInOneModel", "sights", "I", false)
  | 72 => ("TwoInOneModel", "time", "I", false)
  | 73 => ("TwoInOneModel", "alibiMany", "I", false)
  | 74 => ("TwoInOneModel", "canBe", "I", false)
  | 75 => ("TwoInOneModel", "alibiBy", "I", false)
  | 76 => ("TwoInOneModel", "alibiA", "I", false)
  | 77 => ("TwoInOneModel", "alibiB", "I", false)
  | 78 => ("TwoInOneModel", "boxAll", "[I", true)
  | _ => ("TwoInOneModel", "isBoxed", "[Z", true)
def tyX12 : Nat → FieldType := fun k => match k with
  | 0 => .array .byte
  | 1 => .array .byte
  | 2 => .int
  | 3 => .int
  | 4 => .int
  | 5 => .int
  | 6 => .int
  | 7 => .int
  | 8 => .int
  | 9 => .int
  | 10 => .long
  | 11 => .array .int
  | 12 => .array .int
  | 13 => .array .int
  | 14 => .array .int
  | 15 => .array .int
  | 16 => .array .int
  | 17 => .array .int
  | 18 => .array .int
  | 19 => .array .int
  | 20 => .array .int
  | 21 => .array .int
  | 22 => .array .int
  | 23 => .array .int
  | 24 => .array .int
  | 25 => .array .int
  | 26 => .array .int
  | 27 => .array .int
  | 28 => .array .boolean
  | 29 => .array .boolean
  | 30 => .array .boolean
  | 31 => .array .long
  | 32 => .array .long
  | 33 => .array .long
  | 34 => .array .int
  | 35 => .array .int
  | 36 => .array .int
  | 37 => .array .int
  | 38 => .array .int
  | 39 => .int
  | 40 => .int
  | 41 => .int
  | 42 => .int
  | 43 => .int
  | 44 => .int
  | 45 => .int
  | 46 => .int
  | 47 => .int
  | 48 => .int
  | 49 => .array .int
  | 50 => .array .int
  | 51 => .int
  | 52 => .int
  | 53 => .array .int
  | 54 => .array .int
  | 55 => .array .int
  | 56 => .int
  | 57 => .array .int
  | 58 => .int
  | 59 => .array .int
  | 60 => .array .int
  | 61 => .int
  | 62 => .array .int
  | 63 => .int
  | 64 => .array .int
  | 65 => .array .int
  | 66 => .array .int
  | 67 => .array .int
  | 68 => .array .int
  | 69 => .array .int
  | 70 => .array .int
  | 71 => .int
  | 72 => .int
  | 73 => .int
  | 74 => .int
  | 75 => .int
  | 76 => .int
  | 77 => .int
  | 78 => .array .int
  | _ => .array .boolean
abbrev wsX120 : List Cond := u_ws RX12 TX12 80
theorem nmX12 : ∀ a, a < 80 → ∀ b, b < 80 → a ≠ b → (TX12 a).2.1 ≠ (TX12 b).2.1 := by decide +kernel
theorem tyX12_ok : ∀ k, k < 80 → parseFieldDescriptor (TX12 k).2.2.1 = some (tyX12 k) := by decide +kernel

abbrev zx_clL : List vw_C := [(RX0, TX0, 8), (RX1, TX1, 10), (RX2, TX2, 6), (RX3, TX3, 9), (RX4, TX4, 17), (RX5, TX5, 2), (RX6, TX6, 19), (RX7, TX7, 15), (RX8, TX8, 7), (RX9, TX9, 17), (RX10, TX10, 19), (RX11, TX11, 13), (RX12, TX12, 80)]
