section
-- ===== PART A: goes FIRST, ahead of the names: the tables' words, and 'selects' of the private methods out of them =====
/-- a private method of a class that the tables say can be made, by its rows of tables_1 -/
def lw_okq (q : MethodName × Nat) : Prop := (q.1.cls ≠ "java/lang/invoke/MethodHandle" ∧ q.1.cls ≠ "java/lang/invoke/VarHandle") ∧ Cond.instantiable q.1.cls q.2 ∈ tables_1 ∧ Cond.privateMethod q.1 ∈ tables_1 ∧ Cond.instanceMethod q.1 ∈ tables_1
theorem lw_p0 : lw_okq (⟨"TwoInOne$History", "keepAt", "(ILTwoInOne$State;)V"⟩, 6) := ⟨⟨by decide +kernel, by decide +kernel⟩, List.mem_of_getElem? (i := 258) (by decide +kernel), List.mem_of_getElem? (i := 495) (by decide +kernel), List.mem_of_getElem? (i := 496) (by decide +kernel)⟩
theorem lw_p1 : lw_okq (⟨"TwoInOne", "put", "(I)V"⟩, 13) := ⟨⟨by decide +kernel, by decide +kernel⟩, List.mem_of_getElem? (i := 23) (by decide +kernel), List.mem_of_getElem? (i := 548) (by decide +kernel), List.mem_of_getElem? (i := 549) (by decide +kernel)⟩
theorem lw_p2 : lw_okq (⟨"TwoInOne$Reader", "advance", "()V"⟩, 17) := ⟨⟨by decide +kernel, by decide +kernel⟩, List.mem_of_getElem? (i := 151) (by decide +kernel), List.mem_of_getElem? (i := 569) (by decide +kernel), List.mem_of_getElem? (i := 570) (by decide +kernel)⟩
theorem lw_p3 : lw_okq (⟨"TwoInOne$Reader", "isLetter", "(I)Z"⟩, 17) := ⟨⟨by decide +kernel, by decide +kernel⟩, List.mem_of_getElem? (i := 151) (by decide +kernel), List.mem_of_getElem? (i := 573) (by decide +kernel), List.mem_of_getElem? (i := 574) (by decide +kernel)⟩
theorem lw_p4 : lw_okq (⟨"TwoInOne$Reader", "scanWord", "()V"⟩, 17) := ⟨⟨by decide +kernel, by decide +kernel⟩, List.mem_of_getElem? (i := 151) (by decide +kernel), List.mem_of_getElem? (i := 577) (by decide +kernel), List.mem_of_getElem? (i := 578) (by decide +kernel)⟩
theorem lw_p5 : lw_okq (⟨"TwoInOne$Reader", "wordToken", "(I)I"⟩, 17) := ⟨⟨by decide +kernel, by decide +kernel⟩, List.mem_of_getElem? (i := 151) (by decide +kernel), List.mem_of_getElem? (i := 582) (by decide +kernel), List.mem_of_getElem? (i := 583) (by decide +kernel)⟩
theorem lw_p6 : lw_okq (⟨"TwoInOne$Reader", "isDigit", "(I)Z"⟩, 17) := ⟨⟨by decide +kernel, by decide +kernel⟩, List.mem_of_getElem? (i := 151) (by decide +kernel), List.mem_of_getElem? (i := 635) (by decide +kernel), List.mem_of_getElem? (i := 636) (by decide +kernel)⟩
theorem lw_p7 : lw_okq (⟨"TwoInOne$Reader", "scanNumber", "()V"⟩, 17) := ⟨⟨by decide +kernel, by decide +kernel⟩, List.mem_of_getElem? (i := 151) (by decide +kernel), List.mem_of_getElem? (i := 639) (by decide +kernel), List.mem_of_getElem? (i := 640) (by decide +kernel)⟩
theorem lw_p8 : lw_okq (⟨"TwoInOne$Reader", "halfLine", "()Z"⟩, 17) := ⟨⟨by decide +kernel, by decide +kernel⟩, List.mem_of_getElem? (i := 151) (by decide +kernel), List.mem_of_getElem? (i := 646) (by decide +kernel), List.mem_of_getElem? (i := 647) (by decide +kernel)⟩
theorem lw_p9 : lw_okq (⟨"TwoInOne$Reader", "refuse", "(I)Z"⟩, 17) := ⟨⟨by decide +kernel, by decide +kernel⟩, List.mem_of_getElem? (i := 151) (by decide +kernel), List.mem_of_getElem? (i := 650) (by decide +kernel), List.mem_of_getElem? (i := 651) (by decide +kernel)⟩
theorem lw_p10 : lw_okq (⟨"TwoInOne$Reader", "takeNewName", "([JI)Z"⟩, 17) := ⟨⟨by decide +kernel, by decide +kernel⟩, List.mem_of_getElem? (i := 151) (by decide +kernel), List.mem_of_getElem? (i := 654) (by decide +kernel), List.mem_of_getElem? (i := 655) (by decide +kernel)⟩
theorem lw_p11 : lw_okq (⟨"TwoInOne$Reader", "indexOf", "([JI)I"⟩, 17) := ⟨⟨by decide +kernel, by decide +kernel⟩, List.mem_of_getElem? (i := 151) (by decide +kernel), List.mem_of_getElem? (i := 658) (by decide +kernel), List.mem_of_getElem? (i := 659) (by decide +kernel)⟩
theorem lw_p12 : lw_okq (⟨"TwoInOne$Reader", "take", "(I)Z"⟩, 17) := ⟨⟨by decide +kernel, by decide +kernel⟩, List.mem_of_getElem? (i := 151) (by decide +kernel), List.mem_of_getElem? (i := 662) (by decide +kernel), List.mem_of_getElem? (i := 663) (by decide +kernel)⟩
theorem lw_p13 : lw_okq (⟨"TwoInOne$Reader", "takeNumber", "(I)Z"⟩, 17) := ⟨⟨by decide +kernel, by decide +kernel⟩, List.mem_of_getElem? (i := 151) (by decide +kernel), List.mem_of_getElem? (i := 666) (by decide +kernel), List.mem_of_getElem? (i := 667) (by decide +kernel)⟩
theorem lw_p14 : lw_okq (⟨"TwoInOne$Reader", "likeLine", "()Z"⟩, 17) := ⟨⟨by decide +kernel, by decide +kernel⟩, List.mem_of_getElem? (i := 151) (by decide +kernel), List.mem_of_getElem? (i := 670) (by decide +kernel), List.mem_of_getElem? (i := 671) (by decide +kernel)⟩
theorem lw_p15 : lw_okq (⟨"TwoInOne$Reader", "takeHalf", "()Z"⟩, 17) := ⟨⟨by decide +kernel, by decide +kernel⟩, List.mem_of_getElem? (i := 151) (by decide +kernel), List.mem_of_getElem? (i := 674) (by decide +kernel), List.mem_of_getElem? (i := 675) (by decide +kernel)⟩
def lw_privs_1 : List (MethodName × Nat) := [(⟨"TwoInOne$History", "keepAt", "(ILTwoInOne$State;)V"⟩, 6), (⟨"TwoInOne", "put", "(I)V"⟩, 13), (⟨"TwoInOne$Reader", "advance", "()V"⟩, 17), (⟨"TwoInOne$Reader", "isLetter", "(I)Z"⟩, 17), (⟨"TwoInOne$Reader", "scanWord", "()V"⟩, 17), (⟨"TwoInOne$Reader", "wordToken", "(I)I"⟩, 17), (⟨"TwoInOne$Reader", "isDigit", "(I)Z"⟩, 17), (⟨"TwoInOne$Reader", "scanNumber", "()V"⟩, 17), (⟨"TwoInOne$Reader", "halfLine", "()Z"⟩, 17), (⟨"TwoInOne$Reader", "refuse", "(I)Z"⟩, 17), (⟨"TwoInOne$Reader", "takeNewName", "([JI)Z"⟩, 17), (⟨"TwoInOne$Reader", "indexOf", "([JI)I"⟩, 17), (⟨"TwoInOne$Reader", "take", "(I)Z"⟩, 17), (⟨"TwoInOne$Reader", "takeNumber", "(I)Z"⟩, 17), (⟨"TwoInOne$Reader", "likeLine", "()Z"⟩, 17), (⟨"TwoInOne$Reader", "takeHalf", "()Z"⟩, 17)]
theorem lw_r1 : ∀ q ∈ lw_privs_1, lw_okq q := List.forall_mem_cons.mpr ⟨lw_p0, List.forall_mem_cons.mpr ⟨lw_p1, List.forall_mem_cons.mpr ⟨lw_p2, List.forall_mem_cons.mpr ⟨lw_p3, List.forall_mem_cons.mpr ⟨lw_p4, List.forall_mem_cons.mpr ⟨lw_p5, List.forall_mem_cons.mpr ⟨lw_p6, List.forall_mem_cons.mpr ⟨lw_p7, List.forall_mem_cons.mpr ⟨lw_p8, List.forall_mem_cons.mpr ⟨lw_p9, List.forall_mem_cons.mpr ⟨lw_p10, List.forall_mem_cons.mpr ⟨lw_p11, List.forall_mem_cons.mpr ⟨lw_p12, List.forall_mem_cons.mpr ⟨lw_p13, List.forall_mem_cons.mpr ⟨lw_p14, List.forall_mem_cons.mpr ⟨lw_p15, fun _ h => absurd h List.not_mem_nil⟩⟩⟩⟩⟩⟩⟩⟩⟩⟩⟩⟩⟩⟩⟩⟩
theorem lw_p16 : lw_okq (⟨"TwoInOne$Reader", "halfNamed", "()I"⟩, 17) := ⟨⟨by decide +kernel, by decide +kernel⟩, List.mem_of_getElem? (i := 151) (by decide +kernel), List.mem_of_getElem? (i := 678) (by decide +kernel), List.mem_of_getElem? (i := 679) (by decide +kernel)⟩
theorem lw_p17 : lw_okq (⟨"TwoInOne$Reader", "personLine", "()Z"⟩, 17) := ⟨⟨by decide +kernel, by decide +kernel⟩, List.mem_of_getElem? (i := 151) (by decide +kernel), List.mem_of_getElem? (i := 682) (by decide +kernel), List.mem_of_getElem? (i := 683) (by decide +kernel)⟩
theorem lw_p18 : lw_okq (⟨"TwoInOne$Reader", "takeMember", "(I)Z"⟩, 17) := ⟨⟨by decide +kernel, by decide +kernel⟩, List.mem_of_getElem? (i := 151) (by decide +kernel), List.mem_of_getElem? (i := 686) (by decide +kernel), List.mem_of_getElem? (i := 687) (by decide +kernel)⟩
theorem lw_p19 : lw_okq (⟨"TwoInOne$Reader", "takeTurn", "(I)Z"⟩, 17) := ⟨⟨by decide +kernel, by decide +kernel⟩, List.mem_of_getElem? (i := 151) (by decide +kernel), List.mem_of_getElem? (i := 690) (by decide +kernel), List.mem_of_getElem? (i := 691) (by decide +kernel)⟩
theorem lw_p20 : lw_okq (⟨"TwoInOne$Reader", "deedLine", "()Z"⟩, 17) := ⟨⟨by decide +kernel, by decide +kernel⟩, List.mem_of_getElem? (i := 151) (by decide +kernel), List.mem_of_getElem? (i := 694) (by decide +kernel), List.mem_of_getElem? (i := 695) (by decide +kernel)⟩
theorem lw_p21 : lw_okq (⟨"TwoInOne$Reader", "formula", "(II)Z"⟩, 17) := ⟨⟨by decide +kernel, by decide +kernel⟩, List.mem_of_getElem? (i := 151) (by decide +kernel), List.mem_of_getElem? (i := 698) (by decide +kernel), List.mem_of_getElem? (i := 699) (by decide +kernel)⟩
theorem lw_p22 : lw_okq (⟨"TwoInOne$Reader", "unit", "(I)Z"⟩, 17) := ⟨⟨by decide +kernel, by decide +kernel⟩, List.mem_of_getElem? (i := 151) (by decide +kernel), List.mem_of_getElem? (i := 702) (by decide +kernel), List.mem_of_getElem? (i := 703) (by decide +kernel)⟩
theorem lw_p23 : lw_okq (⟨"TwoInOne$Reader", "emit", "(I)Z"⟩, 17) := ⟨⟨by decide +kernel, by decide +kernel⟩, List.mem_of_getElem? (i := 151) (by decide +kernel), List.mem_of_getElem? (i := 706) (by decide +kernel), List.mem_of_getElem? (i := 707) (by decide +kernel)⟩
theorem lw_p24 : lw_okq (⟨"TwoInOne$Reader", "favourLine", "()Z"⟩, 17) := ⟨⟨by decide +kernel, by decide +kernel⟩, List.mem_of_getElem? (i := 151) (by decide +kernel), List.mem_of_getElem? (i := 713) (by decide +kernel), List.mem_of_getElem? (i := 714) (by decide +kernel)⟩
theorem lw_p25 : lw_okq (⟨"TwoInOne$Reader", "drawLine", "()Z"⟩, 17) := ⟨⟨by decide +kernel, by decide +kernel⟩, List.mem_of_getElem? (i := 151) (by decide +kernel), List.mem_of_getElem? (i := 717) (by decide +kernel), List.mem_of_getElem? (i := 718) (by decide +kernel)⟩
theorem lw_p26 : lw_okq (⟨"TwoInOne$Course", "evaluate", "(III)I"⟩, 8) := ⟨⟨by decide +kernel, by decide +kernel⟩, List.mem_of_getElem? (i := 306) (by decide +kernel), List.mem_of_getElem? (i := 803) (by decide +kernel), List.mem_of_getElem? (i := 804) (by decide +kernel)⟩
theorem lw_p27 : lw_okq (⟨"TwoInOne$Course", "standing", "(II)I"⟩, 8) := ⟨⟨by decide +kernel, by decide +kernel⟩, List.mem_of_getElem? (i := 306) (by decide +kernel), List.mem_of_getElem? (i := 811) (by decide +kernel), List.mem_of_getElem? (i := 812) (by decide +kernel)⟩
theorem lw_p28 : lw_okq (⟨"TwoInOne$Course", "greedyDeed", "(I)I"⟩, 8) := ⟨⟨by decide +kernel, by decide +kernel⟩, List.mem_of_getElem? (i := 306) (by decide +kernel), List.mem_of_getElem? (i := 827) (by decide +kernel), List.mem_of_getElem? (i := 828) (by decide +kernel)⟩
theorem lw_p29 : lw_okq (⟨"TwoInOne", "canDo", "(II)Z"⟩, 13) := ⟨⟨by decide +kernel, by decide +kernel⟩, List.mem_of_getElem? (i := 23) (by decide +kernel), List.mem_of_getElem? (i := 835) (by decide +kernel), List.mem_of_getElem? (i := 836) (by decide +kernel)⟩
theorem lw_p30 : lw_okq (⟨"TwoInOne$Course", "carryOut", "(II)V"⟩, 8) := ⟨⟨by decide +kernel, by decide +kernel⟩, List.mem_of_getElem? (i := 306) (by decide +kernel), List.mem_of_getElem? (i := 867) (by decide +kernel), List.mem_of_getElem? (i := 868) (by decide +kernel)⟩
theorem lw_p31 : lw_okq (⟨"TwoInOne$History", "fetch", "(LTwoInOne$State;)Z"⟩, 6) := ⟨⟨by decide +kernel, by decide +kernel⟩, List.mem_of_getElem? (i := 258) (by decide +kernel), List.mem_of_getElem? (i := 912) (by decide +kernel), List.mem_of_getElem? (i := 913) (by decide +kernel)⟩
def lw_privs_2 : List (MethodName × Nat) := [(⟨"TwoInOne$Reader", "halfNamed", "()I"⟩, 17), (⟨"TwoInOne$Reader", "personLine", "()Z"⟩, 17), (⟨"TwoInOne$Reader", "takeMember", "(I)Z"⟩, 17), (⟨"TwoInOne$Reader", "takeTurn", "(I)Z"⟩, 17), (⟨"TwoInOne$Reader", "deedLine", "()Z"⟩, 17), (⟨"TwoInOne$Reader", "formula", "(II)Z"⟩, 17), (⟨"TwoInOne$Reader", "unit", "(I)Z"⟩, 17), (⟨"TwoInOne$Reader", "emit", "(I)Z"⟩, 17), (⟨"TwoInOne$Reader", "favourLine", "()Z"⟩, 17), (⟨"TwoInOne$Reader", "drawLine", "()Z"⟩, 17), (⟨"TwoInOne$Course", "evaluate", "(III)I"⟩, 8), (⟨"TwoInOne$Course", "standing", "(II)I"⟩, 8), (⟨"TwoInOne$Course", "greedyDeed", "(I)I"⟩, 8), (⟨"TwoInOne", "canDo", "(II)Z"⟩, 13), (⟨"TwoInOne$Course", "carryOut", "(II)V"⟩, 8), (⟨"TwoInOne$History", "fetch", "(LTwoInOne$State;)Z"⟩, 6)]
theorem lw_r2 : ∀ q ∈ lw_privs_2, lw_okq q := List.forall_mem_cons.mpr ⟨lw_p16, List.forall_mem_cons.mpr ⟨lw_p17, List.forall_mem_cons.mpr ⟨lw_p18, List.forall_mem_cons.mpr ⟨lw_p19, List.forall_mem_cons.mpr ⟨lw_p20, List.forall_mem_cons.mpr ⟨lw_p21, List.forall_mem_cons.mpr ⟨lw_p22, List.forall_mem_cons.mpr ⟨lw_p23, List.forall_mem_cons.mpr ⟨lw_p24, List.forall_mem_cons.mpr ⟨lw_p25, List.forall_mem_cons.mpr ⟨lw_p26, List.forall_mem_cons.mpr ⟨lw_p27, List.forall_mem_cons.mpr ⟨lw_p28, List.forall_mem_cons.mpr ⟨lw_p29, List.forall_mem_cons.mpr ⟨lw_p30, List.forall_mem_cons.mpr ⟨lw_p31, fun _ h => absurd h List.not_mem_nil⟩⟩⟩⟩⟩⟩⟩⟩⟩⟩⟩⟩⟩⟩⟩⟩
theorem lw_p32 : lw_okq (⟨"TwoInOne$Game", "begin", "(II)V"⟩, 10) := ⟨⟨by decide +kernel, by decide +kernel⟩, List.mem_of_getElem? (i := 337) (by decide +kernel), List.mem_of_getElem? (i := 941) (by decide +kernel), List.mem_of_getElem? (i := 942) (by decide +kernel)⟩
theorem lw_p33 : lw_okq (⟨"TwoInOne$Game", "solveEach", "(II)V"⟩, 10) := ⟨⟨by decide +kernel, by decide +kernel⟩, List.mem_of_getElem? (i := 337) (by decide +kernel), List.mem_of_getElem? (i := 948) (by decide +kernel), List.mem_of_getElem? (i := 949) (by decide +kernel)⟩
theorem lw_p34 : lw_okq (⟨"TwoInOne$Game", "worthAt", "(III)I"⟩, 10) := ⟨⟨by decide +kernel, by decide +kernel⟩, List.mem_of_getElem? (i := 337) (by decide +kernel), List.mem_of_getElem? (i := 959) (by decide +kernel), List.mem_of_getElem? (i := 960) (by decide +kernel)⟩
theorem lw_p35 : lw_okq (⟨"TwoInOne$Game", "settle", "(III)V"⟩, 10) := ⟨⟨by decide +kernel, by decide +kernel⟩, List.mem_of_getElem? (i := 337) (by decide +kernel), List.mem_of_getElem? (i := 963) (by decide +kernel), List.mem_of_getElem? (i := 964) (by decide +kernel)⟩
theorem lw_p36 : lw_okq (⟨"TwoInOne$Game", "solveAll", "(II)V"⟩, 10) := ⟨⟨by decide +kernel, by decide +kernel⟩, List.mem_of_getElem? (i := 337) (by decide +kernel), List.mem_of_getElem? (i := 983) (by decide +kernel), List.mem_of_getElem? (i := 984) (by decide +kernel)⟩
theorem lw_p37 : lw_okq (⟨"TwoInOne$Game", "leastAt", "(II)J"⟩, 10) := ⟨⟨by decide +kernel, by decide +kernel⟩, List.mem_of_getElem? (i := 337) (by decide +kernel), List.mem_of_getElem? (i := 991) (by decide +kernel), List.mem_of_getElem? (i := 992) (by decide +kernel)⟩
theorem lw_p38 : lw_okq (⟨"TwoInOne$Sums", "isReached", "(II)Z"⟩, 17) := ⟨⟨by decide +kernel, by decide +kernel⟩, List.mem_of_getElem? (i := 1005) (by decide +kernel), List.mem_of_getElem? (i := 1080) (by decide +kernel), List.mem_of_getElem? (i := 1081) (by decide +kernel)⟩
theorem lw_p39 : lw_okq (⟨"TwoInOne$Sums", "lookUp", "(II)V"⟩, 17) := ⟨⟨by decide +kernel, by decide +kernel⟩, List.mem_of_getElem? (i := 1005) (by decide +kernel), List.mem_of_getElem? (i := 1084) (by decide +kernel), List.mem_of_getElem? (i := 1085) (by decide +kernel)⟩
theorem lw_p40 : lw_okq (⟨"TwoInOne$Sums", "ways", "(II)I"⟩, 17) := ⟨⟨by decide +kernel, by decide +kernel⟩, List.mem_of_getElem? (i := 1005) (by decide +kernel), List.mem_of_getElem? (i := 1088) (by decide +kernel), List.mem_of_getElem? (i := 1089) (by decide +kernel)⟩
theorem lw_p41 : lw_okq (⟨"TwoInOne$Sums", "isKnownBehind", "(II)Z"⟩, 17) := ⟨⟨by decide +kernel, by decide +kernel⟩, List.mem_of_getElem? (i := 1005) (by decide +kernel), List.mem_of_getElem? (i := 1098) (by decide +kernel), List.mem_of_getElem? (i := 1099) (by decide +kernel)⟩
theorem lw_p42 : lw_okq (⟨"TwoInOne$Sums", "gather", "(II)V"⟩, 17) := ⟨⟨by decide +kernel, by decide +kernel⟩, List.mem_of_getElem? (i := 1005) (by decide +kernel), List.mem_of_getElem? (i := 1106) (by decide +kernel), List.mem_of_getElem? (i := 1107) (by decide +kernel)⟩
theorem lw_p43 : lw_okq (⟨"TwoInOne$Sums", "merge", "(IIIJI)I"⟩, 17) := ⟨⟨by decide +kernel, by decide +kernel⟩, List.mem_of_getElem? (i := 1005) (by decide +kernel), List.mem_of_getElem? (i := 1112) (by decide +kernel), List.mem_of_getElem? (i := 1113) (by decide +kernel)⟩
theorem lw_p44 : lw_okq (⟨"TwoInOne$Sums", "slice", "(IIJI)I"⟩, 17) := ⟨⟨by decide +kernel, by decide +kernel⟩, List.mem_of_getElem? (i := 1005) (by decide +kernel), List.mem_of_getElem? (i := 1116) (by decide +kernel), List.mem_of_getElem? (i := 1117) (by decide +kernel)⟩
theorem lw_p45 : lw_okq (⟨"TwoInOne$Sums", "isWanted", "(J)Z"⟩, 17) := ⟨⟨by decide +kernel, by decide +kernel⟩, List.mem_of_getElem? (i := 1005) (by decide +kernel), List.mem_of_getElem? (i := 1124) (by decide +kernel), List.mem_of_getElem? (i := 1125) (by decide +kernel)⟩
theorem lw_p46 : lw_okq (⟨"TwoInOne$Sums", "unite", "(III)I"⟩, 17) := ⟨⟨by decide +kernel, by decide +kernel⟩, List.mem_of_getElem? (i := 1005) (by decide +kernel), List.mem_of_getElem? (i := 1128) (by decide +kernel), List.mem_of_getElem? (i := 1129) (by decide +kernel)⟩
theorem lw_p47 : lw_okq (⟨"TwoInOne$Sums", "canCome", "(IIII)Z"⟩, 17) := ⟨⟨by decide +kernel, by decide +kernel⟩, List.mem_of_getElem? (i := 1005) (by decide +kernel), List.mem_of_getElem? (i := 1147) (by decide +kernel), List.mem_of_getElem? (i := 1148) (by decide +kernel)⟩
def lw_privs_3 : List (MethodName × Nat) := [(⟨"TwoInOne$Game", "begin", "(II)V"⟩, 10), (⟨"TwoInOne$Game", "solveEach", "(II)V"⟩, 10), (⟨"TwoInOne$Game", "worthAt", "(III)I"⟩, 10), (⟨"TwoInOne$Game", "settle", "(III)V"⟩, 10), (⟨"TwoInOne$Game", "solveAll", "(II)V"⟩, 10), (⟨"TwoInOne$Game", "leastAt", "(II)J"⟩, 10), (⟨"TwoInOne$Sums", "isReached", "(II)Z"⟩, 17), (⟨"TwoInOne$Sums", "lookUp", "(II)V"⟩, 17), (⟨"TwoInOne$Sums", "ways", "(II)I"⟩, 17), (⟨"TwoInOne$Sums", "isKnownBehind", "(II)Z"⟩, 17), (⟨"TwoInOne$Sums", "gather", "(II)V"⟩, 17), (⟨"TwoInOne$Sums", "merge", "(IIIJI)I"⟩, 17), (⟨"TwoInOne$Sums", "slice", "(IIJI)I"⟩, 17), (⟨"TwoInOne$Sums", "isWanted", "(J)Z"⟩, 17), (⟨"TwoInOne$Sums", "unite", "(III)I"⟩, 17), (⟨"TwoInOne$Sums", "canCome", "(IIII)Z"⟩, 17)]
theorem lw_r3 : ∀ q ∈ lw_privs_3, lw_okq q := List.forall_mem_cons.mpr ⟨lw_p32, List.forall_mem_cons.mpr ⟨lw_p33, List.forall_mem_cons.mpr ⟨lw_p34, List.forall_mem_cons.mpr ⟨lw_p35, List.forall_mem_cons.mpr ⟨lw_p36, List.forall_mem_cons.mpr ⟨lw_p37, List.forall_mem_cons.mpr ⟨lw_p38, List.forall_mem_cons.mpr ⟨lw_p39, List.forall_mem_cons.mpr ⟨lw_p40, List.forall_mem_cons.mpr ⟨lw_p41, List.forall_mem_cons.mpr ⟨lw_p42, List.forall_mem_cons.mpr ⟨lw_p43, List.forall_mem_cons.mpr ⟨lw_p44, List.forall_mem_cons.mpr ⟨lw_p45, List.forall_mem_cons.mpr ⟨lw_p46, List.forall_mem_cons.mpr ⟨lw_p47, fun _ h => absurd h List.not_mem_nil⟩⟩⟩⟩⟩⟩⟩⟩⟩⟩⟩⟩⟩⟩⟩⟩
theorem lw_p48 : lw_okq (⟨"TwoInOne$Search", "weigh", "()V"⟩, 19) := ⟨⟨by decide +kernel, by decide +kernel⟩, List.mem_of_getElem? (i := 1156) (by decide +kernel), List.mem_of_getElem? (i := 1229) (by decide +kernel), List.mem_of_getElem? (i := 1230) (by decide +kernel)⟩
theorem lw_p49 : lw_okq (⟨"TwoInOne$Search", "findLimit", "()V"⟩, 19) := ⟨⟨by decide +kernel, by decide +kernel⟩, List.mem_of_getElem? (i := 1156) (by decide +kernel), List.mem_of_getElem? (i := 1240) (by decide +kernel), List.mem_of_getElem? (i := 1241) (by decide +kernel)⟩
theorem lw_p50 : lw_okq (⟨"TwoInOne$Search", "loadBehind", "(II)I"⟩, 19) := ⟨⟨by decide +kernel, by decide +kernel⟩, List.mem_of_getElem? (i := 1156) (by decide +kernel), List.mem_of_getElem? (i := 1247) (by decide +kernel), List.mem_of_getElem? (i := 1248) (by decide +kernel)⟩
theorem lw_p51 : lw_okq (⟨"TwoInOne$Search", "sumBehind", "(II)I"⟩, 19) := ⟨⟨by decide +kernel, by decide +kernel⟩, List.mem_of_getElem? (i := 1156) (by decide +kernel), List.mem_of_getElem? (i := 1251) (by decide +kernel), List.mem_of_getElem? (i := 1252) (by decide +kernel)⟩
theorem lw_p52 : lw_okq (⟨"TwoInOne$Search", "settleFrom", "(III)V"⟩, 19) := ⟨⟨by decide +kernel, by decide +kernel⟩, List.mem_of_getElem? (i := 1156) (by decide +kernel), List.mem_of_getElem? (i := 1255) (by decide +kernel), List.mem_of_getElem? (i := 1256) (by decide +kernel)⟩
theorem lw_p53 : lw_okq (⟨"TwoInOne$Search", "isSettled", "(IIII)Z"⟩, 19) := ⟨⟨by decide +kernel, by decide +kernel⟩, List.mem_of_getElem? (i := 1156) (by decide +kernel), List.mem_of_getElem? (i := 1259) (by decide +kernel), List.mem_of_getElem? (i := 1260) (by decide +kernel)⟩
theorem lw_p54 : lw_okq (⟨"TwoInOne$Search", "keep", "(III)V"⟩, 19) := ⟨⟨by decide +kernel, by decide +kernel⟩, List.mem_of_getElem? (i := 1156) (by decide +kernel), List.mem_of_getElem? (i := 1264) (by decide +kernel), List.mem_of_getElem? (i := 1265) (by decide +kernel)⟩
theorem lw_p55 : lw_okq (⟨"TwoInOne$Search", "advanceFront", "()V"⟩, 19) := ⟨⟨by decide +kernel, by decide +kernel⟩, List.mem_of_getElem? (i := 1156) (by decide +kernel), List.mem_of_getElem? (i := 1274) (by decide +kernel), List.mem_of_getElem? (i := 1275) (by decide +kernel)⟩
theorem lw_p56 : lw_okq (⟨"TwoInOne$Search", "swapFront", "()V"⟩, 19) := ⟨⟨by decide +kernel, by decide +kernel⟩, List.mem_of_getElem? (i := 1156) (by decide +kernel), List.mem_of_getElem? (i := 1288) (by decide +kernel), List.mem_of_getElem? (i := 1289) (by decide +kernel)⟩
theorem lw_p57 : lw_okq (⟨"TwoInOne$Search", "sortFront", "()V"⟩, 19) := ⟨⟨by decide +kernel, by decide +kernel⟩, List.mem_of_getElem? (i := 1156) (by decide +kernel), List.mem_of_getElem? (i := 1292) (by decide +kernel), List.mem_of_getElem? (i := 1293) (by decide +kernel)⟩
theorem lw_p58 : lw_okq (⟨"TwoInOne$Search", "mergeRuns", "(III)V"⟩, 19) := ⟨⟨by decide +kernel, by decide +kernel⟩, List.mem_of_getElem? (i := 1156) (by decide +kernel), List.mem_of_getElem? (i := 1297) (by decide +kernel), List.mem_of_getElem? (i := 1298) (by decide +kernel)⟩
theorem lw_p59 : lw_okq (⟨"TwoInOne$Search", "dropTwins", "()V"⟩, 19) := ⟨⟨by decide +kernel, by decide +kernel⟩, List.mem_of_getElem? (i := 1156) (by decide +kernel), List.mem_of_getElem? (i := 1301) (by decide +kernel), List.mem_of_getElem? (i := 1302) (by decide +kernel)⟩
theorem lw_p60 : lw_okq (⟨"TwoInOne$Search", "findBlocks", "()V"⟩, 19) := ⟨⟨by decide +kernel, by decide +kernel⟩, List.mem_of_getElem? (i := 1156) (by decide +kernel), List.mem_of_getElem? (i := 1305) (by decide +kernel), List.mem_of_getElem? (i := 1306) (by decide +kernel)⟩
theorem lw_p61 : lw_okq (⟨"TwoInOne$Search", "chooseMiddle", "()V"⟩, 19) := ⟨⟨by decide +kernel, by decide +kernel⟩, List.mem_of_getElem? (i := 1156) (by decide +kernel), List.mem_of_getElem? (i := 1309) (by decide +kernel), List.mem_of_getElem? (i := 1310) (by decide +kernel)⟩
theorem lw_p62 : lw_okq (⟨"TwoInOne$Search", "flowTo", "(I)V"⟩, 19) := ⟨⟨by decide +kernel, by decide +kernel⟩, List.mem_of_getElem? (i := 1156) (by decide +kernel), List.mem_of_getElem? (i := 1313) (by decide +kernel), List.mem_of_getElem? (i := 1314) (by decide +kernel)⟩
theorem lw_p63 : lw_okq (⟨"TwoInOne$Search", "dropLater", "()V"⟩, 19) := ⟨⟨by decide +kernel, by decide +kernel⟩, List.mem_of_getElem? (i := 1156) (by decide +kernel), List.mem_of_getElem? (i := 1325) (by decide +kernel), List.mem_of_getElem? (i := 1326) (by decide +kernel)⟩
def lw_privs_4 : List (MethodName × Nat) := [(⟨"TwoInOne$Search", "weigh", "()V"⟩, 19), (⟨"TwoInOne$Search", "findLimit", "()V"⟩, 19), (⟨"TwoInOne$Search", "loadBehind", "(II)I"⟩, 19), (⟨"TwoInOne$Search", "sumBehind", "(II)I"⟩, 19), (⟨"TwoInOne$Search", "settleFrom", "(III)V"⟩, 19), (⟨"TwoInOne$Search", "isSettled", "(IIII)Z"⟩, 19), (⟨"TwoInOne$Search", "keep", "(III)V"⟩, 19), (⟨"TwoInOne$Search", "advanceFront", "()V"⟩, 19), (⟨"TwoInOne$Search", "swapFront", "()V"⟩, 19), (⟨"TwoInOne$Search", "sortFront", "()V"⟩, 19), (⟨"TwoInOne$Search", "mergeRuns", "(III)V"⟩, 19), (⟨"TwoInOne$Search", "dropTwins", "()V"⟩, 19), (⟨"TwoInOne$Search", "findBlocks", "()V"⟩, 19), (⟨"TwoInOne$Search", "chooseMiddle", "()V"⟩, 19), (⟨"TwoInOne$Search", "flowTo", "(I)V"⟩, 19), (⟨"TwoInOne$Search", "dropLater", "()V"⟩, 19)]
theorem lw_r4 : ∀ q ∈ lw_privs_4, lw_okq q := List.forall_mem_cons.mpr ⟨lw_p48, List.forall_mem_cons.mpr ⟨lw_p49, List.forall_mem_cons.mpr ⟨lw_p50, List.forall_mem_cons.mpr ⟨lw_p51, List.forall_mem_cons.mpr ⟨lw_p52, List.forall_mem_cons.mpr ⟨lw_p53, List.forall_mem_cons.mpr ⟨lw_p54, List.forall_mem_cons.mpr ⟨lw_p55, List.forall_mem_cons.mpr ⟨lw_p56, List.forall_mem_cons.mpr ⟨lw_p57, List.forall_mem_cons.mpr ⟨lw_p58, List.forall_mem_cons.mpr ⟨lw_p59, List.forall_mem_cons.mpr ⟨lw_p60, List.forall_mem_cons.mpr ⟨lw_p61, List.forall_mem_cons.mpr ⟨lw_p62, List.forall_mem_cons.mpr ⟨lw_p63, fun _ h => absurd h List.not_mem_nil⟩⟩⟩⟩⟩⟩⟩⟩⟩⟩⟩⟩⟩⟩⟩⟩
theorem lw_p64 : lw_okq (⟨"TwoInOne$Search", "sweepTo", "(I)V"⟩, 19) := ⟨⟨by decide +kernel, by decide +kernel⟩, List.mem_of_getElem? (i := 1156) (by decide +kernel), List.mem_of_getElem? (i := 1329) (by decide +kernel), List.mem_of_getElem? (i := 1330) (by decide +kernel)⟩
theorem lw_p65 : lw_okq (⟨"TwoInOne$Search", "markPaths", "(I)V"⟩, 19) := ⟨⟨by decide +kernel, by decide +kernel⟩, List.mem_of_getElem? (i := 1156) (by decide +kernel), List.mem_of_getElem? (i := 1333) (by decide +kernel), List.mem_of_getElem? (i := 1334) (by decide +kernel)⟩
theorem lw_p66 : lw_okq (⟨"TwoInOne$Search", "walk", "(IIIIJ)V"⟩, 19) := ⟨⟨by decide +kernel, by decide +kernel⟩, List.mem_of_getElem? (i := 1156) (by decide +kernel), List.mem_of_getElem? (i := 1356) (by decide +kernel), List.mem_of_getElem? (i := 1357) (by decide +kernel)⟩
theorem lw_p67 : lw_okq (⟨"TwoInOne$Search", "meet", "(IIJ)V"⟩, 19) := ⟨⟨by decide +kernel, by decide +kernel⟩, List.mem_of_getElem? (i := 1156) (by decide +kernel), List.mem_of_getElem? (i := 1360) (by decide +kernel), List.mem_of_getElem? (i := 1361) (by decide +kernel)⟩
theorem lw_p68 : lw_okq (⟨"TwoInOne$Search", "lastInBlock", "(II)I"⟩, 19) := ⟨⟨by decide +kernel, by decide +kernel⟩, List.mem_of_getElem? (i := 1156) (by decide +kernel), List.mem_of_getElem? (i := 1364) (by decide +kernel), List.mem_of_getElem? (i := 1365) (by decide +kernel)⟩
theorem lw_p69 : lw_okq (⟨"TwoInOne$Search", "followMost", "(II)V"⟩, 19) := ⟨⟨by decide +kernel, by decide +kernel⟩, List.mem_of_getElem? (i := 1156) (by decide +kernel), List.mem_of_getElem? (i := 1387) (by decide +kernel), List.mem_of_getElem? (i := 1388) (by decide +kernel)⟩
theorem lw_p70 : lw_okq (⟨"TwoInOne$Game", "isBetterBroken", "(IIII)Z"⟩, 10) := ⟨⟨by decide +kernel, by decide +kernel⟩, List.mem_of_getElem? (i := 337) (by decide +kernel), List.mem_of_getElem? (i := 1409) (by decide +kernel), List.mem_of_getElem? (i := 1410) (by decide +kernel)⟩
theorem lw_p71 : lw_okq (⟨"TwoInOne$Game", "deedOn", "(I)I"⟩, 10) := ⟨⟨by decide +kernel, by decide +kernel⟩, List.mem_of_getElem? (i := 337) (by decide +kernel), List.mem_of_getElem? (i := 1417) (by decide +kernel), List.mem_of_getElem? (i := 1418) (by decide +kernel)⟩
theorem lw_p72 : lw_okq (⟨"TwoInOne$Pairings", "extend", "(IZ)V"⟩, 9) := ⟨⟨by decide +kernel, by decide +kernel⟩, List.mem_of_getElem? (i := 384) (by decide +kernel), List.mem_of_getElem? (i := 1449) (by decide +kernel), List.mem_of_getElem? (i := 1450) (by decide +kernel)⟩
theorem lw_p73 : lw_okq (⟨"TwoInOne$Pairings", "isOpen", "(I)Z"⟩, 9) := ⟨⟨by decide +kernel, by decide +kernel⟩, List.mem_of_getElem? (i := 384) (by decide +kernel), List.mem_of_getElem? (i := 1453) (by decide +kernel), List.mem_of_getElem? (i := 1454) (by decide +kernel)⟩
theorem lw_p74 : lw_okq (⟨"TwoInOne$Pairings", "judge", "()V"⟩, 9) := ⟨⟨by decide +kernel, by decide +kernel⟩, List.mem_of_getElem? (i := 384) (by decide +kernel), List.mem_of_getElem? (i := 1457) (by decide +kernel), List.mem_of_getElem? (i := 1458) (by decide +kernel)⟩
theorem lw_p75 : lw_okq (⟨"TwoInOne$Pairings", "likesHis", "(I)I"⟩, 9) := ⟨⟨by decide +kernel, by decide +kernel⟩, List.mem_of_getElem? (i := 384) (by decide +kernel), List.mem_of_getElem? (i := 1461) (by decide +kernel), List.mem_of_getElem? (i := 1462) (by decide +kernel)⟩
theorem lw_p76 : lw_okq (⟨"TwoInOne$Pairings", "isFast", "()Z"⟩, 9) := ⟨⟨by decide +kernel, by decide +kernel⟩, List.mem_of_getElem? (i := 384) (by decide +kernel), List.mem_of_getElem? (i := 1468) (by decide +kernel), List.mem_of_getElem? (i := 1469) (by decide +kernel)⟩
theorem lw_p77 : lw_okq (⟨"TwoInOne$Course", "addVote", "(I)V"⟩, 8) := ⟨⟨by decide +kernel, by decide +kernel⟩, List.mem_of_getElem? (i := 306) (by decide +kernel), List.mem_of_getElem? (i := 1490) (by decide +kernel), List.mem_of_getElem? (i := 1491) (by decide +kernel)⟩
theorem lw_p78 : lw_okq (⟨"TwoInOne$Course", "winner", "()I"⟩, 8) := ⟨⟨by decide +kernel, by decide +kernel⟩, List.mem_of_getElem? (i := 306) (by decide +kernel), List.mem_of_getElem? (i := 1495) (by decide +kernel), List.mem_of_getElem? (i := 1496) (by decide +kernel)⟩
theorem lw_p79 : lw_okq (⟨"TwoInOne$Sights", "gatherSeen", "(II)Z"⟩, 15) := ⟨⟨by decide +kernel, by decide +kernel⟩, List.mem_of_getElem? (i := 423) (by decide +kernel), List.mem_of_getElem? (i := 1555) (by decide +kernel), List.mem_of_getElem? (i := 1556) (by decide +kernel)⟩
def lw_privs_5 : List (MethodName × Nat) := [(⟨"TwoInOne$Search", "sweepTo", "(I)V"⟩, 19), (⟨"TwoInOne$Search", "markPaths", "(I)V"⟩, 19), (⟨"TwoInOne$Search", "walk", "(IIIIJ)V"⟩, 19), (⟨"TwoInOne$Search", "meet", "(IIJ)V"⟩, 19), (⟨"TwoInOne$Search", "lastInBlock", "(II)I"⟩, 19), (⟨"TwoInOne$Search", "followMost", "(II)V"⟩, 19), (⟨"TwoInOne$Game", "isBetterBroken", "(IIII)Z"⟩, 10), (⟨"TwoInOne$Game", "deedOn", "(I)I"⟩, 10), (⟨"TwoInOne$Pairings", "extend", "(IZ)V"⟩, 9), (⟨"TwoInOne$Pairings", "isOpen", "(I)Z"⟩, 9), (⟨"TwoInOne$Pairings", "judge", "()V"⟩, 9), (⟨"TwoInOne$Pairings", "likesHis", "(I)I"⟩, 9), (⟨"TwoInOne$Pairings", "isFast", "()Z"⟩, 9), (⟨"TwoInOne$Course", "addVote", "(I)V"⟩, 8), (⟨"TwoInOne$Course", "winner", "()I"⟩, 8), (⟨"TwoInOne$Sights", "gatherSeen", "(II)Z"⟩, 15)]
theorem lw_r5 : ∀ q ∈ lw_privs_5, lw_okq q := List.forall_mem_cons.mpr ⟨lw_p64, List.forall_mem_cons.mpr ⟨lw_p65, List.forall_mem_cons.mpr ⟨lw_p66, List.forall_mem_cons.mpr ⟨lw_p67, List.forall_mem_cons.mpr ⟨lw_p68, List.forall_mem_cons.mpr ⟨lw_p69, List.forall_mem_cons.mpr ⟨lw_p70, List.forall_mem_cons.mpr ⟨lw_p71, List.forall_mem_cons.mpr ⟨lw_p72, List.forall_mem_cons.mpr ⟨lw_p73, List.forall_mem_cons.mpr ⟨lw_p74, List.forall_mem_cons.mpr ⟨lw_p75, List.forall_mem_cons.mpr ⟨lw_p76, List.forall_mem_cons.mpr ⟨lw_p77, List.forall_mem_cons.mpr ⟨lw_p78, List.forall_mem_cons.mpr ⟨lw_p79, fun _ h => absurd h List.not_mem_nil⟩⟩⟩⟩⟩⟩⟩⟩⟩⟩⟩⟩⟩⟩⟩⟩
theorem lw_p80 : lw_okq (⟨"TwoInOne$Sights", "counts", "(II)Z"⟩, 15) := ⟨⟨by decide +kernel, by decide +kernel⟩, List.mem_of_getElem? (i := 423) (by decide +kernel), List.mem_of_getElem? (i := 1561) (by decide +kernel), List.mem_of_getElem? (i := 1562) (by decide +kernel)⟩
theorem lw_p81 : lw_okq (⟨"TwoInOne$Sights", "tryAlibi", "(IIIII)V"⟩, 15) := ⟨⟨by decide +kernel, by decide +kernel⟩, List.mem_of_getElem? (i := 423) (by decide +kernel), List.mem_of_getElem? (i := 1568) (by decide +kernel), List.mem_of_getElem? (i := 1569) (by decide +kernel)⟩
theorem lw_p82 : lw_okq (⟨"TwoInOne$Sights", "wouldBeIn", "(III)I"⟩, 15) := ⟨⟨by decide +kernel, by decide +kernel⟩, List.mem_of_getElem? (i := 423) (by decide +kernel), List.mem_of_getElem? (i := 1575) (by decide +kernel), List.mem_of_getElem? (i := 1576) (by decide +kernel)⟩
theorem lw_p83 : lw_okq (⟨"TwoInOne$Sights", "explains", "(II)Z"⟩, 15) := ⟨⟨by decide +kernel, by decide +kernel⟩, List.mem_of_getElem? (i := 423) (by decide +kernel), List.mem_of_getElem? (i := 1591) (by decide +kernel), List.mem_of_getElem? (i := 1592) (by decide +kernel)⟩
theorem lw_p84 : lw_okq (⟨"TwoInOneModel", "clearBank", "()V"⟩, 80) := ⟨⟨by decide +kernel, by decide +kernel⟩, List.mem_of_getElem? (i := 1626) (by decide +kernel), List.mem_of_getElem? (i := 1632) (by decide +kernel), List.mem_of_getElem? (i := 1633) (by decide +kernel)⟩
theorem lw_p85 : lw_okq (⟨"TwoInOneModel", "startAnew", "()V"⟩, 80) := ⟨⟨by decide +kernel, by decide +kernel⟩, List.mem_of_getElem? (i := 1626) (by decide +kernel), List.mem_of_getElem? (i := 1636) (by decide +kernel), List.mem_of_getElem? (i := 1637) (by decide +kernel)⟩
theorem lw_p86 : lw_okq (⟨"TwoInOneModel", "goOn", "()V"⟩, 80) := ⟨⟨by decide +kernel, by decide +kernel⟩, List.mem_of_getElem? (i := 1626) (by decide +kernel), List.mem_of_getElem? (i := 1885) (by decide +kernel), List.mem_of_getElem? (i := 1886) (by decide +kernel)⟩
theorem lw_p87 : lw_okq (⟨"TwoInOneModel", "sign", "(I)I"⟩, 80) := ⟨⟨by decide +kernel, by decide +kernel⟩, List.mem_of_getElem? (i := 1626) (by decide +kernel), List.mem_of_getElem? (i := 1889) (by decide +kernel), List.mem_of_getElem? (i := 1890) (by decide +kernel)⟩
theorem lw_p88 : lw_okq (⟨"TwoInOneModel", "isGood", "()Z"⟩, 80) := ⟨⟨by decide +kernel, by decide +kernel⟩, List.mem_of_getElem? (i := 1626) (by decide +kernel), List.mem_of_getElem? (i := 1923) (by decide +kernel), List.mem_of_getElem? (i := 1924) (by decide +kernel)⟩
theorem lw_p89 : lw_okq (⟨"TwoInOneModel", "readLine", "()V"⟩, 80) := ⟨⟨by decide +kernel, by decide +kernel⟩, List.mem_of_getElem? (i := 1626) (by decide +kernel), List.mem_of_getElem? (i := 1927) (by decide +kernel), List.mem_of_getElem? (i := 1928) (by decide +kernel)⟩
theorem lw_p90 : lw_okq (⟨"TwoInOneModel", "isFull", "()Z"⟩, 80) := ⟨⟨by decide +kernel, by decide +kernel⟩, List.mem_of_getElem? (i := 1626) (by decide +kernel), List.mem_of_getElem? (i := 1931) (by decide +kernel), List.mem_of_getElem? (i := 1932) (by decide +kernel)⟩
theorem lw_p91 : lw_okq (⟨"TwoInOneModel", "isWord", "(J)Z"⟩, 80) := ⟨⟨by decide +kernel, by decide +kernel⟩, List.mem_of_getElem? (i := 1626) (by decide +kernel), List.mem_of_getElem? (i := 1935) (by decide +kernel), List.mem_of_getElem? (i := 1936) (by decide +kernel)⟩
theorem lw_p92 : lw_okq (⟨"TwoInOneModel", "misplaced", "()V"⟩, 80) := ⟨⟨by decide +kernel, by decide +kernel⟩, List.mem_of_getElem? (i := 1626) (by decide +kernel), List.mem_of_getElem? (i := 1939) (by decide +kernel), List.mem_of_getElem? (i := 1940) (by decide +kernel)⟩
theorem lw_p93 : lw_okq (⟨"TwoInOneModel", "fails", "(II)V"⟩, 80) := ⟨⟨by decide +kernel, by decide +kernel⟩, List.mem_of_getElem? (i := 1626) (by decide +kernel), List.mem_of_getElem? (i := 1943) (by decide +kernel), List.mem_of_getElem? (i := 1944) (by decide +kernel)⟩
theorem lw_p94 : lw_okq (⟨"TwoInOneModel", "readHalf", "()V"⟩, 80) := ⟨⟨by decide +kernel, by decide +kernel⟩, List.mem_of_getElem? (i := 1626) (by decide +kernel), List.mem_of_getElem? (i := 1947) (by decide +kernel), List.mem_of_getElem? (i := 1948) (by decide +kernel)⟩
theorem lw_p95 : lw_okq (⟨"TwoInOneModel", "halfHere", "()I"⟩, 80) := ⟨⟨by decide +kernel, by decide +kernel⟩, List.mem_of_getElem? (i := 1626) (by decide +kernel), List.mem_of_getElem? (i := 1951) (by decide +kernel), List.mem_of_getElem? (i := 1952) (by decide +kernel)⟩
def lw_privs_6 : List (MethodName × Nat) := [(⟨"TwoInOne$Sights", "counts", "(II)Z"⟩, 15), (⟨"TwoInOne$Sights", "tryAlibi", "(IIIII)V"⟩, 15), (⟨"TwoInOne$Sights", "wouldBeIn", "(III)I"⟩, 15), (⟨"TwoInOne$Sights", "explains", "(II)Z"⟩, 15), (⟨"TwoInOneModel", "clearBank", "()V"⟩, 80), (⟨"TwoInOneModel", "startAnew", "()V"⟩, 80), (⟨"TwoInOneModel", "goOn", "()V"⟩, 80), (⟨"TwoInOneModel", "sign", "(I)I"⟩, 80), (⟨"TwoInOneModel", "isGood", "()Z"⟩, 80), (⟨"TwoInOneModel", "readLine", "()V"⟩, 80), (⟨"TwoInOneModel", "isFull", "()Z"⟩, 80), (⟨"TwoInOneModel", "isWord", "(J)Z"⟩, 80), (⟨"TwoInOneModel", "misplaced", "()V"⟩, 80), (⟨"TwoInOneModel", "fails", "(II)V"⟩, 80), (⟨"TwoInOneModel", "readHalf", "()V"⟩, 80), (⟨"TwoInOneModel", "halfHere", "()I"⟩, 80)]
theorem lw_r6 : ∀ q ∈ lw_privs_6, lw_okq q := List.forall_mem_cons.mpr ⟨lw_p80, List.forall_mem_cons.mpr ⟨lw_p81, List.forall_mem_cons.mpr ⟨lw_p82, List.forall_mem_cons.mpr ⟨lw_p83, List.forall_mem_cons.mpr ⟨lw_p84, List.forall_mem_cons.mpr ⟨lw_p85, List.forall_mem_cons.mpr ⟨lw_p86, List.forall_mem_cons.mpr ⟨lw_p87, List.forall_mem_cons.mpr ⟨lw_p88, List.forall_mem_cons.mpr ⟨lw_p89, List.forall_mem_cons.mpr ⟨lw_p90, List.forall_mem_cons.mpr ⟨lw_p91, List.forall_mem_cons.mpr ⟨lw_p92, List.forall_mem_cons.mpr ⟨lw_p93, List.forall_mem_cons.mpr ⟨lw_p94, List.forall_mem_cons.mpr ⟨lw_p95, fun _ h => absurd h List.not_mem_nil⟩⟩⟩⟩⟩⟩⟩⟩⟩⟩⟩⟩⟩⟩⟩⟩
theorem lw_p96 : lw_okq (⟨"TwoInOneModel", "here", "([JII)I"⟩, 80) := ⟨⟨by decide +kernel, by decide +kernel⟩, List.mem_of_getElem? (i := 1626) (by decide +kernel), List.mem_of_getElem? (i := 1955) (by decide +kernel), List.mem_of_getElem? (i := 1956) (by decide +kernel)⟩
theorem lw_p97 : lw_okq (⟨"TwoInOneModel", "fresh", "(I)J"⟩, 80) := ⟨⟨by decide +kernel, by decide +kernel⟩, List.mem_of_getElem? (i := 1626) (by decide +kernel), List.mem_of_getElem? (i := 1959) (by decide +kernel), List.mem_of_getElem? (i := 1960) (by decide +kernel)⟩
theorem lw_p98 : lw_okq (⟨"TwoInOneModel", "after", "(JII)I"⟩, 80) := ⟨⟨by decide +kernel, by decide +kernel⟩, List.mem_of_getElem? (i := 1626) (by decide +kernel), List.mem_of_getElem? (i := 1963) (by decide +kernel), List.mem_of_getElem? (i := 1964) (by decide +kernel)⟩
theorem lw_p99 : lw_okq (⟨"TwoInOneModel", "must", "(Z)V"⟩, 80) := ⟨⟨by decide +kernel, by decide +kernel⟩, List.mem_of_getElem? (i := 1626) (by decide +kernel), List.mem_of_getElem? (i := 1967) (by decide +kernel), List.mem_of_getElem? (i := 1968) (by decide +kernel)⟩
theorem lw_p100 : lw_okq (⟨"TwoInOneModel", "numeral", "(II)I"⟩, 80) := ⟨⟨by decide +kernel, by decide +kernel⟩, List.mem_of_getElem? (i := 1626) (by decide +kernel), List.mem_of_getElem? (i := 1971) (by decide +kernel), List.mem_of_getElem? (i := 1972) (by decide +kernel)⟩
theorem lw_p101 : lw_okq (⟨"TwoInOneModel", "readLike", "()V"⟩, 80) := ⟨⟨by decide +kernel, by decide +kernel⟩, List.mem_of_getElem? (i := 1626) (by decide +kernel), List.mem_of_getElem? (i := 1975) (by decide +kernel), List.mem_of_getElem? (i := 1976) (by decide +kernel)⟩
theorem lw_p102 : lw_okq (⟨"TwoInOneModel", "known", "()I"⟩, 80) := ⟨⟨by decide +kernel, by decide +kernel⟩, List.mem_of_getElem? (i := 1626) (by decide +kernel), List.mem_of_getElem? (i := 1979) (by decide +kernel), List.mem_of_getElem? (i := 1980) (by decide +kernel)⟩
theorem lw_p103 : lw_okq (⟨"TwoInOneModel", "readPerson", "()V"⟩, 80) := ⟨⟨by decide +kernel, by decide +kernel⟩, List.mem_of_getElem? (i := 1626) (by decide +kernel), List.mem_of_getElem? (i := 1983) (by decide +kernel), List.mem_of_getElem? (i := 1984) (by decide +kernel)⟩
theorem lw_p104 : lw_okq (⟨"TwoInOneModel", "readDeed", "()V"⟩, 80) := ⟨⟨by decide +kernel, by decide +kernel⟩, List.mem_of_getElem? (i := 1626) (by decide +kernel), List.mem_of_getElem? (i := 1987) (by decide +kernel), List.mem_of_getElem? (i := 1988) (by decide +kernel)⟩
theorem lw_p105 : lw_okq (⟨"TwoInOneModel", "readRule", "(I)V"⟩, 80) := ⟨⟨by decide +kernel, by decide +kernel⟩, List.mem_of_getElem? (i := 1626) (by decide +kernel), List.mem_of_getElem? (i := 1991) (by decide +kernel), List.mem_of_getElem? (i := 1992) (by decide +kernel)⟩
theorem lw_p106 : lw_okq (⟨"TwoInOneModel", "e", "()V"⟩, 80) := ⟨⟨by decide +kernel, by decide +kernel⟩, List.mem_of_getElem? (i := 1626) (by decide +kernel), List.mem_of_getElem? (i := 1995) (by decide +kernel), List.mem_of_getElem? (i := 1996) (by decide +kernel)⟩
theorem lw_p107 : lw_okq (⟨"TwoInOneModel", "pushE", "(II)V"⟩, 80) := ⟨⟨by decide +kernel, by decide +kernel⟩, List.mem_of_getElem? (i := 1626) (by decide +kernel), List.mem_of_getElem? (i := 1999) (by decide +kernel), List.mem_of_getElem? (i := 2000) (by decide +kernel)⟩
theorem lw_p108 : lw_okq (⟨"TwoInOneModel", "unit", "()Z"⟩, 80) := ⟨⟨by decide +kernel, by decide +kernel⟩, List.mem_of_getElem? (i := 1626) (by decide +kernel), List.mem_of_getElem? (i := 2003) (by decide +kernel), List.mem_of_getElem? (i := 2004) (by decide +kernel)⟩
theorem lw_p109 : lw_okq (⟨"TwoInOneModel", "isSignHere", "(I)Z"⟩, 80) := ⟨⟨by decide +kernel, by decide +kernel⟩, List.mem_of_getElem? (i := 1626) (by decide +kernel), List.mem_of_getElem? (i := 2007) (by decide +kernel), List.mem_of_getElem? (i := 2008) (by decide +kernel)⟩
theorem lw_p110 : lw_okq (⟨"TwoInOneModel", "wordHere", "()I"⟩, 80) := ⟨⟨by decide +kernel, by decide +kernel⟩, List.mem_of_getElem? (i := 1626) (by decide +kernel), List.mem_of_getElem? (i := 2011) (by decide +kernel), List.mem_of_getElem? (i := 2012) (by decide +kernel)⟩
theorem lw_p111 : lw_okq (⟨"TwoInOneModel", "emit", "(II)V"⟩, 80) := ⟨⟨by decide +kernel, by decide +kernel⟩, List.mem_of_getElem? (i := 1626) (by decide +kernel), List.mem_of_getElem? (i := 2015) (by decide +kernel), List.mem_of_getElem? (i := 2016) (by decide +kernel)⟩
def lw_privs_7 : List (MethodName × Nat) := [(⟨"TwoInOneModel", "here", "([JII)I"⟩, 80), (⟨"TwoInOneModel", "fresh", "(I)J"⟩, 80), (⟨"TwoInOneModel", "after", "(JII)I"⟩, 80), (⟨"TwoInOneModel", "must", "(Z)V"⟩, 80), (⟨"TwoInOneModel", "numeral", "(II)I"⟩, 80), (⟨"TwoInOneModel", "readLike", "()V"⟩, 80), (⟨"TwoInOneModel", "known", "()I"⟩, 80), (⟨"TwoInOneModel", "readPerson", "()V"⟩, 80), (⟨"TwoInOneModel", "readDeed", "()V"⟩, 80), (⟨"TwoInOneModel", "readRule", "(I)V"⟩, 80), (⟨"TwoInOneModel", "e", "()V"⟩, 80), (⟨"TwoInOneModel", "pushE", "(II)V"⟩, 80), (⟨"TwoInOneModel", "unit", "()Z"⟩, 80), (⟨"TwoInOneModel", "isSignHere", "(I)Z"⟩, 80), (⟨"TwoInOneModel", "wordHere", "()I"⟩, 80), (⟨"TwoInOneModel", "emit", "(II)V"⟩, 80)]
theorem lw_r7 : ∀ q ∈ lw_privs_7, lw_okq q := List.forall_mem_cons.mpr ⟨lw_p96, List.forall_mem_cons.mpr ⟨lw_p97, List.forall_mem_cons.mpr ⟨lw_p98, List.forall_mem_cons.mpr ⟨lw_p99, List.forall_mem_cons.mpr ⟨lw_p100, List.forall_mem_cons.mpr ⟨lw_p101, List.forall_mem_cons.mpr ⟨lw_p102, List.forall_mem_cons.mpr ⟨lw_p103, List.forall_mem_cons.mpr ⟨lw_p104, List.forall_mem_cons.mpr ⟨lw_p105, List.forall_mem_cons.mpr ⟨lw_p106, List.forall_mem_cons.mpr ⟨lw_p107, List.forall_mem_cons.mpr ⟨lw_p108, List.forall_mem_cons.mpr ⟨lw_p109, List.forall_mem_cons.mpr ⟨lw_p110, List.forall_mem_cons.mpr ⟨lw_p111, fun _ h => absurd h List.not_mem_nil⟩⟩⟩⟩⟩⟩⟩⟩⟩⟩⟩⟩⟩⟩⟩⟩
theorem lw_p112 : lw_okq (⟨"TwoInOneModel", "behindUnit", "()Z"⟩, 80) := ⟨⟨by decide +kernel, by decide +kernel⟩, List.mem_of_getElem? (i := 1626) (by decide +kernel), List.mem_of_getElem? (i := 2019) (by decide +kernel), List.mem_of_getElem? (i := 2020) (by decide +kernel)⟩
theorem lw_p113 : lw_okq (⟨"TwoInOneModel", "rankHere", "()I"⟩, 80) := ⟨⟨by decide +kernel, by decide +kernel⟩, List.mem_of_getElem? (i := 1626) (by decide +kernel), List.mem_of_getElem? (i := 2023) (by decide +kernel), List.mem_of_getElem? (i := 2024) (by decide +kernel)⟩
theorem lw_p114 : lw_okq (⟨"TwoInOneModel", "isCompared", "()Z"⟩, 80) := ⟨⟨by decide +kernel, by decide +kernel⟩, List.mem_of_getElem? (i := 1626) (by decide +kernel), List.mem_of_getElem? (i := 2027) (by decide +kernel), List.mem_of_getElem? (i := 2028) (by decide +kernel)⟩
theorem lw_p115 : lw_okq (⟨"TwoInOneModel", "readFavour", "()V"⟩, 80) := ⟨⟨by decide +kernel, by decide +kernel⟩, List.mem_of_getElem? (i := 1626) (by decide +kernel), List.mem_of_getElem? (i := 2031) (by decide +kernel), List.mem_of_getElem? (i := 2032) (by decide +kernel)⟩
theorem lw_p116 : lw_okq (⟨"TwoInOneModel", "isHalf", "(I)Z"⟩, 80) := ⟨⟨by decide +kernel, by decide +kernel⟩, List.mem_of_getElem? (i := 1626) (by decide +kernel), List.mem_of_getElem? (i := 2043) (by decide +kernel), List.mem_of_getElem? (i := 2044) (by decide +kernel)⟩
theorem lw_p117 : lw_okq (⟨"TwoInOneModel", "isAlive", "(I)Z"⟩, 80) := ⟨⟨by decide +kernel, by decide +kernel⟩, List.mem_of_getElem? (i := 1626) (by decide +kernel), List.mem_of_getElem? (i := 2050) (by decide +kernel), List.mem_of_getElem? (i := 2051) (by decide +kernel)⟩
theorem lw_p118 : lw_okq (⟨"TwoInOneModel", "likeOf", "(II)I"⟩, 80) := ⟨⟨by decide +kernel, by decide +kernel⟩, List.mem_of_getElem? (i := 1626) (by decide +kernel), List.mem_of_getElem? (i := 2058) (by decide +kernel), List.mem_of_getElem? (i := 2059) (by decide +kernel)⟩
theorem lw_p119 : lw_okq (⟨"TwoInOneModel", "isPerson", "(I)Z"⟩, 80) := ⟨⟨by decide +kernel, by decide +kernel⟩, List.mem_of_getElem? (i := 1626) (by decide +kernel), List.mem_of_getElem? (i := 2066) (by decide +kernel), List.mem_of_getElem? (i := 2067) (by decide +kernel)⟩
theorem lw_p120 : lw_okq (⟨"TwoInOneModel", "turnOf", "(I)I"⟩, 80) := ⟨⟨by decide +kernel, by decide +kernel⟩, List.mem_of_getElem? (i := 1626) (by decide +kernel), List.mem_of_getElem? (i := 2070) (by decide +kernel), List.mem_of_getElem? (i := 2071) (by decide +kernel)⟩
theorem lw_p121 : lw_okq (⟨"TwoInOneModel", "whoIs", "(II)I"⟩, 80) := ⟨⟨by decide +kernel, by decide +kernel⟩, List.mem_of_getElem? (i := 1626) (by decide +kernel), List.mem_of_getElem? (i := 2078) (by decide +kernel), List.mem_of_getElem? (i := 2079) (by decide +kernel)⟩
theorem lw_p122 : lw_okq (⟨"TwoInOneModel", "halfAt", "(II)I"⟩, 80) := ⟨⟨by decide +kernel, by decide +kernel⟩, List.mem_of_getElem? (i := 1626) (by decide +kernel), List.mem_of_getElem? (i := 2082) (by decide +kernel), List.mem_of_getElem? (i := 2083) (by decide +kernel)⟩
theorem lw_p123 : lw_okq (⟨"TwoInOneModel", "caresOf", "(I)I"⟩, 80) := ⟨⟨by decide +kernel, by decide +kernel⟩, List.mem_of_getElem? (i := 1626) (by decide +kernel), List.mem_of_getElem? (i := 2090) (by decide +kernel), List.mem_of_getElem? (i := 2091) (by decide +kernel)⟩
theorem lw_p124 : lw_okq (⟨"TwoInOneModel", "chosen", "(IIII)I"⟩, 80) := ⟨⟨by decide +kernel, by decide +kernel⟩, List.mem_of_getElem? (i := 1626) (by decide +kernel), List.mem_of_getElem? (i := 2094) (by decide +kernel), List.mem_of_getElem? (i := 2095) (by decide +kernel)⟩
theorem lw_p125 : lw_okq (⟨"TwoInOneModel", "deedMany", "()I"⟩, 80) := ⟨⟨by decide +kernel, by decide +kernel⟩, List.mem_of_getElem? (i := 1626) (by decide +kernel), List.mem_of_getElem? (i := 2098) (by decide +kernel), List.mem_of_getElem? (i := 2099) (by decide +kernel)⟩
theorem lw_p126 : lw_okq (⟨"TwoInOneModel", "joyOf", "(IIII)I"⟩, 80) := ⟨⟨by decide +kernel, by decide +kernel⟩, List.mem_of_getElem? (i := 1626) (by decide +kernel), List.mem_of_getElem? (i := 2102) (by decide +kernel), List.mem_of_getElem? (i := 2103) (by decide +kernel)⟩
theorem lw_p127 : lw_okq (⟨"TwoInOneModel", "askOf", "(III)V"⟩, 80) := ⟨⟨by decide +kernel, by decide +kernel⟩, List.mem_of_getElem? (i := 1626) (by decide +kernel), List.mem_of_getElem? (i := 2106) (by decide +kernel), List.mem_of_getElem? (i := 2107) (by decide +kernel)⟩
def lw_privs_8 : List (MethodName × Nat) := [(⟨"TwoInOneModel", "behindUnit", "()Z"⟩, 80), (⟨"TwoInOneModel", "rankHere", "()I"⟩, 80), (⟨"TwoInOneModel", "isCompared", "()Z"⟩, 80), (⟨"TwoInOneModel", "readFavour", "()V"⟩, 80), (⟨"TwoInOneModel", "isHalf", "(I)Z"⟩, 80), (⟨"TwoInOneModel", "isAlive", "(I)Z"⟩, 80), (⟨"TwoInOneModel", "likeOf", "(II)I"⟩, 80), (⟨"TwoInOneModel", "isPerson", "(I)Z"⟩, 80), (⟨"TwoInOneModel", "turnOf", "(I)I"⟩, 80), (⟨"TwoInOneModel", "whoIs", "(II)I"⟩, 80), (⟨"TwoInOneModel", "halfAt", "(II)I"⟩, 80), (⟨"TwoInOneModel", "caresOf", "(I)I"⟩, 80), (⟨"TwoInOneModel", "chosen", "(IIII)I"⟩, 80), (⟨"TwoInOneModel", "deedMany", "()I"⟩, 80), (⟨"TwoInOneModel", "joyOf", "(IIII)I"⟩, 80), (⟨"TwoInOneModel", "askOf", "(III)V"⟩, 80)]
theorem lw_r8 : ∀ q ∈ lw_privs_8, lw_okq q := List.forall_mem_cons.mpr ⟨lw_p112, List.forall_mem_cons.mpr ⟨lw_p113, List.forall_mem_cons.mpr ⟨lw_p114, List.forall_mem_cons.mpr ⟨lw_p115, List.forall_mem_cons.mpr ⟨lw_p116, List.forall_mem_cons.mpr ⟨lw_p117, List.forall_mem_cons.mpr ⟨lw_p118, List.forall_mem_cons.mpr ⟨lw_p119, List.forall_mem_cons.mpr ⟨lw_p120, List.forall_mem_cons.mpr ⟨lw_p121, List.forall_mem_cons.mpr ⟨lw_p122, List.forall_mem_cons.mpr ⟨lw_p123, List.forall_mem_cons.mpr ⟨lw_p124, List.forall_mem_cons.mpr ⟨lw_p125, List.forall_mem_cons.mpr ⟨lw_p126, List.forall_mem_cons.mpr ⟨lw_p127, fun _ h => absurd h List.not_mem_nil⟩⟩⟩⟩⟩⟩⟩⟩⟩⟩⟩⟩⟩⟩⟩⟩
theorem lw_p128 : lw_okq (⟨"TwoInOneModel", "comes", "(I)I"⟩, 80) := ⟨⟨by decide +kernel, by decide +kernel⟩, List.mem_of_getElem? (i := 1626) (by decide +kernel), List.mem_of_getElem? (i := 2110) (by decide +kernel), List.mem_of_getElem? (i := 2111) (by decide +kernel)⟩
theorem lw_p129 : lw_okq (⟨"TwoInOneModel", "asked", "(II)I"⟩, 80) := ⟨⟨by decide +kernel, by decide +kernel⟩, List.mem_of_getElem? (i := 1626) (by decide +kernel), List.mem_of_getElem? (i := 2114) (by decide +kernel), List.mem_of_getElem? (i := 2115) (by decide +kernel)⟩
theorem lw_p130 : lw_okq (⟨"TwoInOneModel", "loadBehind", "(IIII)I"⟩, 80) := ⟨⟨by decide +kernel, by decide +kernel⟩, List.mem_of_getElem? (i := 1626) (by decide +kernel), List.mem_of_getElem? (i := 2121) (by decide +kernel), List.mem_of_getElem? (i := 2122) (by decide +kernel)⟩
theorem lw_p131 : lw_okq (⟨"TwoInOneModel", "greedyJoy", "(IIIII)I"⟩, 80) := ⟨⟨by decide +kernel, by decide +kernel⟩, List.mem_of_getElem? (i := 1626) (by decide +kernel), List.mem_of_getElem? (i := 2125) (by decide +kernel), List.mem_of_getElem? (i := 2126) (by decide +kernel)⟩
theorem lw_p132 : lw_okq (⟨"TwoInOneModel", "greedy", "(III)I"⟩, 80) := ⟨⟨by decide +kernel, by decide +kernel⟩, List.mem_of_getElem? (i := 1626) (by decide +kernel), List.mem_of_getElem? (i := 2129) (by decide +kernel), List.mem_of_getElem? (i := 2130) (by decide +kernel)⟩
theorem lw_p133 : lw_okq (⟨"TwoInOneModel", "isDeed", "(I)Z"⟩, 80) := ⟨⟨by decide +kernel, by decide +kernel⟩, List.mem_of_getElem? (i := 1626) (by decide +kernel), List.mem_of_getElem? (i := 2137) (by decide +kernel), List.mem_of_getElem? (i := 2138) (by decide +kernel)⟩
theorem lw_p134 : lw_okq (⟨"TwoInOneModel", "keepAct", "()V"⟩, 80) := ⟨⟨by decide +kernel, by decide +kernel⟩, List.mem_of_getElem? (i := 1626) (by decide +kernel), List.mem_of_getElem? (i := 2157) (by decide +kernel), List.mem_of_getElem? (i := 2158) (by decide +kernel)⟩
theorem lw_p135 : lw_okq (⟨"TwoInOneModel", "ownChoice", "(I)I"⟩, 80) := ⟨⟨by decide +kernel, by decide +kernel⟩, List.mem_of_getElem? (i := 1626) (by decide +kernel), List.mem_of_getElem? (i := 2161) (by decide +kernel), List.mem_of_getElem? (i := 2162) (by decide +kernel)⟩
theorem lw_p136 : lw_okq (⟨"TwoInOneModel", "does", "(II)I"⟩, 80) := ⟨⟨by decide +kernel, by decide +kernel⟩, List.mem_of_getElem? (i := 1626) (by decide +kernel), List.mem_of_getElem? (i := 2165) (by decide +kernel), List.mem_of_getElem? (i := 2166) (by decide +kernel)⟩
theorem lw_p137 : lw_okq (⟨"TwoInOneModel", "exchangeAct", "()V"⟩, 80) := ⟨⟨by decide +kernel, by decide +kernel⟩, List.mem_of_getElem? (i := 1626) (by decide +kernel), List.mem_of_getElem? (i := 2189) (by decide +kernel), List.mem_of_getElem? (i := 2190) (by decide +kernel)⟩
theorem lw_p138 : lw_okq (⟨"TwoInOneModel", "isOf", "(II)Z"⟩, 80) := ⟨⟨by decide +kernel, by decide +kernel⟩, List.mem_of_getElem? (i := 1626) (by decide +kernel), List.mem_of_getElem? (i := 2205) (by decide +kernel), List.mem_of_getElem? (i := 2206) (by decide +kernel)⟩
theorem lw_p139 : lw_okq (⟨"TwoInOneModel", "layGame", "(IIZ)V"⟩, 80) := ⟨⟨by decide +kernel, by decide +kernel⟩, List.mem_of_getElem? (i := 1626) (by decide +kernel), List.mem_of_getElem? (i := 2212) (by decide +kernel), List.mem_of_getElem? (i := 2213) (by decide +kernel)⟩
theorem lw_p140 : lw_okq (⟨"TwoInOneModel", "layPlace", "(IIIZ)V"⟩, 80) := ⟨⟨by decide +kernel, by decide +kernel⟩, List.mem_of_getElem? (i := 1626) (by decide +kernel), List.mem_of_getElem? (i := 2216) (by decide +kernel), List.mem_of_getElem? (i := 2217) (by decide +kernel)⟩
theorem lw_p141 : lw_okq (⟨"TwoInOneModel", "placeOf", "(II)I"⟩, 80) := ⟨⟨by decide +kernel, by decide +kernel⟩, List.mem_of_getElem? (i := 1626) (by decide +kernel), List.mem_of_getElem? (i := 2220) (by decide +kernel), List.mem_of_getElem? (i := 2221) (by decide +kernel)⟩
theorem lw_p142 : lw_okq (⟨"TwoInOneModel", "wouldBring", "(IIIIIZ)I"⟩, 80) := ⟨⟨by decide +kernel, by decide +kernel⟩, List.mem_of_getElem? (i := 1626) (by decide +kernel), List.mem_of_getElem? (i := 2224) (by decide +kernel), List.mem_of_getElem? (i := 2225) (by decide +kernel)⟩
theorem lw_p143 : lw_okq (⟨"TwoInOneModel", "layRow", "(II)V"⟩, 80) := ⟨⟨by decide +kernel, by decide +kernel⟩, List.mem_of_getElem? (i := 1626) (by decide +kernel), List.mem_of_getElem? (i := 2228) (by decide +kernel), List.mem_of_getElem? (i := 2229) (by decide +kernel)⟩
def lw_privs_9 : List (MethodName × Nat) := [(⟨"TwoInOneModel", "comes", "(I)I"⟩, 80), (⟨"TwoInOneModel", "asked", "(II)I"⟩, 80), (⟨"TwoInOneModel", "loadBehind", "(IIII)I"⟩, 80), (⟨"TwoInOneModel", "greedyJoy", "(IIIII)I"⟩, 80), (⟨"TwoInOneModel", "greedy", "(III)I"⟩, 80), (⟨"TwoInOneModel", "isDeed", "(I)Z"⟩, 80), (⟨"TwoInOneModel", "keepAct", "()V"⟩, 80), (⟨"TwoInOneModel", "ownChoice", "(I)I"⟩, 80), (⟨"TwoInOneModel", "does", "(II)I"⟩, 80), (⟨"TwoInOneModel", "exchangeAct", "()V"⟩, 80), (⟨"TwoInOneModel", "isOf", "(II)Z"⟩, 80), (⟨"TwoInOneModel", "layGame", "(IIZ)V"⟩, 80), (⟨"TwoInOneModel", "layPlace", "(IIIZ)V"⟩, 80), (⟨"TwoInOneModel", "placeOf", "(II)I"⟩, 80), (⟨"TwoInOneModel", "wouldBring", "(IIIIIZ)I"⟩, 80), (⟨"TwoInOneModel", "layRow", "(II)V"⟩, 80)]
theorem lw_r9 : ∀ q ∈ lw_privs_9, lw_okq q := List.forall_mem_cons.mpr ⟨lw_p128, List.forall_mem_cons.mpr ⟨lw_p129, List.forall_mem_cons.mpr ⟨lw_p130, List.forall_mem_cons.mpr ⟨lw_p131, List.forall_mem_cons.mpr ⟨lw_p132, List.forall_mem_cons.mpr ⟨lw_p133, List.forall_mem_cons.mpr ⟨lw_p134, List.forall_mem_cons.mpr ⟨lw_p135, List.forall_mem_cons.mpr ⟨lw_p136, List.forall_mem_cons.mpr ⟨lw_p137, List.forall_mem_cons.mpr ⟨lw_p138, List.forall_mem_cons.mpr ⟨lw_p139, List.forall_mem_cons.mpr ⟨lw_p140, List.forall_mem_cons.mpr ⟨lw_p141, List.forall_mem_cons.mpr ⟨lw_p142, List.forall_mem_cons.mpr ⟨lw_p143, fun _ h => absurd h List.not_mem_nil⟩⟩⟩⟩⟩⟩⟩⟩⟩⟩⟩⟩⟩⟩⟩⟩
theorem lw_p144 : lw_okq (⟨"TwoInOneModel", "canBargain", "(II)Z"⟩, 80) := ⟨⟨by decide +kernel, by decide +kernel⟩, List.mem_of_getElem? (i := 1626) (by decide +kernel), List.mem_of_getElem? (i := 2248) (by decide +kernel), List.mem_of_getElem? (i := 2249) (by decide +kernel)⟩
theorem lw_p145 : lw_okq (⟨"TwoInOneModel", "doesHold", "(IIII)Z"⟩, 80) := ⟨⟨by decide +kernel, by decide +kernel⟩, List.mem_of_getElem? (i := 1626) (by decide +kernel), List.mem_of_getElem? (i := 2252) (by decide +kernel), List.mem_of_getElem? (i := 2253) (by decide +kernel)⟩
theorem lw_p146 : lw_okq (⟨"TwoInOneModel", "kept", "(IIIII)I"⟩, 80) := ⟨⟨by decide +kernel, by decide +kernel⟩, List.mem_of_getElem? (i := 1626) (by decide +kernel), List.mem_of_getElem? (i := 2256) (by decide +kernel), List.mem_of_getElem? (i := 2257) (by decide +kernel)⟩
theorem lw_p147 : lw_okq (⟨"TwoInOneModel", "areChosen", "(III)Z"⟩, 80) := ⟨⟨by decide +kernel, by decide +kernel⟩, List.mem_of_getElem? (i := 1626) (by decide +kernel), List.mem_of_getElem? (i := 2264) (by decide +kernel), List.mem_of_getElem? (i := 2265) (by decide +kernel)⟩
theorem lw_p148 : lw_okq (⟨"TwoInOneModel", "goThrough", "(Z)V"⟩, 80) := ⟨⟨by decide +kernel, by decide +kernel⟩, List.mem_of_getElem? (i := 1626) (by decide +kernel), List.mem_of_getElem? (i := 2276) (by decide +kernel), List.mem_of_getElem? (i := 2277) (by decide +kernel)⟩
theorem lw_p149 : lw_okq (⟨"TwoInOneModel", "firstFree", "()I"⟩, 80) := ⟨⟨by decide +kernel, by decide +kernel⟩, List.mem_of_getElem? (i := 1626) (by decide +kernel), List.mem_of_getElem? (i := 2283) (by decide +kernel), List.mem_of_getElem? (i := 2284) (by decide +kernel)⟩
theorem lw_p150 : lw_okq (⟨"TwoInOneModel", "canHave", "(IIZ)Z"⟩, 80) := ⟨⟨by decide +kernel, by decide +kernel⟩, List.mem_of_getElem? (i := 1626) (by decide +kernel), List.mem_of_getElem? (i := 2287) (by decide +kernel), List.mem_of_getElem? (i := 2288) (by decide +kernel)⟩
theorem lw_p151 : lw_okq (⟨"TwoInOneModel", "takes", "(IZ)I"⟩, 80) := ⟨⟨by decide +kernel, by decide +kernel⟩, List.mem_of_getElem? (i := 1626) (by decide +kernel), List.mem_of_getElem? (i := 2291) (by decide +kernel), List.mem_of_getElem? (i := 2292) (by decide +kernel)⟩
theorem lw_p152 : lw_okq (⟨"TwoInOneModel", "isFast", "()Z"⟩, 80) := ⟨⟨by decide +kernel, by decide +kernel⟩, List.mem_of_getElem? (i := 1626) (by decide +kernel), List.mem_of_getElem? (i := 2295) (by decide +kernel), List.mem_of_getElem? (i := 2296) (by decide +kernel)⟩
theorem lw_p153 : lw_okq (⟨"TwoInOneModel", "liking", "(I)I"⟩, 80) := ⟨⟨by decide +kernel, by decide +kernel⟩, List.mem_of_getElem? (i := 1626) (by decide +kernel), List.mem_of_getElem? (i := 2299) (by decide +kernel), List.mem_of_getElem? (i := 2300) (by decide +kernel)⟩
theorem lw_p154 : lw_okq (⟨"TwoInOneModel", "likedInAll", "()I"⟩, 80) := ⟨⟨by decide +kernel, by decide +kernel⟩, List.mem_of_getElem? (i := 1626) (by decide +kernel), List.mem_of_getElem? (i := 2303) (by decide +kernel), List.mem_of_getElem? (i := 2304) (by decide +kernel)⟩
theorem lw_p155 : lw_okq (⟨"TwoInOneModel", "electedOn", "(I)I"⟩, 80) := ⟨⟨by decide +kernel, by decide +kernel⟩, List.mem_of_getElem? (i := 1626) (by decide +kernel), List.mem_of_getElem? (i := 2315) (by decide +kernel), List.mem_of_getElem? (i := 2316) (by decide +kernel)⟩
theorem lw_p156 : lw_okq (⟨"TwoInOneModel", "clearVotes", "()V"⟩, 80) := ⟨⟨by decide +kernel, by decide +kernel⟩, List.mem_of_getElem? (i := 1626) (by decide +kernel), List.mem_of_getElem? (i := 2319) (by decide +kernel), List.mem_of_getElem? (i := 2320) (by decide +kernel)⟩
theorem lw_p157 : lw_okq (⟨"TwoInOneModel", "mostVotes", "()I"⟩, 80) := ⟨⟨by decide +kernel, by decide +kernel⟩, List.mem_of_getElem? (i := 1626) (by decide +kernel), List.mem_of_getElem? (i := 2323) (by decide +kernel), List.mem_of_getElem? (i := 2324) (by decide +kernel)⟩
theorem lw_p158 : lw_okq (⟨"TwoInOneModel", "add", "(III)I"⟩, 80) := ⟨⟨by decide +kernel, by decide +kernel⟩, List.mem_of_getElem? (i := 1626) (by decide +kernel), List.mem_of_getElem? (i := 2340) (by decide +kernel), List.mem_of_getElem? (i := 2341) (by decide +kernel)⟩
theorem lw_p159 : lw_okq (⟨"TwoInOneModel", "goAlibis", "(III)V"⟩, 80) := ⟨⟨by decide +kernel, by decide +kernel⟩, List.mem_of_getElem? (i := 1626) (by decide +kernel), List.mem_of_getElem? (i := 2361) (by decide +kernel), List.mem_of_getElem? (i := 2362) (by decide +kernel)⟩
def lw_privs_10 : List (MethodName × Nat) := [(⟨"TwoInOneModel", "canBargain", "(II)Z"⟩, 80), (⟨"TwoInOneModel", "doesHold", "(IIII)Z"⟩, 80), (⟨"TwoInOneModel", "kept", "(IIIII)I"⟩, 80), (⟨"TwoInOneModel", "areChosen", "(III)Z"⟩, 80), (⟨"TwoInOneModel", "goThrough", "(Z)V"⟩, 80), (⟨"TwoInOneModel", "firstFree", "()I"⟩, 80), (⟨"TwoInOneModel", "canHave", "(IIZ)Z"⟩, 80), (⟨"TwoInOneModel", "takes", "(IZ)I"⟩, 80), (⟨"TwoInOneModel", "isFast", "()Z"⟩, 80), (⟨"TwoInOneModel", "liking", "(I)I"⟩, 80), (⟨"TwoInOneModel", "likedInAll", "()I"⟩, 80), (⟨"TwoInOneModel", "electedOn", "(I)I"⟩, 80), (⟨"TwoInOneModel", "clearVotes", "()V"⟩, 80), (⟨"TwoInOneModel", "mostVotes", "()I"⟩, 80), (⟨"TwoInOneModel", "add", "(III)I"⟩, 80), (⟨"TwoInOneModel", "goAlibis", "(III)V"⟩, 80)]
theorem lw_r10 : ∀ q ∈ lw_privs_10, lw_okq q := List.forall_mem_cons.mpr ⟨lw_p144, List.forall_mem_cons.mpr ⟨lw_p145, List.forall_mem_cons.mpr ⟨lw_p146, List.forall_mem_cons.mpr ⟨lw_p147, List.forall_mem_cons.mpr ⟨lw_p148, List.forall_mem_cons.mpr ⟨lw_p149, List.forall_mem_cons.mpr ⟨lw_p150, List.forall_mem_cons.mpr ⟨lw_p151, List.forall_mem_cons.mpr ⟨lw_p152, List.forall_mem_cons.mpr ⟨lw_p153, List.forall_mem_cons.mpr ⟨lw_p154, List.forall_mem_cons.mpr ⟨lw_p155, List.forall_mem_cons.mpr ⟨lw_p156, List.forall_mem_cons.mpr ⟨lw_p157, List.forall_mem_cons.mpr ⟨lw_p158, List.forall_mem_cons.mpr ⟨lw_p159, fun _ h => absurd h List.not_mem_nil⟩⟩⟩⟩⟩⟩⟩⟩⟩⟩⟩⟩⟩⟩⟩⟩
theorem lw_p160 : lw_okq (⟨"TwoInOneModel", "takesAlibi", "(IIIIII)V"⟩, 80) := ⟨⟨by decide +kernel, by decide +kernel⟩, List.mem_of_getElem? (i := 1626) (by decide +kernel), List.mem_of_getElem? (i := 2365) (by decide +kernel), List.mem_of_getElem? (i := 2366) (by decide +kernel)⟩
theorem lw_p161 : lw_okq (⟨"TwoInOneModel", "layTrial", "(IIII)V"⟩, 80) := ⟨⟨by decide +kernel, by decide +kernel⟩, List.mem_of_getElem? (i := 1626) (by decide +kernel), List.mem_of_getElem? (i := 2369) (by decide +kernel), List.mem_of_getElem? (i := 2370) (by decide +kernel)⟩
theorem lw_p162 : lw_okq (⟨"TwoInOneModel", "isAlibi", "(II)Z"⟩, 80) := ⟨⟨by decide +kernel, by decide +kernel⟩, List.mem_of_getElem? (i := 1626) (by decide +kernel), List.mem_of_getElem? (i := 2373) (by decide +kernel), List.mem_of_getElem? (i := 2374) (by decide +kernel)⟩
theorem lw_p163 : lw_okq (⟨"TwoInOneModel", "counts", "(II)Z"⟩, 80) := ⟨⟨by decide +kernel, by decide +kernel⟩, List.mem_of_getElem? (i := 1626) (by decide +kernel), List.mem_of_getElem? (i := 2377) (by decide +kernel), List.mem_of_getElem? (i := 2378) (by decide +kernel)⟩
theorem lw_p164 : lw_okq (⟨"TwoInOneModel", "isStranger", "(II)Z"⟩, 80) := ⟨⟨by decide +kernel, by decide +kernel⟩, List.mem_of_getElem? (i := 1626) (by decide +kernel), List.mem_of_getElem? (i := 2389) (by decide +kernel), List.mem_of_getElem? (i := 2390) (by decide +kernel)⟩
theorem lw_p165 : lw_okq (⟨"TwoInOneModel", "skillsSeen", "(I)I"⟩, 80) := ⟨⟨by decide +kernel, by decide +kernel⟩, List.mem_of_getElem? (i := 1626) (by decide +kernel), List.mem_of_getElem? (i := 2393) (by decide +kernel), List.mem_of_getElem? (i := 2394) (by decide +kernel)⟩
def lw_privs_11 : List (MethodName × Nat) := [(⟨"TwoInOneModel", "takesAlibi", "(IIIIII)V"⟩, 80), (⟨"TwoInOneModel", "layTrial", "(IIII)V"⟩, 80), (⟨"TwoInOneModel", "isAlibi", "(II)Z"⟩, 80), (⟨"TwoInOneModel", "counts", "(II)Z"⟩, 80), (⟨"TwoInOneModel", "isStranger", "(II)Z"⟩, 80), (⟨"TwoInOneModel", "skillsSeen", "(I)I"⟩, 80)]
theorem lw_r11 : ∀ q ∈ lw_privs_11, lw_okq q := List.forall_mem_cons.mpr ⟨lw_p160, List.forall_mem_cons.mpr ⟨lw_p161, List.forall_mem_cons.mpr ⟨lw_p162, List.forall_mem_cons.mpr ⟨lw_p163, List.forall_mem_cons.mpr ⟨lw_p164, List.forall_mem_cons.mpr ⟨lw_p165, fun _ h => absurd h List.not_mem_nil⟩⟩⟩⟩⟩⟩
def lw_privs : List (MethodName × Nat) := lw_privs_1 ++ (lw_privs_2 ++ (lw_privs_3 ++ (lw_privs_4 ++ (lw_privs_5 ++ (lw_privs_6 ++ (lw_privs_7 ++ (lw_privs_8 ++ (lw_privs_9 ++ (lw_privs_10 ++ (lw_privs_11))))))))))
def lw_tbl : List Cond := k2_sels lw_privs ++ tables_1
theorem lw_privs_ok : ∀ q ∈ lw_privs, lw_okq q := by
  show ∀ q ∈ lw_privs_1 ++ (lw_privs_2 ++ (lw_privs_3 ++ (lw_privs_4 ++ (lw_privs_5 ++ (lw_privs_6 ++ (lw_privs_7 ++ (lw_privs_8 ++ (lw_privs_9 ++ (lw_privs_10 ++ (lw_privs_11)))))))))), lw_okq q
  exact List.forall_mem_append.mpr ⟨lw_r1, List.forall_mem_append.mpr ⟨lw_r2, List.forall_mem_append.mpr ⟨lw_r3, List.forall_mem_append.mpr ⟨lw_r4, List.forall_mem_append.mpr ⟨lw_r5, List.forall_mem_append.mpr ⟨lw_r6, List.forall_mem_append.mpr ⟨lw_r7, List.forall_mem_append.mpr ⟨lw_r8, List.forall_mem_append.mpr ⟨lw_r9, List.forall_mem_append.mpr ⟨lw_r10, lw_r11⟩⟩⟩⟩⟩⟩⟩⟩⟩⟩

def RX0 : String := "TwoInOne$Course"
def TX0 : u_T := fun k => match k with
  | 0 => ("TwoInOne$Course", "told", "LTwoInOne$Told;", true)
  | 1 => ("TwoInOne$Course", "now", "LTwoInOne$State;", true)
  | 2 => ("TwoInOne$Course", "stack", "[I", true)
  | 3 => ("TwoInOne$Course", "votes", "[I", true)
  | 4 => ("TwoInOne$Course", "day", "I", false)
  | 5 => ("TwoInOne$Course", "skill", "I", false)
  | 6 => ("TwoInOne$Course", "again", "I", false)
  | _ => ("TwoInOne$Course", "greatestJoy", "I", false)
def tyX0 : Nat → FieldType := fun k => match k with
  | 0 => .object "TwoInOne$Told"
  | 1 => .object "TwoInOne$State"
  | 2 => .array .int
  | 3 => .array .int
  | 4 => .int
  | 5 => .int
  | 6 => .int
  | _ => .int
abbrev wsX00 : List Cond := u_ws RX0 TX0 8
theorem nmX0 : ∀ a, a < 8 → ∀ b, b < 8 → a ≠ b → (TX0 a).2.1 ≠ (TX0 b).2.1 := by decide +kernel
theorem tyX0_ok : ∀ k, k < 8 → parseFieldDescriptor (TX0 k).2.2.1 = some (tyX0 k) := by decide +kernel

def RX1 : String := "TwoInOne$Game"
def TX1 : u_T := fun k => match k with
  | 0 => ("TwoInOne$Game", "told", "LTwoInOne$Told;", true)
  | 1 => ("TwoInOne$Game", "now", "LTwoInOne$State;", true)
  | 2 => ("TwoInOne$Game", "course", "LTwoInOne$Course;", true)
  | 3 => ("TwoInOne$Game", "choice", "[I", true)
  | 4 => ("TwoInOne$Game", "worth", "[I", true)
  | 5 => ("TwoInOne$Game", "most", "[J", true)
  | 6 => ("TwoInOne$Game", "least", "[J", true)
  | 7 => ("TwoInOne$Game", "bargain", "LTwoInOne$Row;", true)
  | 8 => ("TwoInOne$Game", "person", "I", false)
  | _ => ("TwoInOne$Game", "length", "I", false)
def tyX1 : Nat → FieldType := fun k => match k with
  | 0 => .object "TwoInOne$Told"
  | 1 => .object "TwoInOne$State"
  | 2 => .object "TwoInOne$Course"
  | 3 => .array .int
  | 4 => .array .int
  | 5 => .array .long
  | 6 => .array .long
  | 7 => .object "TwoInOne$Row"
  | 8 => .int
  | _ => .int
abbrev wsX10 : List Cond := u_ws RX1 TX1 10
theorem nmX1 : ∀ a, a < 10 → ∀ b, b < 10 → a ≠ b → (TX1 a).2.1 ≠ (TX1 b).2.1 := by decide +kernel
theorem tyX1_ok : ∀ k, k < 10 → parseFieldDescriptor (TX1 k).2.2.1 = some (tyX1 k) := by decide +kernel

def RX2 : String := "TwoInOne$History"
def TX2 : u_T := fun k => match k with
  | 0 => ("TwoInOne$History", "kept", "[LTwoInOne$State;", true)
  | 1 => ("TwoInOne$History", "boxes", "[LTwoInOne$State;", true)
  | 2 => ("TwoInOne$History", "filled", "[Z", true)
  | 3 => ("TwoInOne$History", "first", "I", false)
  | 4 => ("TwoInOne$History", "past", "I", false)
  | _ => ("TwoInOne$History", "future", "I", false)
def tyX2 : Nat → FieldType := fun k => match k with
  | 0 => .array (.object "TwoInOne$State")
  | 1 => .array (.object "TwoInOne$State")
  | 2 => .array .boolean
  | 3 => .int
  | 4 => .int
  | _ => .int
abbrev wsX20 : List Cond := u_ws RX2 TX2 6
theorem nmX2 : ∀ a, a < 6 → ∀ b, b < 6 → a ≠ b → (TX2 a).2.1 ≠ (TX2 b).2.1 := by decide +kernel
theorem tyX2_ok : ∀ k, k < 6 → parseFieldDescriptor (TX2 k).2.2.1 = some (tyX2 k) := by decide +kernel

def RX3 : String := "TwoInOne$Pairings"
def TX3 : u_T := fun k => match k with
  | 0 => ("TwoInOne$Pairings", "told", "LTwoInOne$Told;", true)
  | 1 => ("TwoInOne$Pairings", "now", "LTwoInOne$State;", true)
  | 2 => ("TwoInOne$Pairings", "other", "[I", true)
  | 3 => ("TwoInOne$Pairings", "most", "[I", true)
  | 4 => ("TwoInOne$Pairings", "firstFast", "[I", true)
  | 5 => ("TwoInOne$Pairings", "found", "Z", false)
  | 6 => ("TwoInOne$Pairings", "mostLiking", "I", false)
  | 7 => ("TwoInOne$Pairings", "firstFastLiking", "I", false)
  | _ => ("TwoInOne$Pairings", "fastOnes", "I", false)
def tyX3 : Nat → FieldType := fun k => match k with
  | 0 => .object "TwoInOne$Told"
  | 1 => .object "TwoInOne$State"
  | 2 => .array .int
  | 3 => .array .int
  | 4 => .array .int
  | 5 => .boolean
  | 6 => .int
  | 7 => .int
  | _ => .int
abbrev wsX30 : List Cond := u_ws RX3 TX3 9
theorem nmX3 : ∀ a, a < 9 → ∀ b, b < 9 → a ≠ b → (TX3 a).2.1 ≠ (TX3 b).2.1 := by decide +kernel
theorem tyX3_ok : ∀ k, k < 9 → parseFieldDescriptor (TX3 k).2.2.1 = some (tyX3 k) := by decide +kernel

def RX4 : String := "TwoInOne$Reader"
def TX4 : u_T := fun k => match k with
  | 0 => ("TwoInOne$Reader", "draft", "LTwoInOne$Told;", true)
  | 1 => ("TwoInOne$Reader", "halfNames", "[J", true)
  | 2 => ("TwoInOne$Reader", "personNames", "[J", true)
  | 3 => ("TwoInOne$Reader", "deedNames", "[J", true)
  | 4 => ("TwoInOne$Reader", "memberAt", "[I", true)
  | 5 => ("TwoInOne$Reader", "text", "[I", true)
  | 6 => ("TwoInOne$Reader", "length", "I", false)
  | 7 => ("TwoInOne$Reader", "fault", "I", false)
  | 8 => ("TwoInOne$Reader", "place", "I", false)
  | 9 => ("TwoInOne$Reader", "start", "I", false)
  | 10 => ("TwoInOne$Reader", "token", "I", false)
  | 11 => ("TwoInOne$Reader", "name", "J", false)
  | 12 => ("TwoInOne$Reader", "number", "I", false)
  | 13 => ("TwoInOne$Reader", "behind", "I", false)
  | 14 => ("TwoInOne$Reader", "taken", "I", false)
  | 15 => ("TwoInOne$Reader", "unitsOfOne", "I", false)
  | _ => ("TwoInOne$Reader", "codeLength", "I", false)
def tyX4 : Nat → FieldType := fun k => match k with
  | 0 => .object "TwoInOne$Told"
  | 1 => .array .long
  | 2 => .array .long
  | 3 => .array .long
  | 4 => .array .int
  | 5 => .array .int
  | 6 => .int
  | 7 => .int
  | 8 => .int
  | 9 => .int
  | 10 => .int
  | 11 => .long
  | 12 => .int
  | 13 => .int
  | 14 => .int
  | 15 => .int
  | _ => .int
abbrev wsX40 : List Cond := u_ws RX4 TX4 17
theorem nmX4 : ∀ a, a < 17 → ∀ b, b < 17 → a ≠ b → (TX4 a).2.1 ≠ (TX4 b).2.1 := by decide +kernel
theorem tyX4_ok : ∀ k, k < 17 → parseFieldDescriptor (TX4 k).2.2.1 = some (tyX4 k) := by decide +kernel

def RX5 : String := "TwoInOne$Row"
def TX5 : u_T := fun k => match k with
  | 0 => ("TwoInOne$Row", "cells", "[I", true)
  | _ => ("TwoInOne$Row", "size", "I", false)
def tyX5 : Nat → FieldType := fun k => match k with
  | 0 => .array .int
  | _ => .int
abbrev wsX50 : List Cond := u_ws RX5 TX5 2
theorem nmX5 : ∀ a, a < 2 → ∀ b, b < 2 → a ≠ b → (TX5 a).2.1 ≠ (TX5 b).2.1 := by decide +kernel
theorem tyX5_ok : ∀ k, k < 2 → parseFieldDescriptor (TX5 k).2.2.1 = some (tyX5 k) := by decide +kernel

def RX6 : String := "TwoInOne$Search"
def TX6 : u_T := fun k => match k with
  | 0 => ("TwoInOne$Search", "game", "LTwoInOne$Game;", true)
  | 1 => ("TwoInOne$Search", "sums", "LTwoInOne$Sums;", true)
  | 2 => ("TwoInOne$Search", "front", "[J", false)
  | 3 => ("TwoInOne$Search", "spare", "[J", false)
  | 4 => ("TwoInOne$Search", "frontCount", "I", false)
  | 5 => ("TwoInOne$Search", "startDay", "I", false)
  | 6 => ("TwoInOne$Search", "frontDay", "I", false)
  | 7 => ("TwoInOne$Search", "blocks", "[I", true)
  | 8 => ("TwoInOne$Search", "weights", "[J", true)
  | 9 => ("TwoInOne$Search", "flow", "[J", false)
  | 10 => ("TwoInOne$Search", "flowThen", "[J", false)
  | 11 => ("TwoInOne$Search", "middleDay", "I", false)
  | 12 => ("TwoInOne$Search", "leads", "[Z", true)
  | 13 => ("TwoInOne$Search", "slack", "J", false)
  | 14 => ("TwoInOne$Search", "isMarking", "Z", false)
  | 15 => ("TwoInOne$Search", "best", "I", false)
  | 16 => ("TwoInOne$Search", "bestLead", "I", false)
  | 17 => ("TwoInOne$Search", "bestDay", "I", false)
  | _ => ("TwoInOne$Search", "limit", "I", false)
def tyX6 : Nat → FieldType := fun k => match k with
  | 0 => .object "TwoInOne$Game"
  | 1 => .object "TwoInOne$Sums"
  | 2 => .array .long
  | 3 => .array .long
  | 4 => .int
  | 5 => .int
  | 6 => .int
  | 7 => .array .int
  | 8 => .array .long
  | 9 => .array .long
  | 10 => .array .long
  | 11 => .int
  | 12 => .array .boolean
  | 13 => .long
  | 14 => .boolean
  | 15 => .int
  | 16 => .int
  | 17 => .int
  | _ => .int
abbrev wsX60 : List Cond := u_ws RX6 TX6 19
theorem nmX6 : ∀ a, a < 19 → ∀ b, b < 19 → a ≠ b → (TX6 a).2.1 ≠ (TX6 b).2.1 := by decide +kernel
theorem tyX6_ok : ∀ k, k < 19 → parseFieldDescriptor (TX6 k).2.2.1 = some (tyX6 k) := by decide +kernel

def RX7 : String := "TwoInOne$Sights"
def TX7 : u_T := fun k => match k with
  | 0 => ("TwoInOne$Sights", "told", "LTwoInOne$Told;", true)
  | 1 => ("TwoInOne$Sights", "day", "[I", true)
  | 2 => ("TwoInOne$Sights", "half", "[I", true)
  | 3 => ("TwoInOne$Sights", "skill", "[I", true)
  | 4 => ("TwoInOne$Sights", "toldAt", "[I", true)
  | 5 => ("TwoInOne$Sights", "untoldAt", "[I", true)
  | 6 => ("TwoInOne$Sights", "count", "I", false)
  | 7 => ("TwoInOne$Sights", "time", "I", false)
  | 8 => ("TwoInOne$Sights", "seen", "[I", true)
  | 9 => ("TwoInOne$Sights", "shownAt", "[I", true)
  | 10 => ("TwoInOne$Sights", "alibisFound", "I", false)
  | 11 => ("TwoInOne$Sights", "firstGoneOn", "I", false)
  | 12 => ("TwoInOne$Sights", "firstLess", "I", false)
  | 13 => ("TwoInOne$Sights", "firstGreater", "I", false)
  | _ => ("TwoInOne$Sights", "possible", "I", false)
def tyX7 : Nat → FieldType := fun k => match k with
  | 0 => .object "TwoInOne$Told"
  | 1 => .array .int
  | 2 => .array .int
  | 3 => .array .int
  | 4 => .array .int
  | 5 => .array .int
  | 6 => .int
  | 7 => .int
  | 8 => .array .int
  | 9 => .array .int
  | 10 => .int
  | 11 => .int
  | 12 => .int
  | 13 => .int
  | _ => .int
abbrev wsX70 : List Cond := u_ws RX7 TX7 15
theorem nmX7 : ∀ a, a < 15 → ∀ b, b < 15 → a ≠ b → (TX7 a).2.1 ≠ (TX7 b).2.1 := by decide +kernel
theorem tyX7_ok : ∀ k, k < 15 → parseFieldDescriptor (TX7 k).2.2.1 = some (tyX7 k) := by decide +kernel

def RX8 : String := "TwoInOne$State"
def TX8 : u_T := fun k => match k with
  | 0 => ("TwoInOne$State", "day", "I", false)
  | 1 => ("TwoInOne$State", "seed", "I", false)
  | 2 => ("TwoInOne$State", "load", "[I", true)
  | 3 => ("TwoInOne$State", "turn", "[I", true)
  | 4 => ("TwoInOne$State", "alive", "[I", true)
  | 5 => ("TwoInOne$State", "did", "[I", true)
  | _ => ("TwoInOne$State", "joys", "[I", true)
def tyX8 : Nat → FieldType := fun k => match k with
  | 0 => .int
  | 1 => .int
  | 2 => .array .int
  | 3 => .array .int
  | 4 => .array .int
  | 5 => .array .int
  | _ => .array .int
abbrev wsX80 : List Cond := u_ws RX8 TX8 7
theorem nmX8 : ∀ a, a < 7 → ∀ b, b < 7 → a ≠ b → (TX8 a).2.1 ≠ (TX8 b).2.1 := by decide +kernel
theorem tyX8_ok : ∀ k, k < 7 → parseFieldDescriptor (TX8 k).2.2.1 = some (tyX8 k) := by decide +kernel

def RX9 : String := "TwoInOne$Sums"
def TX9 : u_T := fun k => match k with
  | 0 => ("TwoInOne$Sums", "told", "LTwoInOne$Told;", true)
  | 1 => ("TwoInOne$Sums", "game", "LTwoInOne$Game;", true)
  | 2 => ("TwoInOne$Sums", "joys", "[I", true)
  | 3 => ("TwoInOne$Sums", "loads", "[I", true)
  | 4 => ("TwoInOne$Sums", "known", "[I", true)
  | 5 => ("TwoInOne$Sums", "starts", "[I", true)
  | 6 => ("TwoInOne$Sums", "counts", "[I", true)
  | 7 => ("TwoInOne$Sums", "used", "I", false)
  | 8 => ("TwoInOne$Sums", "pool", "[I", true)
  | 9 => ("TwoInOne$Sums", "merged", "[I", true)
  | 10 => ("TwoInOne$Sums", "stretchStart", "I", false)
  | 11 => ("TwoInOne$Sums", "stretchCount", "I", false)
  | 12 => ("TwoInOne$Sums", "sumBefore", "I", false)
  | 13 => ("TwoInOne$Sums", "sieve", "[I", true)
  | 14 => ("TwoInOne$Sums", "isSieved", "Z", false)
  | 15 => ("TwoInOne$Sums", "sieveShift", "I", false)
  | _ => ("TwoInOne$Sums", "row", "[I", true)
def tyX9 : Nat → FieldType := fun k => match k with
  | 0 => .object "TwoInOne$Told"
  | 1 => .object "TwoInOne$Game"
  | 2 => .array .int
  | 3 => .array .int
  | 4 => .array .int
  | 5 => .array .int
  | 6 => .array .int
  | 7 => .int
  | 8 => .array .int
  | 9 => .array .int
  | 10 => .int
  | 11 => .int
  | 12 => .int
  | 13 => .array .int
  | 14 => .boolean
  | 15 => .int
  | _ => .array .int
abbrev wsX90 : List Cond := u_ws RX9 TX9 17
theorem nmX9 : ∀ a, a < 17 → ∀ b, b < 17 → a ≠ b → (TX9 a).2.1 ≠ (TX9 b).2.1 := by decide +kernel
theorem tyX9_ok : ∀ k, k < 17 → parseFieldDescriptor (TX9 k).2.2.1 = some (tyX9 k) := by decide +kernel

def RX10 : String := "TwoInOne$Told"
def TX10 : u_T := fun k => match k with
  | 0 => ("TwoInOne$Told", "halves", "I", false)
  | 1 => ("TwoInOne$Told", "persons", "I", false)
  | 2 => ("TwoInOne$Told", "deeds", "I", false)
  | 3 => ("TwoInOne$Told", "likesTold", "I", false)
  | 4 => ("TwoInOne$Told", "units", "I", false)
  | 5 => ("TwoInOne$Told", "draw", "I", false)
  | 6 => ("TwoInOne$Told", "skill", "[I", true)
  | 7 => ("TwoInOne$Told", "cares", "[I", true)
  | 8 => ("TwoInOne$Told", "favour", "[I", true)
  | 9 => ("TwoInOne$Told", "personOf", "[I", true)
  | 10 => ("TwoInOne$Told", "placeOf", "[I", true)
  | 11 => ("TwoInOne$Told", "liking", "[I", true)
  | 12 => ("TwoInOne$Told", "members", "[I", true)
  | 13 => ("TwoInOne$Told", "places", "[I", true)
  | 14 => ("TwoInOne$Told", "turn", "[I", true)
  | 15 => ("TwoInOne$Told", "joyStart", "[I", true)
  | 16 => ("TwoInOne$Told", "loadStart", "[I", true)
  | 17 => ("TwoInOne$Told", "loadEnd", "[I", true)
  | _ => ("TwoInOne$Told", "code", "[I", true)
def tyX10 : Nat → FieldType := fun k => match k with
  | 0 => .int
  | 1 => .int
  | 2 => .int
  | 3 => .int
  | 4 => .int
  | 5 => .int
  | 6 => .array .int
  | 7 => .array .int
  | 8 => .array .int
  | 9 => .array .int
  | 10 => .array .int
  | 11 => .array .int
  | 12 => .array .int
  | 13 => .array .int
  | 14 => .array .int
  | 15 => .array .int
  | 16 => .array .int
  | 17 => .array .int
  | _ => .array .int
abbrev wsX100 : List Cond := u_ws RX10 TX10 19
theorem nmX10 : ∀ a, a < 19 → ∀ b, b < 19 → a ≠ b → (TX10 a).2.1 ≠ (TX10 b).2.1 := by decide +kernel
theorem tyX10_ok : ∀ k, k < 19 → parseFieldDescriptor (TX10 k).2.2.1 = some (tyX10 k) := by decide +kernel

def RX11 : String := "TwoInOne"
def TX11 : u_T := fun k => match k with
  | 0 => ("TwoInOne", "tape", "[I", true)
  | 1 => ("TwoInOne", "tapeLength", "I", false)
  | 2 => ("TwoInOne", "told", "LTwoInOne$Told;", true)
  | 3 => ("TwoInOne", "reader", "LTwoInOne$Reader;", true)
  | 4 => ("TwoInOne", "now", "LTwoInOne$State;", true)
  | 5 => ("TwoInOne", "history", "LTwoInOne$History;", true)
  | 6 => ("TwoInOne", "lying", "LTwoInOne$Row;", true)
  | 7 => ("TwoInOne", "course", "LTwoInOne$Course;", true)
  | 8 => ("TwoInOne", "game", "LTwoInOne$Game;", true)
  | 9 => ("TwoInOne", "fewSums", "LTwoInOne$Sums;", false)
  | 10 => ("TwoInOne", "search", "LTwoInOne$Search;", false)
  | 11 => ("TwoInOne", "pairings", "LTwoInOne$Pairings;", true)
  | _ => ("TwoInOne", "sights", "LTwoInOne$Sights;", true)
def tyX11 : Nat → FieldType := fun k => match k with
  | 0 => .array .int
  | 1 => .int
  | 2 => .object "TwoInOne$Told"
  | 3 => .object "TwoInOne$Reader"
  | 4 => .object "TwoInOne$State"
  | 5 => .object "TwoInOne$History"
  | 6 => .object "TwoInOne$Row"
  | 7 => .object "TwoInOne$Course"
  | 8 => .object "TwoInOne$Game"
  | 9 => .object "TwoInOne$Sums"
  | 10 => .object "TwoInOne$Search"
  | 11 => .object "TwoInOne$Pairings"
  | _ => .object "TwoInOne$Sights"
abbrev wsX110 : List Cond := u_ws RX11 TX11 13
theorem nmX11 : ∀ a, a < 13 → ∀ b, b < 13 → a ≠ b → (TX11 a).2.1 ≠ (TX11 b).2.1 := by decide +kernel
theorem tyX11_ok : ∀ k, k < 13 → parseFieldDescriptor (TX11 k).2.2.1 = some (tyX11 k) := by decide +kernel

def RX12 : String := "TwoInOneModel"
def TX12 : u_T := fun k => match k with
  | 0 => ("TwoInOneModel", "tape", "[B", true)
  | 1 => ("TwoInOneModel", "text", "[B", true)
  | 2 => ("TwoInOneModel", "taped", "I", false)
  | 3 => ("TwoInOneModel", "size", "I", false)
  | 4 => ("TwoInOneModel", "faultKind", "I", false)
  | 5 => ("TwoInOneModel", "faultPlace", "I", false)
  | 6 => ("TwoInOneModel", "at", "I", false)
  | 7 => ("TwoInOneModel", "end", "I", false)
  | 8 => ("TwoInOneModel", "token", "I", false)
  | 9 => ("TwoInOneModel", "number", "I", false)
  | 10 => ("TwoInOneModel", "name", "J", false)
  | 11 => ("TwoInOneModel", "halves", "[I", true)
  | 12 => ("TwoInOneModel", "likes", "[I", true)
  | 13 => ("TwoInOneModel", "persons", "[I", true)
  | 14 => ("TwoInOneModel", "deeds", "[I", true)
  | 15 => ("TwoInOneModel", "units", "[I", true)
  | 16 => ("TwoInOneModel", "draw", "[I", true)
  | 17 => ("TwoInOneModel", "skill", "[I", true)
  | 18 => ("TwoInOneModel", "care", "[I", true)
  | 19 => ("TwoInOneModel", "person", "[I", true)
  | 20 => ("TwoInOneModel", "favour", "[I", true)
  | 21 => ("TwoInOneModel", "like", "[I", true)
  | 22 => ("TwoInOneModel", "halfMany", "[I", true)
  | 23 => ("TwoInOneModel", "halfOf", "[I", true)
  | 24 => ("TwoInOneModel", "turnMany", "[I", true)
  | 25 => ("TwoInOneModel", "turn", "[I", true)
  | 26 => ("TwoInOneModel", "ruleFrom", "[I", true)
  | 27 => ("TwoInOneModel", "ruleTo", "[I", true)
  | 28 => ("TwoInOneModel", "isDraw", "[Z", true)
  | 29 => ("TwoInOneModel", "isFavoured", "[Z", true)
  | 30 => ("TwoInOneModel", "isLiked", "[Z", true)
  | 31 => ("TwoInOneModel", "hName", "[J", true)
  | 32 => ("TwoInOneModel", "pName", "[J", true)
  | 33 => ("TwoInOneModel", "dName", "[J", true)
  | 34 => ("TwoInOneModel", "code", "[I", true)
  | 35 => ("TwoInOneModel", "codeNumber", "[I", true)
  | 36 => ("TwoInOneModel", "eWhat", "[I", true)
  | 37 => ("TwoInOneModel", "eSign", "[I", true)
  | 38 => ("TwoInOneModel", "pile", "[I", true)
  | 39 => ("TwoInOneModel", "bank", "I", false)
  | 40 => ("TwoInOneModel", "rb", "I", false)
  | 41 => ("TwoInOneModel", "codes", "I", false)
  | 42 => ("TwoInOneModel", "within", "I", false)
  | 43 => ("TwoInOneModel", "piled", "I", false)
  | 44 => ("TwoInOneModel", "unitsInRule", "I", false)
  | 45 => ("TwoInOneModel", "askLoad", "I", false)
  | 46 => ("TwoInOneModel", "askDay", "I", false)
  | 47 => ("TwoInOneModel", "askSkill", "I", false)
  | 48 => ("TwoInOneModel", "askAgain", "I", false)
  | 49 => ("TwoInOneModel", "all", "[I", true)
  | 50 => ("TwoInOneModel", "was", "[I", true)
  | 51 => ("TwoInOneModel", "acts", "I", false)
  | 52 => ("TwoInOneModel", "undone", "I", false)
  | 53 => ("TwoInOneModel", "gamePay", "[I", true)
  | 54 => ("TwoInOneModel", "gameDeed", "[I", true)
  | 55 => ("TwoInOneModel", "laidRow", "[I", true)
  | 56 => ("TwoInOneModel", "laid", "I", false)
  | 57 => ("TwoInOneModel", "bargain", "[I", true)
  | 58 => ("TwoInOneModel", "bargains", "I", false)
  | 59 => ("TwoInOneModel", "other", "[I", true)
  | 60 => ("TwoInOneModel", "bestOther", "[I", true)
  | 61 => ("TwoInOneModel", "pairings", "I", false)
  | 62 => ("TwoInOneModel", "opened", "[I", true)
  | 63 => ("TwoInOneModel", "bestLiked", "I", false)
  | 64 => ("TwoInOneModel", "votes", "[I", true)
  | 65 => ("TwoInOneModel", "sDay", "[I", true)
  | 66 => ("TwoInOneModel", "sHalf", "[I", true)
  | 67 => ("TwoInOneModel", "sSkill", "[I", true)
  | 68 => ("TwoInOneModel", "sTold", "[I", true)
  | 69 => ("TwoInOneModel", "sUntold", "[I", true)
  | 70 => ("TwoInOneModel", "trial", "[I", true)
  | 71 => ("TwoInOneModel", "sights", "I", false)
  | 72 => ("TwoInOneModel", "time", "I", false)
  | 73 => ("TwoInOneModel", "alibiMany", "I", false)
  | 74 => ("TwoInOneModel", "canBe", "I", false)
  | 75 => ("TwoInOneModel", "alibiBy", "I", false)
  | 76 => ("TwoInOneModel", "alibiA", "I", false)
  | 77 => ("TwoInOneModel", "alibiB", "I", false)
  | 78 => ("TwoInOneModel", "boxAll", "[I", true)
  | _ => ("TwoInOneModel", "isBoxed", "[Z", true)
def tyX12 : Nat → FieldType := fun k => match k with
  | 0 => .array .byte
  | 1 => .array .byte
  | 2 => .int
  | 3 => .int
  | 4 => .int
  | 5 => .int
  | 6 => .int
  | 7 => .int
  | 8 => .int
  | 9 => .int
  | 10 => .long
  | 11 => .array .int
  | 12 => .array .int
  | 13 => .array .int
  | 14 => .array .int
  | 15 => .array .int
  | 16 => .array .int
  | 17 => .array .int
  | 18 => .array .int
  | 19 => .array .int
  | 20 => .array .int
  | 21 => .array .int
  | 22 => .array .int
  | 23 => .array .int
  | 24 => .array .int
  | 25 => .array .int
  | 26 => .array .int
  | 27 => .array .int
  | 28 => .array .boolean
  | 29 => .array .boolean
  | 30 => .array .boolean
  | 31 => .array .long
  | 32 => .array .long
  | 33 => .array .long
  | 34 => .array .int
  | 35 => .array .int
  | 36 => .array .int
  | 37 => .array .int
  | 38 => .array .int
  | 39 => .int
  | 40 => .int
  | 41 => .int
  | 42 => .int
  | 43 => .int
  | 44 => .int
  | 45 => .int
  | 46 => .int
  | 47 => .int
  | 48 => .int
  | 49 => .array .int
  | 50 => .array .int
  | 51 => .int
  | 52 => .int
  | 53 => .array .int
  | 54 => .array .int
  | 55 => .array .int
  | 56 => .int
  | 57 => .array .int
  | 58 => .int
  | 59 => .array .int
  | 60 => .array .int
  | 61 => .int
  | 62 => .array .int
  | 63 => .int
  | 64 => .array .int
  | 65 => .array .int
  | 66 => .array .int
  | 67 => .array .int
  | 68 => .array .int
  | 69 => .array .int
  | 70 => .array .int
  | 71 => .int
  | 72 => .int
  | 73 => .int
  | 74 => .int
  | 75 => .int
  | 76 => .int
  | 77 => .int
  | 78 => .array .int
  | _ => .array .boolean
abbrev wsX120 : List Cond := u_ws RX12 TX12 80
theorem nmX12 : ∀ a, a < 80 → ∀ b, b < 80 → a ≠ b → (TX12 a).2.1 ≠ (TX12 b).2.1 := by decide +kernel
theorem tyX12_ok : ∀ k, k < 80 → parseFieldDescriptor (TX12 k).2.2.1 = some (tyX12 k) := by decide +kernel

abbrev sx_clL : List vw_C := [(RX0, TX0, 8), (RX1, TX1, 10), (RX2, TX2, 6), (RX3, TX3, 9), (RX4, TX4, 17), (RX5, TX5, 2), (RX6, TX6, 19), (RX7, TX7, 15), (RX8, TX8, 7), (RX9, TX9, 17), (RX10, TX10, 19), (RX11, TX11, 13), (RX12, TX12, 80)]
end
section
/-! THE SYMBOLIC EXECUTOR. Values: inl n (an int, n < 2^32), inr inl k (the int variable k, in its interval), inr inr inl k (the cell at place k of the world), inr inr inr 0 (null), 1 (the long 0), 2 (the script). -/
abbrev sx_V : Type := Nat ⊕ Nat ⊕ Nat ⊕ Nat
/-- a cell: an object (number of its kind, fields), an array (kind 0 int, 1 long, 2 boolean, 3 byte, 4 of objects; length; what isn't 0 or null) -/
abbrev sx_E : Type := (Nat × List sx_V) ⊕ (Nat × Nat × List (Nat × sx_V))
/-- an instruction, its length, and numbers: constants, links resolved, targets absolute, places of words -/
abbrev sx_I : Type := Instr × Nat × List Nat
/-- a tree by numbers: places, and what stands there -/
abbrev sx_Iv : Type := List (Nat × Nat)
/-- a state: pc, locals, stack, world, intervals (of x + 2^31, so that Nat's order is the ints'), cells, slots -/
abbrev sx_S : Type := Nat × List (Nat × sx_V) × List sx_V × List sx_E × sx_Iv × Nat × Nat
/-- a leaf: answer, world, intervals -/
abbrev sx_L : Type := Option sx_V × List sx_E × sx_Iv
abbrev sx_N : Type := Option (List sx_S)
/-- the k-th of a list; a list set, pushed, laid out whole ahead of what comes (so that no work stays undone in it) -/
noncomputable def sx_nth {α : Type} (l : List α) : Nat → Option α := List.rec (motive := fun _ => Nat → Option α) (fun _ => none) (fun a _ ih k => Nat.casesOn (motive := fun _ => Option α) k (some a) ih) l
noncomputable def sx_setk {α β : Type} (l : List α) (x : α) : Nat → (List α → β) → β := List.rec (motive := fun _ => Nat → (List α → β) → β) (fun _ f => f []) (fun a t ih k f => Nat.casesOn (motive := fun _ => β) k (f (x :: t)) (fun k => ih k (fun t => f (a :: t)))) l
noncomputable def sx_appk {α β : Type} (l : List α) (x : α) : (List α → β) → β := List.rec (motive := fun _ => (List α → β) → β) (fun f => f [x]) (fun a _ ih f => ih (fun t => f (a :: t))) l
noncomputable def sx_lay {α β : Type} (l : List α) : (List α → β) → β := List.rec (motive := fun _ => (List α → β) → β) (fun f => f []) (fun a _ ih f => ih (fun t => f (a :: t))) l
theorem sx_nth_eq {α : Type} (l : List α) : ∀ k : Nat, sx_nth l k = l[k]? := by
  induction l with
  | nil => intro k; rfl
  | cons a l ih =>
    intro k
    cases k with
    | zero => rfl
    | succ k => exact (ih k).trans (by simp)
theorem sx_setk_eq {α β : Type} (l : List α) (x : α) : ∀ (k : Nat) (f : List α → β), sx_setk l x k f = f (l.set k x) := by
  induction l with
  | nil => intro k f; rfl
  | cons a l ih =>
    intro k f
    cases k with
    | zero => rfl
    | succ k => exact ih k (fun t => f (a :: t))
theorem sx_appk_eq {α β : Type} (l : List α) (x : α) : ∀ (f : List α → β), sx_appk l x f = f (l ++ [x]) := by
  induction l with
  | nil => intro f; rfl
  | cons a l ih => intro f; exact ih (fun t => f (a :: t))
theorem sx_lay_eq {α β : Type} (l : List α) : ∀ (f : List α → β), sx_lay l f = f l := by
  induction l with
  | nil => intro f; rfl
  | cons a l ih => intro f; exact ih (fun t => f (a :: t))
noncomputable def sx_bias (n : Nat) : Nat := (n + 2147483648) % 4294967296
/-- a variable whose interval is one number is that number -/
noncomputable def sx_nm (iv : sx_Iv) : sx_V → sx_V
  | (.inr (.inl k)) => match sx_nth iv k with
    | some (lo, hi) => match Nat.beq lo hi with
      | true => (.inl (sx_bias lo))
      | false => (.inr (.inl k))
    | none => (.inr (.inl k))
  | a => a
noncomputable def sx_look (k : Nat) : List (Nat × sx_V) → Option sx_V
  | [] => none
  | (j, v) :: l => match Nat.beq j k with
    | true => some v
    | false => sx_look k l
noncomputable def sx_cat : sx_V → Bool
  | (.inr (.inr (.inr 1))) => true
  | _ => false
/-- locals with place k set -/
noncomputable def sx_put (k : Nat) (v : sx_V) (l : List (Nat × sx_V)) : List (Nat × sx_V) := (k, v) :: l.filter (fun q => !(Nat.beq q.1 k) && !(Nat.beq (q.1 + 1) k && sx_cat q.2))
/-- contents with place k set; what is 0 or null isn't kept -/
noncomputable def sx_del (k : Nat) : List (Nat × sx_V) → List (Nat × sx_V)
  | [] => []
  | (j, v) :: l => match Nat.beq j k with
    | true => sx_del k l
    | false => (j, v) :: sx_del k l
noncomputable def sx_zero : sx_V → Bool
  | (.inl n) => Nat.beq n 0
  | (.inr (.inr (.inr 0))) => true
  | _ => false
noncomputable def sx_upd (k : Nat) (v : sx_V) (l : List (Nat × sx_V)) : List (Nat × sx_V) := match sx_zero v with
  | true => sx_del k l
  | false => (k, v) :: sx_del k l
noncomputable def sx_def : Nat → sx_V
  | 4 => (.inr (.inr (.inr 0)))
  | 1 => (.inr (.inr (.inr 1)))
  | _ => (.inl 0)
noncomputable def sx_ald (kd : Nat) (up : List (Nat × sx_V)) (k : Nat) : sx_V := (sx_look k up).getD (sx_def kd)
/-- two's complement numbers: an int operation on constants; none: not done here -/
noncomputable def sx_bin (o x y : Nat) : Option Nat := match o with
  | 0 => some ((x + y) % 4294967296)
  | 1 => some ((x + (4294967296 - y % 4294967296)) % 4294967296)
  | 2 => some ((x * y) % 4294967296)
  | 3 => some (Nat.land x y)
  | 4 => match Nat.beq y 0 with
    | true => some x
    | false => none
  | 6 => match Nat.beq x 0 with
    | true => some 0
    | false => none
  | 7 => match Nat.blt x 2147483648 && Nat.blt y 2147483648 && Nat.blt 0 y with
    | true => some (x % y)
    | false => none
  | _ => none
/-- the parts of an interval by a comparison with n (biased), and its truth there -/
noncomputable def sx_parts : ClassFile.Cond → Nat → Nat → Nat → List (Nat × Nat × Bool)
  | .lt, lo, hi, n => [(lo, Nat.min hi (n - 1), Nat.blt 0 n), (Nat.max lo n, hi, false)]
  | .ge, lo, hi, n => [(lo, Nat.min hi (n - 1), !(Nat.blt 0 n)), (Nat.max lo n, hi, true)]
  | .le, lo, hi, n => [(lo, Nat.min hi n, true), (Nat.max lo (n + 1), hi, false)]
  | .gt, lo, hi, n => [(lo, Nat.min hi n, false), (Nat.max lo (n + 1), hi, true)]
  | .eq, lo, hi, n => [(lo, Nat.min hi (n - 1), !(Nat.blt 0 n)), (Nat.max lo n, Nat.min hi n, true), (Nat.max lo (n + 1), hi, false)]
  | .ne, lo, hi, n => [(lo, Nat.min hi (n - 1), Nat.blt 0 n), (Nat.max lo n, Nat.min hi n, false), (Nat.max lo (n + 1), hi, true)]
noncomputable def sx_flip : ClassFile.Cond → ClassFile.Cond
  | .lt => .gt
  | .gt => .lt
  | .le => .ge
  | .ge => .le
  | .eq => .eq
  | .ne => .ne
noncomputable def sx_tru : ClassFile.Cond → Nat → Nat → Bool
  | .eq, x, y => Nat.beq x y
  | .ne, x, y => !(Nat.beq x y)
  | .lt, x, y => Nat.blt x y
  | .ge, x, y => Nat.ble y x
  | .gt, x, y => Nat.blt y x
  | .le, x, y => Nat.ble x y
/-- the state with the variable k's interval narrowed, at pc -/
noncomputable def sx_nar (σ : sx_S) (k pc lo hi : Nat) : sx_S := match σ with
  | (_, ls, st, w, iv, mc, ms) => sx_setk iv (lo, hi) k (fun iv => (pc, ls, st, w, iv, mc, ms))
noncomputable def sx_at (σ : sx_S) (pc : Nat) : sx_S := match σ with
  | (_, ls, st, w, iv, mc, ms) => (pc, ls, st, w, iv, mc, ms)
noncomputable def sx_pick (b : Bool) (t f : Nat) : Nat := match b with
  | true => t
  | false => f
/-- a branch on a variable and a constant: each part that isn't empty -/
noncomputable def sx_fork (σ : sx_S) (k : Nat) (t f : Nat) : List (Nat × Nat × Bool) → List sx_S
  | [] => []
  | (lo, hi, b) :: l => match Nat.ble lo hi with
    | true => sx_nar σ k (sx_pick b t f) lo hi :: sx_fork σ k t f l
    | false => sx_fork σ k t f l
noncomputable def sx_cmp (σ : sx_S) (iv : sx_Iv) (o : ClassFile.Cond) (a b : sx_V) (t f : Nat) : sx_N := match a, b with
  | (.inl x), (.inl y) => some [sx_at σ (sx_pick (sx_tru o (sx_bias x) (sx_bias y)) t f)]
  | (.inr (.inl k)), (.inl y) => match sx_nth iv k with
    | some (lo, hi) => some (sx_fork σ k t f (sx_parts o lo hi (sx_bias y)))
    | none => none
  | (.inl x), (.inr (.inl k)) => match sx_nth iv k with
    | some (lo, hi) => some (sx_fork σ k t f (sx_parts (sx_flip o) lo hi (sx_bias x)))
    | none => none
  | (.inr (.inl j)), (.inr (.inl k)) => match Nat.beq j k with
    | true => some [sx_at σ (sx_pick (sx_tru o 0 0) t f)]
    | false => some [sx_at σ t, sx_at σ f]
  | _, _ => none
/-- a switch: the constants one by one, and the rest (the parts between them); the list: number (biased), target, and on -/
noncomputable def sx_sw (σ : sx_S) (k d : Nat) : Nat → Nat → List (Nat × Nat) → List sx_S
  | lo, hi, [] => match Nat.ble lo hi with
    | true => [sx_nar σ k d lo hi]
    | false => []
  | lo, hi, (n, t) :: l =>
    match Nat.blt lo n && Nat.ble lo hi with
      | true => sx_nar σ k d lo (Nat.min hi (n - 1)) :: (match Nat.ble lo n && Nat.ble n hi with
        | true => sx_nar σ k t n n :: sx_sw σ k d (Nat.max lo (n + 1)) hi l
        | false => sx_sw σ k d (Nat.max lo (n + 1)) hi l)
      | false => (match Nat.ble lo n && Nat.ble n hi with
        | true => sx_nar σ k t n n :: sx_sw σ k d (Nat.max lo (n + 1)) hi l
        | false => sx_sw σ k d (Nat.max lo (n + 1)) hi l)
noncomputable def sx_swc (x d : Nat) : List (Nat × Nat) → Nat
  | [] => d
  | (n, t) :: l => match Nat.beq n x with
    | true => t
    | false => sx_swc x d l
noncomputable def sx_zip : Nat → List Nat → List (Nat × Nat)
  | _, [] => []
  | n, t :: l => (n, t) :: sx_zip (n + 1) l
noncomputable def sx_two : List Nat → List (Nat × Nat)
  | n :: t :: l => (n, t) :: sx_two l
  | _ => []
noncomputable def sx_switch (σ : sx_S) (iv : sx_Iv) (a : sx_V) (d : Nat) (ts : List (Nat × Nat)) : sx_N := match a with
  | (.inl x) => some [sx_at σ (sx_swc (sx_bias x) d ts)]
  | (.inr (.inl k)) => match sx_nth iv k with
    | some (lo, hi) => some (sx_sw σ k d lo hi ts)
    | none => none
  | _ => none
/-- a variable made a constant, each of its numbers (n more from lo on): intervals, number -/
noncomputable def sx_each (iv : sx_Iv) (k lo : Nat) : Nat → List (sx_Iv × Nat)
  | 0 => []
  | n + 1 => (iv.set k (lo, lo), sx_bias lo) :: sx_each iv k (lo + 1) n
noncomputable def sx_conc (iv : sx_Iv) (a : sx_V) : Option (List (sx_Iv × Nat)) := match a with
  | (.inl x) => some [(iv, x)]
  | (.inr (.inl k)) => match sx_nth iv k with
    | some (lo, hi) => match Nat.blt (hi - lo) 16 with
      | true => some (sx_each iv k lo (hi + 1 - lo))
      | false => none
    | none => none
  | _ => none
noncomputable def sx_mapO {α β : Type} (f : α → Option β) : List α → Option (List β)
  | [] => some []
  | a :: l => match f a with
    | none => none
    | some b => match sx_mapO f l with
      | none => none
      | some m => some (b :: m)
noncomputable def sx_copyW (src : List (Nat × sx_V)) (sp dp : Nat) : Nat → List (Nat × sx_V) → List (Nat × sx_V)
  | 0, up => up
  | n + 1, up => sx_copyW src (sp + 1) (dp + 1) n (match sx_look sp src with
    | some v => sx_upd dp v up
    | none => sx_del dp up)
noncomputable def sx_isInt : sx_V → Bool
  | (.inl _) => true
  | (.inr (.inl _)) => true
  | _ => false
noncomputable def sx_isRef : sx_V → Bool
  | (.inr (.inr (.inl _))) => true
  | _ => false
/-- a cell, or the script -/
noncomputable def sx_isAdr : sx_V → Bool
  | (.inr (.inr (.inl _))) => true
  | (.inr (.inr (.inr 2))) => true
  | _ => false
noncomputable def sx_isNull : sx_V → Bool
  | (.inr (.inr (.inr 0))) => true
  | _ => false
noncomputable def sx_bit : sx_V → Bool
  | (.inl n) => Nat.blt n 2
  | _ => false
/-- values speak of variables and places that are there -/
noncomputable def sx_lim (nv nr : Nat) : sx_V → Bool
  | (.inr (.inl k)) => Nat.blt k nv
  | (.inr (.inr (.inl k))) => Nat.blt k nr
  | _ => true
noncomputable def sx_limL (nv nr : Nat) (l : List sx_V) : Bool := l.all (sx_lim nv nr)
noncomputable def sx_limP (nv nr : Nat) (l : List (Nat × sx_V)) : Bool := l.all (fun q => sx_lim nv nr q.2)
noncomputable def sx_limE (nv nr : Nat) : sx_E → Bool
  | .inl (_, fs) => sx_limL nv nr fs
  | .inr (_, _, up) => sx_limP nv nr up
noncomputable def sx_limS (nv nr : Nat) (ls : List (Nat × sx_V)) (st : List sx_V) (w : List sx_E) : Bool := sx_limP nv nr ls && (sx_limL nv nr st && w.all (sx_limE nv nr))
noncomputable def sx_fresh (ls : List (Nat × sx_V)) (st : List sx_V) (w : List sx_E) (iv : sx_Iv) (q : Nat × Nat) (f : sx_Iv → sx_N) : sx_N := match sx_limS iv.length w.length ls st w with
  | true => sx_appk iv q f
  | false => none
noncomputable def sx_grow (ls : List (Nat × sx_V)) (st : List sx_V) (w : List sx_E) (iv : sx_Iv) (e : sx_E) (f : List sx_E → sx_N) : sx_N := match sx_limS iv.length w.length ls st w with
  | true => sx_appk w e f
  | false => none
noncomputable def sx_lok (kd : Nat) (v : sx_V) : Bool := match kd with
  | 4 => sx_isRef v || sx_isNull v
  | _ => sx_isInt v
noncomputable def sx_load (sc : Bool) (σ : sx_S) (kd : Nat) : sx_N := match σ with
  | (pc, ls, i :: (.inr (.inr (.inl k))) :: st, w, iv, mc, ms) => match sx_nth w k with
    | some (.inr (kd', n, up)) => match Nat.beq kd kd', sx_conc iv (sx_nm iv i) with
      | true, some qs => sx_mapO (fun q : sx_Iv × Nat => match Nat.blt q.2 n && Nat.blt q.2 65536 && sx_lok kd' (sx_ald kd' up q.2) with
        | true => some (pc + 1, ls, sx_ald kd' up q.2 :: st, w, q.1, mc, ms)
        | false => none) qs
      | _, _ => none
    | _ => none
  | (pc, ls, i :: (.inr (.inr (.inr 2))) :: st, w, iv, mc, ms) => match Nat.beq kd 0, sx_nm iv i with
    | true, (.inl j) => match sx_nth iv 6 with
      | some (lo, _) => match sc && Nat.blt j 6 && Nat.blt (j + 2147483648) lo with
        | true => some [(pc + 1, ls, (.inr (.inl j)) :: st, w, iv, mc, ms)]
        | false => none
      | none => none
    | _, _ => none
  | _ => none
noncomputable def sx_store (σ : sx_S) (kd : Nat) (ok : sx_V → Bool) : sx_N := match σ with
  | (pc, ls, x :: i :: (.inr (.inr (.inl k))) :: st, w, iv, mc, ms) => match sx_nth w k with
    | some (.inr (kd', n, up)) => match Nat.beq kd kd' && ok x, sx_conc iv (sx_nm iv i) with
      | true, some qs => sx_mapO (fun q : sx_Iv × Nat => match Nat.blt q.2 n && Nat.blt q.2 65536 with
        | true => sx_lay (sx_upd q.2 x up) (fun up => sx_setk w (.inr (kd', n, up)) k (fun w => some (pc + 1, ls, st, w, q.1, mc, ms)))
        | false => none) qs
      | _, _ => none
    | _ => none
  | _ => none
/-- a store into an array of States -/
noncomputable def sx_storeQ (σ : sx_S) : sx_N := match σ with
  | (_, _, (.inr (.inr (.inl q))) :: _, w, _, _, _) => match sx_nth w q with
    | some (.inl (ci, _)) => match Nat.beq ci 8 with
      | true => sx_store σ 4 sx_isRef
      | false => none
    | _ => none
  | _ => none
noncomputable def sx_full : Nat × Nat := (0, 4294967295)
/-- a byte store of what may not fit: a new variable lies there then -/
noncomputable def sx_storeB (σ : sx_S) : sx_N := match σ with
  | (pc, ls, x :: st, w, iv, mc, ms) => match sx_isInt x with
    | true => sx_fresh ls st w iv sx_full (fun iv1 => sx_store (pc, ls, (.inr (.inl iv.length)) :: st, w, iv1, mc, ms) 3 sx_isInt)
    | false => none
  | _ => none
/-- an int operation -/
noncomputable def sx_binop (σ : sx_S) (o : Nat) : sx_N := match σ with
  | (pc, ls, y :: x :: st, w, iv, mc, ms) => match sx_nm iv x, sx_nm iv y with
    | (.inl a), (.inl b) => match sx_bin o a b with
      | some n => some [(pc + 1, ls, (.inl n) :: st, w, iv, mc, ms)]
      | none => none
    | (.inl a), (.inr (.inl k)) => match o, Nat.beq a 0 with
      | 0, true => some [(pc + 1, ls, (.inr (.inl k)) :: st, w, iv, mc, ms)]
      | _, _ => none
    | (.inr (.inl k)), (.inl b) => match o with
      | 0 => match Nat.beq b 0 with
        | true => some [(pc + 1, ls, (.inr (.inl k)) :: st, w, iv, mc, ms)]
        | false => sx_fresh ls st w iv sx_full (fun iv1 => some [(pc + 1, ls, (.inr (.inl iv.length)) :: st, w, iv1, mc, ms)])
      | 1 => match sx_nth iv k with
        | some (lo, hi) => match Nat.blt b 2147483648 && Nat.ble b lo with
          | true => sx_fresh ls st w iv (lo - b, hi - b) (fun iv1 => some [(pc + 1, ls, (.inr (.inl iv.length)) :: st, w, iv1, mc, ms)])
          | false => none
        | none => none
      | 3 => match Nat.blt b 2147483648 with
        | true => sx_fresh ls st w iv (2147483648, 2147483648 + b) (fun iv1 => some [(pc + 1, ls, (.inr (.inl iv.length)) :: st, w, iv1, mc, ms)])
        | false => none
      | 5 => sx_fresh ls st w iv sx_full (fun iv1 => some [(pc + 1, ls, (.inr (.inl iv.length)) :: st, w, iv1, mc, ms)])
      | 6 => sx_fresh ls st w iv sx_full (fun iv1 => some [(pc + 1, ls, (.inr (.inl iv.length)) :: st, w, iv1, mc, ms)])
      | _ => none
    | _, _ => none
  | _ => none
noncomputable def sx_push (σ : sx_S) (n : Nat) (v : sx_V) : sx_N := match σ with
  | (pc, ls, st, w, iv, mc, ms) => some [(pc + n, ls, v :: st, w, iv, mc, ms)]
noncomputable def sx_ldk (ok : sx_V → Bool) (σ : sx_S) (n k : Nat) : sx_N := match sx_look k σ.2.1 with
  | some v => match ok v with
    | true => sx_push σ n v
    | false => none
  | none => none
noncomputable def sx_stk (ok : sx_V → Bool) (σ : sx_S) (n k : Nat) : sx_N := match σ with
  | (pc, ls, v :: st, w, iv, mc, ms) => match ok v with
    | true => sx_lay (sx_put k v ls) (fun ls => some [(pc + n, ls, st, w, iv, mc, ms)])
    | false => none
  | _ => none
noncomputable def sx_hd (ex : List Nat) : Nat := match ex with
  | a :: _ => a
  | [] => 0
noncomputable def sx_gf (σ : sx_S) (ci k : Nat) : sx_N := match σ with
  | (pc, ls, (.inr (.inr (.inl q))) :: st, w, iv, mc, ms) => match sx_nth w q with
    | some (.inl (ci', fs)) => match Nat.beq ci ci', sx_nth fs k with
      | true, some v => some [(pc + 3, ls, v :: st, w, iv, mc, ms)]
      | _, _ => none
    | _ => none
  | _ => none
/-- what may lie in a field: by its kind 0 an int, 1 a reference to an object or array, null (2: a boolean) -/
noncomputable def sx_pf (σ : sx_S) (ci k : Nat) (fit : Nat) : sx_N := match σ with
  | (pc, ls, v :: (.inr (.inr (.inl q))) :: st, w, iv, mc, ms) => match sx_nth w q with
    | some (.inl (ci', fs)) => match Nat.beq ci ci' && Nat.blt k fs.length && (match fit with
        | 0 => sx_isInt v
        | 1 => sx_isRef v || sx_isNull v
        | _ => sx_bit v) with
      | true => sx_setk fs v k (fun fs => sx_setk w (.inl (ci, fs)) q (fun w => some [(pc + 3, ls, st, w, iv, mc, ms)]))
      | false => none
    | _ => none
  | _ => none
noncomputable def sx_newa (cap : Nat × Nat) (σ : sx_S) (len kd : Nat) : sx_N := match σ with
  | (pc, ls, x :: st, w, iv, mc, ms) => match sx_nm iv x with
    | (.inl n) => match Nat.blt n 65536 && Nat.ble (mc + 1) cap.1 && Nat.ble (ms + n) cap.2 with
      | true => sx_grow ls st w iv (.inr (kd, n, [])) (fun w1 => some [(pc + len, ls, (.inr (.inr (.inl w.length))) :: st, w1, iv, mc + 1, ms + n)])
      | false => none
    | _ => none
  | _ => none
noncomputable def sx_alen (sc : Bool) (σ : sx_S) : sx_N := match σ with
  | (pc, ls, (.inr (.inr (.inl q))) :: st, w, iv, mc, ms) => match sx_nth w q with
    | some (.inr (kd, n, _)) => match Nat.blt kd 5 with
      | true => some [(pc + 1, ls, (.inl n) :: st, w, iv, mc, ms)]
      | false => none
    | _ => none
  | (pc, ls, (.inr (.inr (.inr 2))) :: st, w, iv, mc, ms) => match sc with
    | true => some [(pc + 1, ls, (.inr (.inl 6)) :: st, w, iv, mc, ms)]
    | false => none
  | _ => none
noncomputable def sx_copy (σ : sx_S) : sx_N := match σ with
  | (pc, ls, n :: dp :: (.inr (.inr (.inl q))) :: sp :: (.inr (.inr (.inl p))) :: st, w, iv, mc, ms) => match sx_nth w p, sx_nth w q with
    | some (.inr (kp, np, up)), some (.inr (kq, nq, uq)) => match sx_nm iv n, sx_nm iv dp, sx_nm iv sp with
      | (.inl n), (.inl dp), (.inl sp) => match Nat.beq kp 0 && Nat.beq kq 0 && Nat.ble (sp + n) np && Nat.ble (dp + n) nq && !(Nat.beq p q) && Nat.blt np 65536 && Nat.blt nq 65536 && Nat.ble st.length 4 with
        | true => sx_lay (sx_copyW up sp dp n uq) (fun u => sx_setk w (.inr (0, nq, u)) q (fun w => some [(pc + 3, ls, st, w, iv, mc, ms)]))
        | false => none
      | _, _, _ => none
    | _, _ => none
  | _ => none
/-- Math.max, Math.min of constants -/
noncomputable def sx_mm (mx : Bool) (cap : Nat × Nat) (σ : sx_S) : sx_N := match σ with
  | (pc, ls, y :: x :: st, w, iv, mc, ms) => match sx_nm iv x, sx_nm iv y with
    | (.inl a), (.inl b) => match Nat.ble st.length 4 && Nat.ble mc cap.1 && Nat.ble ms cap.2 with
      | true => some [(pc + 3, ls, (.inl (match mx with
        | true => sx_pick (Nat.blt (sx_bias a) (sx_bias b)) b a
        | false => sx_pick (Nat.blt (sx_bias b) (sx_bias a)) b a)) :: st, w, iv, mc, ms)]
      | false => none
    | _, _ => none
  | _ => none
noncomputable def sx_jmp (σ : sx_S) (o : ClassFile.Cond) (t : Nat) : sx_N := match σ with
  | (pc, ls, b :: a :: st, w, iv, mc, ms) => sx_cmp (pc, ls, st, w, iv, mc, ms) iv o (sx_nm iv a) (sx_nm iv b) t (pc + 3)
  | _ => none
noncomputable def sx_jmp0 (σ : sx_S) (o : ClassFile.Cond) (t : Nat) : sx_N := match σ with
  | (pc, ls, a :: st, w, iv, mc, ms) => sx_cmp (pc, ls, st, w, iv, mc, ms) iv o (sx_nm iv a) (.inl 0) t (pc + 3)
  | _ => none
noncomputable def sx_nonnull (σ : sx_S) (t : Nat) : sx_N := match σ with
  | (_, ls, (.inr (.inr (.inl _))) :: st, w, iv, mc, ms) => some [(t, ls, st, w, iv, mc, ms)]
  | (pc, ls, (.inr (.inr (.inr 0))) :: st, w, iv, mc, ms) => some [(pc + 3, ls, st, w, iv, mc, ms)]
  | _ => none
noncomputable def sx_swi (σ : sx_S) (d : Nat) (ts : List (Nat × Nat)) : sx_N := match σ with
  | (pc, ls, a :: st, w, iv, mc, ms) => sx_switch (pc, ls, st, w, iv, mc, ms) iv (sx_nm iv a) d ts
  | _ => none
noncomputable def sx_dup (σ : sx_S) : sx_N := match σ with
  | (pc, ls, v :: st, w, iv, mc, ms) => match sx_cat v with
    | false => some [(pc + 1, ls, v :: v :: st, w, iv, mc, ms)]
    | true => none
  | _ => none
noncomputable def sx_dup2 (σ : sx_S) : sx_N := match σ with
  | (pc, ls, y :: x :: st, w, iv, mc, ms) => match sx_cat x || sx_cat y with
    | false => some [(pc + 1, ls, y :: x :: y :: x :: st, w, iv, mc, ms)]
    | true => none
  | _ => none
noncomputable def sx_inc (σ : sx_S) (k n : Nat) : sx_N := match σ with
  | (pc, ls, st, w, iv, mc, ms) => match sx_look k ls with
    | some x => match sx_nm iv x with
      | (.inl a) => sx_lay (sx_put k (.inl ((a + n) % 4294967296)) ls) (fun ls => some [(pc + 3, ls, st, w, iv, mc, ms)])
      | _ => none
    | none => none
noncomputable def sx_i2b (σ : sx_S) : sx_N := match σ with
  | (pc, ls, x :: st, w, iv, mc, ms) => match sx_isInt x with
    | true => sx_fresh ls st w iv sx_full (fun iv1 => some [(pc + 1, ls, (.inr (.inl iv.length)) :: st, w, iv1, mc, ms)])
    | false => none
  | _ => none
noncomputable def sx_obj (σ : sx_S) : sx_N := match σ with
  | (pc, ls, (.inr (.inr (.inl _))) :: st, w, iv, mc, ms) => match Nat.ble st.length 4 with
    | true => some [(pc + 3, ls, st, w, iv, mc, ms)]
    | false => none
  | _ => none
noncomputable def sx_new (cap : Nat × Nat) (σ : sx_S) (ci : Nat) (fs : List sx_V) : sx_N := match σ with
  | (pc, ls, st, w, iv, mc, ms) => match Nat.ble (mc + 1) cap.1 && Nat.ble (ms + fs.length) cap.2 with
    | true => sx_grow ls st w iv (.inl (ci, fs)) (fun w1 => some [(pc + 3, ls, (.inr (.inr (.inl w.length))) :: st, w1, iv, mc + 1, ms + fs.length)])
    | false => none
/-- what stands in a table: a step (0), a return with an int (1), a return (2), a call of method y with n values (3) -/
abbrev sx_F : Type := Bool → Nat × Nat → sx_S → sx_N
abbrev sx_Q : Type := Nat × Nat × Nat × sx_F
noncomputable def sx_q (g : sx_S → sx_N) : sx_Q := (0, 0, 0, fun _ _ σ => g σ)
noncomputable def sx_no : sx_F := fun _ _ _ => none
noncomputable def sx_ci (n v : Nat) : sx_Q := (0, 0, 0, fun _ _ σ => sx_push σ n (.inl v))
noncomputable def sx_lk (n k : Nat) : sx_Q := (0, 0, 0, fun _ _ σ => sx_ldk sx_isInt σ n k)
noncomputable def sx_la (k : Nat) : sx_Q := (0, 0, 0, fun _ _ σ => sx_ldk sx_isAdr σ 1 k)
noncomputable def sx_sk (n k : Nat) : sx_Q := (0, 0, 0, fun _ _ σ => sx_stk sx_isInt σ n k)
noncomputable def sx_sa (k : Nat) : sx_Q := (0, 0, 0, fun _ _ σ => sx_stk sx_isRef σ 1 k)
noncomputable def sx_bo (o : Nat) : sx_Q := (0, 0, 0, fun _ _ σ => sx_binop σ o)
noncomputable def sx_ld (kd : Nat) : sx_Q := (0, 0, 0, fun sc _ σ => sx_load sc σ kd)
noncomputable def sx_jt (o : ClassFile.Cond) (t : Nat) : sx_Q := (0, 0, 0, fun _ _ σ => sx_jmp σ o t)
noncomputable def sx_j0 (o : ClassFile.Cond) (t : Nat) : sx_Q := (0, 0, 0, fun _ _ σ => sx_jmp0 σ o t)
noncomputable def sx_nw (ci : Nat) (fs : List sx_V) : sx_Q := (0, 0, 0, fun _ cap σ => sx_new cap σ ci fs)
noncomputable def sx_na (len kd : Nat) : sx_Q := (0, 0, 0, fun _ cap σ => sx_newa cap σ len kd)
noncomputable def sx_al : sx_Q := (0, 0, 0, fun sc _ σ => sx_alen sc σ)
noncomputable def sx_gt (t : Nat) : sx_Q := (0, 0, 0, fun _ _ σ => some [sx_at σ t])
noncomputable def sx_gk (ci k : Nat) : sx_Q := (0, 0, 0, fun _ _ σ => sx_gf σ ci k)
noncomputable def sx_pk (ci k fit : Nat) : sx_Q := (0, 0, 0, fun _ _ σ => sx_pf σ ci k fit)
noncomputable def sx_ik (k n : Nat) : sx_Q := (0, 0, 0, fun _ _ σ => sx_inc σ k n)
noncomputable def sx_xz : sx_Q := (0, 0, 0, fun _ _ σ => none)
noncomputable def sx_is (kd : Nat) (ok : sx_V → Bool) : sx_Q := (0, 0, 0, fun _ _ σ => sx_store σ kd ok)
noncomputable def sx_nn (t : Nat) : sx_Q := (0, 0, 0, fun _ _ σ => sx_nonnull σ t)
noncomputable def sx_sg (d : Nat) (ts : List (Nat × Nat)) : sx_Q := (0, 0, 0, fun _ _ σ => sx_swi σ d ts)
noncomputable def sx_mi (mx : Bool) : sx_Q := (0, 0, 0, fun _ cap σ => sx_mm mx cap σ)
noncomputable def sx_cl (y n : Nat) : sx_Q := (3, y, n, sx_no)
noncomputable def sx_r1 : sx_Q := (1, 0, 0, sx_no)
noncomputable def sx_rz : sx_Q := (1, 1, 0, sx_no)
noncomputable def sx_r2 : sx_Q := (2, 0, 0, sx_no)
noncomputable def sx_den (cls : Nat → List sx_V) (I : Instr) (ex : List Nat) : sx_Q := match I with
  | .aload_n k => sx_la k.val
  | .iload_n k => sx_lk 1 k.val
  | .iload k => sx_lk 2 k
  | .istore_n k => sx_sk 1 k.val
  | .istore k => sx_sk 2 k
  | .astore_n k => sx_sa k.val
  | .iconst _ => sx_ci 1 (sx_hd ex)
  | .bipush _ => sx_ci 2 (sx_hd ex)
  | .sipush _ => sx_ci 3 (sx_hd ex)
  | .ldc _ => sx_ci 2 (sx_hd ex)
  | .ldc_w _ => sx_ci 3 (sx_hd ex)
  | .dup => sx_q sx_dup
  | .dup2 => sx_q sx_dup2
  | .aconst_null => sx_q (fun σ => sx_push σ 1 (.inr (.inr (.inr 0))))
  | .goto _ => sx_gt (sx_hd ex)
  | .iinc k _ => sx_ik k (sx_hd ex)
  | .iadd => sx_bo 0
  | .isub => sx_bo 1
  | .imul => sx_bo 2
  | .iand => sx_bo 3
  | .ishl => sx_bo 4
  | .ishr => sx_bo 5
  | .iushr => sx_bo 6
  | .irem => sx_bo 7
  | .i2b => sx_q sx_i2b
  | .getfield _ => match ex with
    | ci :: k :: _ => sx_gk ci k
    | _ => sx_xz
  | .putfield _ => match ex with
    | ci :: k :: fit :: _ => sx_pk ci k fit
    | _ => sx_xz
  | .new _ => sx_nw (sx_hd ex) (cls (sx_hd ex))
  | .newarray _ => sx_na 2 (sx_hd ex)
  | .anewarray _ => sx_na 3 4
  | .arraylength => sx_al
  | .iaload => sx_ld 0
  | .baload => sx_ld (sx_hd ex)
  | .aaload => sx_ld 4
  | .iastore => sx_is 0 sx_isInt
  | .bastore => match sx_hd ex with
    | 2 => sx_is 2 sx_bit
    | _ => sx_q sx_storeB
  | .aastore => sx_q sx_storeQ
  | .if_icmp o _ => sx_jt o (sx_hd ex)
  | .ifCond o _ => sx_j0 o (sx_hd ex)
  | .ifnonnull _ => sx_nn (sx_hd ex)
  | .tableswitch .. => match ex with
    | d :: lo :: ts => sx_sg d (sx_zip lo ts)
    | _ => sx_xz
  | .lookupswitch .. => match ex with
    | d :: ts => sx_sg d (sx_two ts)
    | _ => sx_xz
  | .ireturn => match sx_hd ex with
    | 1 => sx_rz
    | _ => sx_r1
  | .return_ => sx_r2
  | .invokevirtual _ => match ex with
    | 2 :: y :: n :: _ => sx_cl y n
    | _ => sx_xz
  | .invokespecial _ => match ex with
    | 0 :: _ => sx_q sx_obj
    | 2 :: y :: n :: _ => sx_cl y n
    | _ => sx_xz
  | .invokestatic _ => match ex with
    | 1 :: _ => sx_q sx_copy
    | 3 :: _ => sx_mi true
    | 4 :: _ => sx_mi false
    | 2 :: y :: n :: _ => sx_cl y n
    | _ => sx_xz
  | _ => sx_xz
noncomputable def sx_bind {α β : Type} (f : α → Option (List β)) : List α → Option (List β)
  | [] => some []
  | a :: l => match l with
    | [] => f a
    | _ :: _ => match f a with
      | none => none
      | some b => match sx_bind f l with
        | none => none
        | some m => some (b ++ m)
/-- the first n of a list, turned round, ahead of acc; and the rest -/
noncomputable def sx_take : Nat → List sx_V → List sx_V → Option (List sx_V × List sx_V)
  | 0, acc, st => some (acc, st)
  | n + 1, acc, v :: st => sx_take n (v :: acc) st
  | _ + 1, _, [] => none
/-- what a call gives: the leaves (answer, world, intervals) -/
abbrev sx_K : Type := Nat → List sx_V → List sx_E → sx_Iv → Option (List sx_L)
noncomputable def sx_back (f : sx_S → sx_N) (pc : Nat) (ls : List (Nat × sx_V)) (st : List sx_V) (mc ms : Nat) (L : sx_L) : sx_N := match L with
  | (some v, w, iv) => f (pc + 3, ls, v :: st, w, iv, mc, ms)
  | (none, w, iv) => f (pc + 3, ls, st, w, iv, mc, ms)
noncomputable def sx_call (K : sx_K) (caps : Nat → Nat × Nat) (cap : Nat × Nat) (f : sx_S → sx_N) (σ : sx_S) (y n : Nat) : sx_N := match σ with
  | (pc, ls, st, w, iv, mc, ms) => match sx_take n [] st with
    | some (av, st) => match Nat.ble st.length 4 && sx_limP iv.length w.length ls && sx_limL iv.length w.length st && Nat.ble (mc + (caps y).1) cap.1 && Nat.ble (ms + (caps y).2) cap.2 with
      | true => match K y av w iv with
        | some Ls => sx_bind (sx_back f pc ls st (mc + (caps y).1) (ms + (caps y).2)) Ls
        | none => none
      | false => none
    | none => none
noncomputable def sx_next (f : sx_S → sx_N) (r : sx_N) : sx_N := match r with
  | none => none
  | some ss => sx_bind f ss
/-- one instruction, and on with f; a return, and the place 'stop', end it -/
noncomputable def sx_body (K : sx_K) (caps : Nat → Nat × Nat) (sc : Bool) (cap : Nat × Nat) (tab : Nat → Option sx_Q) (stop : Nat) (f : sx_S → sx_N) (σ : sx_S) : sx_N := match Nat.beq σ.1 stop with
  | true => some [σ]
  | false => match tab σ.1 with
    | none => none
    | some (0, _, _, g) => sx_next f (g sc cap σ)
    | some (3, y, n, _) => sx_call K caps cap f σ y n
    | some _ => some [σ]
noncomputable def sx_run (K : sx_K) (caps : Nat → Nat × Nat) (sc : Bool) (cap : Nat × Nat) (tab : Nat → Option sx_Q) (stop n : Nat) : sx_S → sx_N := Nat.rec (motive := fun _ => sx_S → sx_N) (fun _ => none) (fun _ f => sx_body K caps sc cap tab stop f) n
noncomputable def sx_args : Nat → List sx_V → List (Nat × sx_V)
  | _, [] => []
  | k, v :: l => (k, v) :: sx_args (k + 1) l
/-- what an int method, a boolean method answers -/
noncomputable def sx_zok (z : Nat) (v : sx_V) : Bool := match z with
  | 0 => sx_isInt v
  | _ => sx_bit v
/-- the leaf of a state at a return -/
noncomputable def sx_leaf (tab : Nat → Option sx_Q) (cap : Nat × Nat) (σ : sx_S) : Option sx_L := match σ with
  | (pc, _, st, w, iv, mc, ms) => match Nat.ble mc cap.1 && Nat.ble ms cap.2 with
    | true => match tab pc with
      | some (1, z, _, _) => match st with
        | [v] => match sx_zok z (sx_nm iv v) with
          | true => some (some (sx_nm iv v), w, iv)
          | false => none
        | _ => none
      | some (2, _, _, _) => match st with
        | [] => some (none, w, iv)
        | _ => none
      | _ => none
    | false => none
noncomputable def sx_far : Nat := 1000000
/-- the receiver is an object of its kind (0: a static method; else the kind and one) -/
noncomputable def sx_rok (w : List sx_E) (k : Nat) (av : List sx_V) : Bool := match k with
  | 0 => true
  | ci + 1 => match av with
    | (.inr (.inr (.inl q))) :: _ => match sx_nth w q with
      | some (.inl (c, _)) => Nat.beq c ci
      | _ => false
    | _ => false
noncomputable def sx_exec (mt : Nat → Option (Nat → Option sx_Q)) (caps : Nat → Nat × Nat) (rc : Nat → Nat) (fuel d : Nat) : sx_K := Nat.rec (motive := fun _ => sx_K) (fun _ _ _ _ => none)
  (fun _ K y av w iv => match mt y with
    | none => none
    | some tab => match sx_rok w (rc y) av && av.all (fun v => !(sx_cat v)) with
      | true => match sx_run K caps false (caps y) tab sx_far fuel (0, sx_args 0 av, [], w, iv, 0, 0) with
        | none => none
        | some ss => sx_mapO (sx_leaf tab (caps y)) ss
      | false => none) d
/-- a sorted list's rows by number: a list of lists of 16 -/
noncomputable def sx_row {α : Type} (k : Nat) : List (Nat × α) → Option α
  | [] => none
  | (j, x) :: l => match Nat.beq j k with
    | true => some x
    | false => sx_row k l
noncomputable def sx_find {α : Type} (t : List (List (Nat × α))) (k : Nat) : Option α := match t[k / 16]? with
  | some l => sx_row (k % 16) l
  | none => none
end
section
/-! the methods that one call on a fresh object reaches: trees of their instructions, made by wip/p1/gen.py -/
def sx_cls : Nat → List sx_V
  | 0 => [.inr (.inr (.inr 0)), .inr (.inr (.inr 0)), .inr (.inr (.inr 0)), .inr (.inr (.inr 0)), .inl 0, .inl 0, .inl 0, .inl 0]
  | 1 => [.inr (.inr (.inr 0)), .inr (.inr (.inr 0)), .inr (.inr (.inr 0)), .inr (.inr (.inr 0)), .inr (.inr (.inr 0)), .inr (.inr (.inr 0)), .inr (.inr (.inr 0)), .inr (.inr (.inr 0)), .inl 0, .inl 0]
  | 2 => [.inr (.inr (.inr 0)), .inr (.inr (.inr 0)), .inr (.inr (.inr 0)), .inl 0, .inl 0, .inl 0]
  | 3 => [.inr (.inr (.inr 0)), .inr (.inr (.inr 0)), .inr (.inr (.inr 0)), .inr (.inr (.inr 0)), .inr (.inr (.inr 0)), .inl 0, .inl 0, .inl 0, .inl 0]
  | 4 => [.inr (.inr (.inr 0)), .inr (.inr (.inr 0)), .inr (.inr (.inr 0)), .inr (.inr (.inr 0)), .inr (.inr (.inr 0)), .inr (.inr (.inr 0)), .inl 0, .inl 0, .inl 0, .inl 0, .inl 0, .inr (.inr (.inr 1)), .inl 0, .inl 0, .inl 0, .inl 0, .inl 0]
  | 5 => [.inr (.inr (.inr 0)), .inl 0]
  | 6 => [.inr (.inr (.inr 0)), .inr (.inr (.inr 0)), .inr (.inr (.inr 0)), .inr (.inr (.inr 0)), .inl 0, .inl 0, .inl 0, .inr (.inr (.inr 0)), .inr (.inr (.inr 0)), .inr (.inr (.inr 0)), .inr (.inr (.inr 0)), .inl 0, .inr (.inr (.inr 0)), .inr (.inr (.inr 1)), .inl 0, .inl 0, .inl 0, .inl 0, .inl 0]
  | 7 => [.inr (.inr (.inr 0)), .inr (.inr (.inr 0)), .inr (.inr (.inr 0)), .inr (.inr (.inr 0)), .inr (.inr (.inr 0)), .inr (.inr (.inr 0)), .inl 0, .inl 0, .inr (.inr (.inr 0)), .inr (.inr (.inr 0)), .inl 0, .inl 0, .inl 0, .inl 0, .inl 0]
  | 8 => [.inl 0, .inl 0, .inr (.inr (.inr 0)), .inr (.inr (.inr 0)), .inr (.inr (.inr 0)), .inr (.inr (.inr 0)), .inr (.inr (.inr 0))]
  | 9 => [.inr (.inr (.inr 0)), .inr (.inr (.inr 0)), .inr (.inr (.inr 0)), .inr (.inr (.inr 0)), .inr (.inr (.inr 0)), .inr (.inr (.inr 0)), .inr (.inr (.inr 0)), .inl 0, .inr (.inr (.inr 0)), .inr (.inr (.inr 0)), .inl 0, .inl 0, .inl 0, .inr (.inr (.inr 0)), .inl 0, .inl 0, .inr (.inr (.inr 0))]
  | 10 => [.inl 0, .inl 0, .inl 0, .inl 0, .inl 0, .inl 0, .inr (.inr (.inr 0)), .inr (.inr (.inr 0)), .inr (.inr (.inr 0)), .inr (.inr (.inr 0)), .inr (.inr (.inr 0)), .inr (.inr (.inr 0)), .inr (.inr (.inr 0)), .inr (.inr (.inr 0)), .inr (.inr (.inr 0)), .inr (.inr (.inr 0)), .inr (.inr (.inr 0)), .inr (.inr (.inr 0)), .inr (.inr (.inr 0))]
  | 11 => [.inr (.inr (.inr 0)), .inl 0, .inr (.inr (.inr 0)), .inr (.inr (.inr 0)), .inr (.inr (.inr 0)), .inr (.inr (.inr 0)), .inr (.inr (.inr 0)), .inr (.inr (.inr 0)), .inr (.inr (.inr 0)), .inr (.inr (.inr 0)), .inr (.inr (.inr 0)), .inr (.inr (.inr 0)), .inr (.inr (.inr 0))]
  | 12 => [.inr (.inr (.inr 0)), .inr (.inr (.inr 0)), .inl 0, .inl 0, .inl 0, .inl 0, .inl 0, .inl 0, .inl 0, .inl 0, .inr (.inr (.inr 1)), .inr (.inr (.inr 0)), .inr (.inr (.inr 0)), .inr (.inr (.inr 0)), .inr (.inr (.inr 0)), .inr (.inr (.inr 0)), .inr (.inr (.inr 0)), .inr (.inr (.inr 0)), .inr (.inr (.inr 0)), .inr (.inr (.inr 0)), .inr (.inr (.inr 0)), .inr (.inr (.inr 0)), .inr (.inr (.inr 0)), .inr (.inr (.inr 0)), .inr (.inr (.inr 0)), .inr (.inr (.inr 0)), .inr (.inr (.inr 0)), .inr (.inr (.inr 0)), .inr (.inr (.inr 0)), .inr (.inr (.inr 0)), .inr (.inr (.inr 0)), .inr (.inr (.inr 0)), .inr (.inr (.inr 0)), .inr (.inr (.inr 0)), .inr (.inr (.inr 0)), .inr (.inr (.inr 0)), .inr (.inr (.inr 0)), .inr (.inr (.inr 0)), .inr (.inr (.inr 0)), .inl 0, .inl 0, .inl 0, .inl 0, .inl 0, .inl 0, .inl 0, .inl 0, .inl 0, .inl 0, .inr (.inr (.inr 0)), .inr (.inr (.inr 0)), .inl 0, .inl 0, .inr (.inr (.inr 0)), .inr (.inr (.inr 0)), .inr (.inr (.inr 0)), .inl 0, .inr (.inr (.inr 0)), .inl 0, .inr (.inr (.inr 0)), .inr (.inr (.inr 0)), .inl 0, .inr (.inr (.inr 0)), .inl 0, .inr (.inr (.inr 0)), .inr (.inr (.inr 0)), .inr (.inr (.inr 0)), .inr (.inr (.inr 0)), .inr (.inr (.inr 0)), .inr (.inr (.inr 0)), .inr (.inr (.inr 0)), .inl 0, .inl 0, .inl 0, .inl 0, .inl 0, .inl 0, .inl 0, .inr (.inr (.inr 0)), .inr (.inr (.inr 0))]
  | _ => []
noncomputable def sx_t_J6_bitCount_0f7a4 : List (List (Nat × sx_Q)) := [[(0, sx_lk 1 0), (1, sx_lk 1 0), (2, sx_ci 1 1), (3, sx_bo 6), (4, sx_ci 3 1431655765), (7, sx_bo 3), (8, sx_bo 1), (9, sx_sk 1 0), (10, sx_lk 1 0), (11, sx_ci 3 858993459), (14, sx_bo 3), (15, sx_lk 1 0)], [(0, sx_ci 1 2), (1, sx_bo 6), (2, sx_ci 3 858993459), (5, sx_bo 3), (6, sx_bo 0), (7, sx_sk 1 0), (8, sx_lk 1 0), (9, sx_lk 1 0), (10, sx_ci 1 4), (11, sx_bo 6), (12, sx_bo 0), (13, sx_ci 3 252645135)], [(0, sx_bo 3), (1, sx_sk 1 0), (2, sx_lk 1 0), (3, sx_lk 1 0), (4, sx_ci 2 8), (6, sx_bo 6), (7, sx_bo 0), (8, sx_sk 1 0), (9, sx_lk 1 0), (10, sx_lk 1 0), (11, sx_ci 2 16), (13, sx_bo 6), (14, sx_bo 0), (15, sx_sk 1 0)], [(0, sx_lk 1 0), (1, sx_ci 2 63), (3, sx_bo 3), (4, sx_r1)]]
noncomputable def sx_t_J7_fill_53178 : List (List (Nat × sx_Q)) := [[(0, sx_ci 1 0), (1, sx_sk 1 2), (2, sx_la 0), (3, sx_al), (4, sx_sk 1 3), (5, sx_lk 1 2), (6, sx_lk 1 3), (7, sx_jt .ge 20), (10, sx_la 0), (11, sx_lk 1 2), (12, sx_lk 1 1), (13, sx_is 0 sx_isInt), (14, sx_ik 2 1)], [(1, sx_gt 5), (4, sx_r2)]]
noncomputable def sx_t_X0_daysLost : List (List (Nat × sx_Q)) := [[(0, sx_la 0), (1, sx_cl 4 1), (4, sx_sk 1 2), (5, sx_ci 1 0), (6, sx_sk 1 3), (7, sx_ci 1 0), (8, sx_sk 2 4), (10, sx_lk 2 4), (12, sx_lk 1 1), (13, sx_jt .ge 53)], [(0, sx_la 0), (1, sx_la 0), (2, sx_gk 0 1), (5, sx_gk 8 0), (8, sx_lk 2 4), (10, sx_bo 0), (11, sx_cl 7 2), (14, sx_sk 2 5)], [(0, sx_lk 2 5), (2, sx_ci 1 4294967295), (3, sx_jt .eq 44), (12, sx_ik 3 1), (15, sx_ik 4 1)], [(2, sx_gt 10), (5, sx_lk 1 3), (6, sx_r1)]]
noncomputable def sx_t_X0_init : List (List (Nat × sx_Q)) := [[(0, sx_la 0), (1, sx_q sx_obj), (4, sx_la 0), (5, sx_ci 2 30), (7, sx_na 2 0), (9, sx_pk 0 2 1), (12, sx_la 0), (13, sx_ci 1 3), (14, sx_na 2 0)], [(0, sx_pk 0 3 1), (3, sx_la 0), (4, sx_la 1), (5, sx_pk 0 0 1), (8, sx_la 0), (9, sx_la 2), (10, sx_pk 0 1 1), (13, sx_r2)]]
noncomputable def sx_t_X0_mostFavoured : List (List (Nat × sx_Q)) := [[(0, sx_la 0), (1, sx_gk 0 3), (4, sx_ci 1 0), (5, sx_cl 1 2), (8, sx_ci 1 0), (9, sx_sk 1 1), (10, sx_lk 1 1), (11, sx_la 0), (12, sx_gk 0 0), (15, sx_gk 10 0)], [(2, sx_jt .ge 49)], [], [(1, sx_la 0), (2, sx_cl 6 1), (5, sx_r1)]]
noncomputable def sx_t_X0_passDay : List (List (Nat × sx_Q)) := [[(0, sx_ci 1 0), (1, sx_sk 1 3), (2, sx_lk 1 3), (3, sx_la 0), (4, sx_gk 0 0), (7, sx_gk 10 1), (10, sx_jt .ge 88)], [], [], [], [], [(8, sx_la 0), (9, sx_gk 0 1), (12, sx_q sx_dup), (13, sx_gk 8 0)], [(0, sx_ci 1 1), (1, sx_bo 0), (2, sx_pk 8 0 0), (5, sx_r2)]]
noncomputable def sx_t_X0_winner : List (List (Nat × sx_Q)) := [[(0, sx_ci 1 4294967295), (1, sx_sk 1 1), (2, sx_ci 1 0), (3, sx_sk 1 2), (4, sx_ci 1 0), (5, sx_sk 1 3), (6, sx_lk 1 3), (7, sx_ci 1 2), (8, sx_jt .gt 36), (11, sx_la 0), (12, sx_gk 0 3), (15, sx_lk 1 3)], [(0, sx_ld 0), (1, sx_lk 1 2), (2, sx_jt .le 30), (14, sx_ik 3 1)], [(1, sx_gt 6), (4, sx_lk 1 1), (5, sx_r1)]]
noncomputable def sx_t_X0_winnerOn : List (List (Nat × sx_Q)) := [[(0, sx_la 0), (1, sx_gk 0 3), (4, sx_ci 1 0), (5, sx_cl 1 2), (8, sx_ci 1 0), (9, sx_sk 1 2), (10, sx_lk 1 2), (11, sx_la 0), (12, sx_gk 0 0), (15, sx_gk 10 1)], [(2, sx_jt .ge 37)], [(5, sx_la 0), (6, sx_cl 6 1), (9, sx_r1)]]
noncomputable def sx_t_X10_copyFrom : List (List (Nat × sx_Q)) := [[(0, sx_la 0), (1, sx_la 1), (2, sx_gk 10 0), (5, sx_pk 10 0 0), (8, sx_la 0), (9, sx_la 1), (10, sx_gk 10 1), (13, sx_pk 10 1 0)], [(0, sx_la 0), (1, sx_la 1), (2, sx_gk 10 2), (5, sx_pk 10 2 0), (8, sx_la 0), (9, sx_la 1), (10, sx_gk 10 3), (13, sx_pk 10 3 0)], [(0, sx_la 0), (1, sx_la 1), (2, sx_gk 10 4), (5, sx_pk 10 4 0), (8, sx_la 0), (9, sx_la 1), (10, sx_gk 10 5), (13, sx_pk 10 5 0)], [(0, sx_la 1), (1, sx_gk 10 6), (4, sx_ci 1 0), (5, sx_la 0), (6, sx_gk 10 6), (9, sx_ci 1 0), (10, sx_ci 2 8), (12, sx_q sx_copy), (15, sx_la 1)], [(0, sx_gk 10 7), (3, sx_ci 1 0), (4, sx_la 0), (5, sx_gk 10 7), (8, sx_ci 1 0), (9, sx_ci 2 8), (11, sx_q sx_copy), (14, sx_la 1), (15, sx_gk 10 8)], [(2, sx_ci 1 0), (3, sx_la 0), (4, sx_gk 10 8), (7, sx_ci 1 0), (8, sx_ci 2 8), (10, sx_q sx_copy), (13, sx_la 1), (14, sx_gk 10 9)], [(1, sx_ci 1 0), (2, sx_la 0), (3, sx_gk 10 9), (6, sx_ci 1 0), (7, sx_ci 2 8), (9, sx_q sx_copy), (12, sx_la 1), (13, sx_gk 10 10)], [(0, sx_ci 1 0), (1, sx_la 0), (2, sx_gk 10 10), (5, sx_ci 1 0), (6, sx_ci 2 8), (8, sx_q sx_copy), (11, sx_la 1), (12, sx_gk 10 11), (15, sx_ci 1 0)], [(0, sx_la 0), (1, sx_gk 10 11), (4, sx_ci 1 0), (5, sx_ci 2 64), (7, sx_q sx_copy), (10, sx_la 1), (11, sx_gk 10 12), (14, sx_ci 1 0), (15, sx_la 0)], [(0, sx_gk 10 12), (3, sx_ci 1 0), (4, sx_ci 1 4), (5, sx_q sx_copy), (8, sx_la 1), (9, sx_gk 10 13), (12, sx_ci 1 0), (13, sx_la 0), (14, sx_gk 10 13)], [(1, sx_ci 1 0), (2, sx_ci 1 4), (3, sx_q sx_copy), (6, sx_la 1), (7, sx_gk 10 14), (10, sx_ci 1 0), (11, sx_la 0), (12, sx_gk 10 14), (15, sx_ci 1 0)], [(0, sx_ci 2 56), (2, sx_q sx_copy), (5, sx_la 1), (6, sx_gk 10 15), (9, sx_ci 1 0), (10, sx_la 0), (11, sx_gk 10 15), (14, sx_ci 1 0), (15, sx_ci 2 6)], [(1, sx_q sx_copy), (4, sx_la 1), (5, sx_gk 10 16), (8, sx_ci 1 0), (9, sx_la 0), (10, sx_gk 10 16), (13, sx_ci 1 0), (14, sx_ci 2 6)], [(0, sx_q sx_copy), (3, sx_la 1), (4, sx_gk 10 17), (7, sx_ci 1 0), (8, sx_la 0), (9, sx_gk 10 17), (12, sx_ci 1 0), (13, sx_ci 2 6), (15, sx_q sx_copy)], [(2, sx_la 1), (3, sx_gk 10 18), (6, sx_ci 1 0), (7, sx_la 0), (8, sx_gk 10 18), (11, sx_ci 1 0), (12, sx_ci 3 640), (15, sx_q sx_copy)], [(2, sx_r2)]]
noncomputable def sx_t_X10_empty : List (List (Nat × sx_Q)) := [[(0, sx_la 0), (1, sx_ci 1 0), (2, sx_pk 10 0 0), (5, sx_la 0), (6, sx_ci 1 0), (7, sx_pk 10 1 0), (10, sx_la 0), (11, sx_ci 1 0), (12, sx_pk 10 2 0), (15, sx_la 0)], [(0, sx_ci 1 0), (1, sx_pk 10 3 0), (4, sx_la 0), (5, sx_ci 1 0), (6, sx_pk 10 4 0), (9, sx_la 0), (10, sx_ci 1 4294967295), (11, sx_pk 10 5 0), (14, sx_la 0), (15, sx_gk 10 8)], [(2, sx_ci 1 4294967295), (3, sx_cl 1 2), (6, sx_la 0), (7, sx_gk 10 9), (10, sx_ci 1 4294967295), (11, sx_cl 1 2), (14, sx_la 0), (15, sx_gk 10 11)], [(2, sx_ci 1 4294967295), (3, sx_cl 1 2), (6, sx_r2)]]
noncomputable def sx_t_X10_hasDeed : List (List (Nat × sx_Q)) := [[(0, sx_lk 1 1), (1, sx_j0 .lt 16), (4, sx_lk 1 1), (5, sx_la 0), (6, sx_gk 10 2), (9, sx_jt .ge 16)], [(0, sx_ci 1 0), (1, sx_rz)]]
noncomputable def sx_t_X10_hasHalf : List (List (Nat × sx_Q)) := [[(0, sx_lk 1 1), (1, sx_j0 .lt 16), (4, sx_lk 1 1), (5, sx_la 0), (6, sx_gk 10 0), (9, sx_jt .ge 16)], [(0, sx_ci 1 0), (1, sx_rz)]]
noncomputable def sx_t_X10_hasPerson : List (List (Nat × sx_Q)) := [[(0, sx_lk 1 1), (1, sx_j0 .lt 16), (4, sx_lk 1 1), (5, sx_la 0), (6, sx_gk 10 1), (9, sx_jt .ge 16)], [(0, sx_ci 1 0), (1, sx_rz)]]
noncomputable def sx_t_X10_init : List (List (Nat × sx_Q)) := [[(0, sx_la 0), (1, sx_q sx_obj), (4, sx_la 0), (5, sx_ci 2 8), (7, sx_na 2 0), (9, sx_pk 10 6 1), (12, sx_la 0), (13, sx_ci 2 8), (15, sx_na 2 0)], [(1, sx_pk 10 7 1), (4, sx_la 0), (5, sx_ci 2 8), (7, sx_na 2 0), (9, sx_pk 10 8 1), (12, sx_la 0), (13, sx_ci 2 8), (15, sx_na 2 0)], [(1, sx_pk 10 9 1), (4, sx_la 0), (5, sx_ci 2 8), (7, sx_na 2 0), (9, sx_pk 10 10 1), (12, sx_la 0), (13, sx_ci 2 64), (15, sx_na 2 0)], [(1, sx_pk 10 11 1), (4, sx_la 0), (5, sx_ci 1 4), (6, sx_na 2 0), (8, sx_pk 10 12 1), (11, sx_la 0), (12, sx_ci 1 4), (13, sx_na 2 0), (15, sx_pk 10 13 1)], [(2, sx_la 0), (3, sx_ci 2 56), (5, sx_na 2 0), (7, sx_pk 10 14 1), (10, sx_la 0), (11, sx_ci 2 6), (13, sx_na 2 0), (15, sx_pk 10 15 1)], [(2, sx_la 0), (3, sx_ci 2 6), (5, sx_na 2 0), (7, sx_pk 10 16 1), (10, sx_la 0), (11, sx_ci 2 6), (13, sx_na 2 0), (15, sx_pk 10 17 1)], [(2, sx_la 0), (3, sx_ci 3 640), (6, sx_na 2 0), (8, sx_pk 10 18 1), (11, sx_la 0), (12, sx_cl 9 1), (15, sx_r2)]]
noncomputable def sx_t_X10_isMember : List (List (Nat × sx_Q)) := [[(0, sx_la 0), (1, sx_lk 1 1), (2, sx_cl 12 2), (5, sx_j0 .eq 30)], [(14, sx_ci 1 0), (15, sx_rz)]]
noncomputable def sx_t_X11_about : List (List (Nat × sx_Q)) := [[(0, sx_lk 1 1), (1, sx_sg 184 [(2147483648, 72), (2147483649, 80), (2147483650, 88), (2147483651, 96), (2147483652, 104), (2147483653, 112), (2147483654, 120), (2147483655, 128), (2147483656, 139), (2147483657, 147), (2147483658, 155), (2147483659, 160), (2147483660, 168), (2147483661, 176)])], [], [], [], [(8, sx_la 0), (9, sx_gk 11 2), (12, sx_gk 10 0), (15, sx_r1)], [(0, sx_la 0), (1, sx_gk 11 2), (4, sx_gk 10 1), (7, sx_r1), (8, sx_la 0), (9, sx_gk 11 2), (12, sx_gk 10 2), (15, sx_r1)], [(0, sx_la 0), (1, sx_gk 11 4), (4, sx_gk 8 0), (7, sx_r1), (8, sx_la 0), (9, sx_gk 11 4), (12, sx_gk 8 1), (15, sx_r1)], [(0, sx_la 0), (1, sx_gk 11 5), (4, sx_gk 2 4), (7, sx_r1), (8, sx_la 0), (9, sx_gk 11 5), (12, sx_gk 2 5), (15, sx_r1)], [(0, sx_la 0), (1, sx_gk 11 8), (4, sx_gk 1 7), (7, sx_gk 5 1), (10, sx_r1), (11, sx_la 0), (12, sx_gk 11 12), (15, sx_gk 7 6)], [(2, sx_r1), (3, sx_la 0), (4, sx_gk 11 12), (7, sx_gk 7 7), (10, sx_r1), (11, sx_la 0), (12, sx_gk 11 1), (15, sx_r1)], [(0, sx_la 0), (1, sx_gk 11 2), (4, sx_gk 10 4), (7, sx_r1), (8, sx_la 0), (9, sx_gk 11 6), (12, sx_gk 5 1), (15, sx_r1)], [(0, sx_la 0), (1, sx_gk 11 2), (4, sx_gk 10 3), (7, sx_r1), (8, sx_ci 1 4294967295), (9, sx_r1)]]
noncomputable def sx_t_X11_alibis : List (List (Nat × sx_Q)) := [[(0, sx_la 0), (1, sx_gk 11 6), (4, sx_cl 146 1), (7, sx_la 0), (8, sx_gk 11 2), (11, sx_lk 1 1), (12, sx_cl 12 2), (15, sx_j0 .ne 20)], [(2, sx_ci 1 4294967295), (3, sx_r1)]]
noncomputable def sx_t_X11_back : List (List (Nat × sx_Q)) := [[(0, sx_lk 1 1), (1, sx_j0 .lt 24), (4, sx_lk 1 1), (5, sx_ci 1 3), (6, sx_jt .ge 24), (9, sx_la 0), (10, sx_gk 11 5), (13, sx_lk 1 1), (14, sx_la 0), (15, sx_gk 11 4)], [(2, sx_cl 135 3), (5, sx_j0 .ne 26), (8, sx_ci 1 4294967295), (9, sx_r1)]]
noncomputable def sx_t_X11_breaks : List (List (Nat × sx_Q)) := [[(0, sx_la 0), (1, sx_gk 11 2), (4, sx_lk 1 1), (5, sx_cl 12 2), (8, sx_j0 .eq 31)], [(15, sx_ci 2 4294967294)], [(1, sx_r1)]]
noncomputable def sx_t_X11_canDo : List (List (Nat × sx_Q)) := [[(0, sx_la 0), (1, sx_gk 11 2), (4, sx_lk 1 1), (5, sx_cl 12 2), (8, sx_j0 .eq 45)], [], [(13, sx_ci 1 0), (14, sx_rz)]]
noncomputable def sx_t_X11_cares : List (List (Nat × sx_Q)) := [[(0, sx_la 0), (1, sx_gk 11 2), (4, sx_lk 1 1), (5, sx_cl 12 2), (8, sx_j0 .eq 31)], [(15, sx_ci 2 4294967294)], [(1, sx_r1)]]
noncomputable def sx_t_X11_chooses : List (List (Nat × sx_Q)) := [[(0, sx_la 0), (1, sx_gk 11 2), (4, sx_lk 1 1), (5, sx_cl 12 2), (8, sx_j0 .eq 22)], [(6, sx_ci 2 4294967294), (8, sx_r1)]]
noncomputable def sx_t_X11_days : List (List (Nat × sx_Q)) := [[(0, sx_lk 1 1), (1, sx_j0 .lt 25), (4, sx_lk 1 1), (5, sx_ci 2 60), (7, sx_jt .gt 25), (10, sx_la 0), (11, sx_gk 11 4), (14, sx_gk 8 0)], [(1, sx_lk 1 1), (2, sx_bo 0), (3, sx_ci 3 900), (6, sx_jt .le 27), (9, sx_ci 1 4294967295), (10, sx_r1), (11, sx_ci 1 0), (12, sx_sk 1 2), (13, sx_lk 1 2), (14, sx_lk 1 1), (15, sx_jt .ge 49)], [(2, sx_la 0), (3, sx_gk 11 7), (6, sx_ci 1 4294967295), (7, sx_ci 1 4294967295), (8, sx_cl 5 3), (11, sx_ik 2 1), (14, sx_gt 29)], [(1, sx_la 0), (2, sx_gk 11 5), (5, sx_la 0), (6, sx_gk 11 4), (9, sx_cl 130 2), (12, sx_la 0), (13, sx_gk 11 4)], [(0, sx_gk 8 0), (3, sx_r1)]]
noncomputable def sx_t_X11_decree : List (List (Nat × sx_Q)) := [[(0, sx_la 0), (1, sx_lk 1 1), (2, sx_lk 1 2), (3, sx_cl 19 3), (6, sx_j0 .eq 22)], [(6, sx_ci 2 3294967296), (8, sx_r1)]]
noncomputable def sx_t_X11_die : List (List (Nat × sx_Q)) := [[(0, sx_la 0), (1, sx_gk 11 2), (4, sx_lk 1 1), (5, sx_cl 11 2), (8, sx_j0 .ne 13), (11, sx_ci 1 4294967295), (12, sx_r1)]]
noncomputable def sx_t_X11_elected : List (List (Nat × sx_Q)) := [[(0, sx_lk 1 1), (1, sx_j0 .lt 11), (4, sx_lk 1 1), (5, sx_ci 3 999), (8, sx_jt .le 13), (11, sx_ci 1 4294967295), (12, sx_r1), (13, sx_la 0), (14, sx_gk 11 7)], [(1, sx_lk 1 1), (2, sx_cl 7 2), (5, sx_r1)]]
noncomputable def sx_t_X11_end : List (List (Nat × sx_Q)) := [[(0, sx_lk 1 1), (1, sx_j0 .lt 12), (4, sx_lk 1 1), (5, sx_la 0), (6, sx_gk 11 1), (9, sx_jt .le 14), (12, sx_ci 1 4294967295), (13, sx_r1), (14, sx_la 0), (15, sx_lk 1 1)], [(0, sx_pk 11 1 0), (3, sx_lk 1 1), (4, sx_r1)]]
noncomputable def sx_t_X11_exchange : List (List (Nat × sx_Q)) := [[(0, sx_la 0), (1, sx_gk 11 2), (4, sx_lk 1 1), (5, sx_cl 12 2), (8, sx_j0 .eq 40)], [], [(8, sx_ci 1 0), (9, sx_rz)]]
noncomputable def sx_t_X11_fast : List (List (Nat × sx_Q)) := [[(0, sx_la 0), (1, sx_gk 11 11), (4, sx_cl 140 1), (7, sx_la 0), (8, sx_gk 11 11), (11, sx_gk 3 8), (14, sx_r1)]]
noncomputable def sx_t_X11_fault : List (List (Nat × sx_Q)) := [[(0, sx_lk 1 1), (1, sx_sg 44 [(2147483648, 28), (2147483649, 36)])], [(12, sx_la 0), (13, sx_gk 11 3)], [(0, sx_gk 4 7), (3, sx_r1), (4, sx_la 0), (5, sx_gk 11 3), (8, sx_gk 4 8), (11, sx_r1), (12, sx_ci 1 4294967295), (13, sx_r1)]]
noncomputable def sx_t_X11_feed : List (List (Nat × sx_Q)) := [[(0, sx_la 0), (1, sx_gk 11 1), (4, sx_ci 2 20), (6, sx_bo 0), (7, sx_ci 3 1600), (10, sx_jt .le 15), (15, sx_la 0)], [(0, sx_lk 1 1), (1, sx_cl 48 2), (4, sx_la 0), (5, sx_lk 1 2), (6, sx_cl 48 2), (9, sx_la 0), (10, sx_lk 1 3), (11, sx_cl 48 2), (14, sx_la 0), (15, sx_lk 2 4)], [(1, sx_cl 48 2), (4, sx_la 0), (5, sx_lk 2 5), (7, sx_cl 48 2), (10, sx_la 0), (11, sx_gk 11 1), (14, sx_r1)]]
noncomputable def sx_t_X11_guilt : List (List (Nat × sx_Q)) := [[(0, sx_la 0), (1, sx_gk 11 2), (4, sx_lk 1 1), (5, sx_cl 10 2), (8, sx_j0 .eq 31)], [(15, sx_ci 1 4294967295)], [(0, sx_r1)]]
noncomputable def sx_t_X11_half : List (List (Nat × sx_Q)) := [[(0, sx_la 0), (1, sx_gk 11 2), (4, sx_lk 1 1), (5, sx_cl 11 2), (8, sx_j0 .ne 13), (11, sx_ci 1 4294967295), (12, sx_r1)]]
noncomputable def sx_t_X11_hush : List (List (Nat × sx_Q)) := [[(0, sx_la 0), (1, sx_gk 11 8), (4, sx_gk 1 7), (7, sx_gk 5 1), (10, sx_sk 1 1), (11, sx_la 0), (12, sx_gk 11 8), (15, sx_gk 1 7)], [(2, sx_cl 146 1), (5, sx_lk 1 1), (6, sx_r1)]]
noncomputable def sx_t_X11_image : List (List (Nat × sx_Q)) := [[(0, sx_lk 1 1), (1, sx_j0 .lt 9), (4, sx_lk 1 1), (5, sx_ci 1 3), (6, sx_jt .lt 11), (9, sx_ci 1 4294967295), (10, sx_r1), (11, sx_la 0), (12, sx_gk 11 5), (15, sx_lk 1 1)], [(0, sx_la 0), (1, sx_gk 11 4), (4, sx_cl 128 3), (7, sx_la 0), (8, sx_gk 11 4), (11, sx_gk 8 0), (14, sx_r1)]]
noncomputable def sx_t_X11_in : List (List (Nat × sx_Q)) := [[(0, sx_la 0), (1, sx_gk 11 2), (4, sx_lk 1 1), (5, sx_cl 12 2), (8, sx_j0 .eq 22)], [(6, sx_ci 2 4294967294), (8, sx_r1)]]
noncomputable def sx_t_X11_init : List (List (Nat × sx_Q)) := [[(0, sx_la 0), (1, sx_q sx_obj), (4, sx_la 0), (5, sx_ci 3 1600), (8, sx_na 2 0), (10, sx_pk 11 0 1), (13, sx_la 0), (14, sx_ci 1 0), (15, sx_pk 11 1 0)], [(2, sx_la 0), (3, sx_nw 10 (sx_cls 10)), (6, sx_q sx_dup), (7, sx_cl 13 1), (10, sx_pk 11 2 1), (13, sx_la 0), (14, sx_nw 4 (sx_cls 4))], [(1, sx_q sx_dup), (2, sx_la 0), (3, sx_gk 11 0), (6, sx_cl 143 2), (9, sx_pk 11 3 1), (12, sx_la 0), (13, sx_nw 8 (sx_cls 8))], [(0, sx_q sx_dup), (1, sx_cl 157 1), (4, sx_pk 11 4 1), (7, sx_la 0), (8, sx_nw 2 (sx_cls 2)), (11, sx_q sx_dup), (12, sx_cl 129 1), (15, sx_pk 11 5 1)], [(2, sx_la 0), (3, sx_nw 5 (sx_cls 5)), (6, sx_q sx_dup), (7, sx_ci 2 20), (9, sx_cl 147 2), (12, sx_pk 11 6 1), (15, sx_la 0)], [(0, sx_nw 0 (sx_cls 0)), (3, sx_q sx_dup), (4, sx_la 0), (5, sx_gk 11 2), (8, sx_la 0), (9, sx_gk 11 4), (12, sx_cl 3 3), (15, sx_pk 11 7 1)], [(2, sx_la 0), (3, sx_nw 1 (sx_cls 1)), (6, sx_q sx_dup), (7, sx_la 0), (8, sx_gk 11 2), (11, sx_la 0), (12, sx_gk 11 4), (15, sx_la 0)], [(0, sx_gk 11 7), (3, sx_cl 126 4), (6, sx_pk 11 8 1), (9, sx_la 0), (10, sx_q (fun σ => sx_push σ 1 (.inr (.inr (.inr 0))))), (11, sx_pk 11 9 1), (14, sx_la 0), (15, sx_q (fun σ => sx_push σ 1 (.inr (.inr (.inr 0)))))], [(0, sx_pk 11 10 1), (3, sx_la 0), (4, sx_nw 3 (sx_cls 3)), (7, sx_q sx_dup), (8, sx_la 0), (9, sx_gk 11 2), (12, sx_la 0), (13, sx_gk 11 4)], [(0, sx_cl 137 3), (3, sx_pk 11 11 1), (6, sx_la 0), (7, sx_nw 7 (sx_cls 7)), (10, sx_q sx_dup), (11, sx_la 0), (12, sx_gk 11 2), (15, sx_cl 150 2)], [(2, sx_pk 11 12 1), (5, sx_la 0), (6, sx_gk 11 4), (9, sx_la 0), (10, sx_gk 11 2), (13, sx_cl 155 2)], [(0, sx_la 0), (1, sx_gk 11 5), (4, sx_la 0), (5, sx_gk 11 4), (8, sx_cl 132 2), (11, sx_r2)]]
noncomputable def sx_t_X11_joy : List (List (Nat × sx_Q)) := [[(0, sx_la 0), (1, sx_lk 1 1), (2, sx_lk 1 2), (3, sx_cl 19 3), (6, sx_j0 .ne 12), (9, sx_ci 2 3294967296), (11, sx_r1)]]
noncomputable def sx_t_X11_keeps : List (List (Nat × sx_Q)) := [[(0, sx_la 0), (1, sx_gk 11 2), (4, sx_lk 1 1), (5, sx_lk 1 2), (6, sx_cl 14 3), (9, sx_j0 .eq 32)], [], [(0, sx_ci 2 3294967296), (2, sx_r1)]]
noncomputable def sx_t_X11_later : List (List (Nat × sx_Q)) := [[(0, sx_lk 1 1), (1, sx_j0 .lt 26), (4, sx_lk 1 1), (5, sx_ci 3 1000), (8, sx_jt .gt 26), (11, sx_la 0), (12, sx_gk 11 12), (15, sx_gk 7 7)], [(2, sx_lk 1 1), (3, sx_bo 0), (4, sx_ci 3 100000), (7, sx_jt .le 28), (10, sx_ci 1 4294967295), (11, sx_r1), (12, sx_la 0), (13, sx_gk 11 12)], [(0, sx_q sx_dup), (1, sx_gk 7 7), (4, sx_lk 1 1), (5, sx_bo 0), (6, sx_pk 7 7 0), (9, sx_la 0), (10, sx_gk 11 12), (13, sx_gk 7 7)], [(0, sx_r1)]]
noncomputable def sx_t_X11_lies : List (List (Nat × sx_Q)) := [[(0, sx_la 0), (1, sx_gk 11 6), (4, sx_lk 1 1), (5, sx_cl 145 2), (8, sx_r1)]]
noncomputable def sx_t_X11_likes : List (List (Nat × sx_Q)) := [[(0, sx_la 0), (1, sx_gk 11 2), (4, sx_lk 1 1), (5, sx_cl 11 2), (8, sx_j0 .eq 27)], [(11, sx_ci 1 4294967295), (12, sx_r1)]]
noncomputable def sx_t_X11_next : List (List (Nat × sx_Q)) := [[(0, sx_la 0), (1, sx_gk 11 2), (4, sx_lk 1 1), (5, sx_cl 10 2), (8, sx_j0 .eq 26)], [(10, sx_ci 1 4294967295), (11, sx_r1)]]
noncomputable def sx_t_X11_pairing : List (List (Nat × sx_Q)) := [[(0, sx_la 0), (1, sx_gk 11 11), (4, sx_cl 140 1), (7, sx_la 0), (8, sx_gk 11 6), (11, sx_cl 146 1), (14, sx_lk 1 1), (15, sx_j0 .eq 57)], [(2, sx_la 0), (3, sx_gk 11 11), (6, sx_gk 3 8), (9, sx_j0 .ne 31), (15, sx_la 0)], [(0, sx_gk 11 11), (3, sx_la 0), (4, sx_gk 11 11), (7, sx_gk 3 4), (10, sx_la 0), (11, sx_gk 11 6), (14, sx_cl 141 3)], [(1, sx_la 0), (2, sx_gk 11 11), (5, sx_gk 3 7), (8, sx_r1), (9, sx_la 0), (10, sx_gk 11 11), (13, sx_la 0), (14, sx_gk 11 11)], [(1, sx_gk 3 3), (4, sx_la 0), (5, sx_gk 11 6), (8, sx_cl 141 3), (11, sx_la 0), (12, sx_gk 11 11), (15, sx_gk 3 6)], [(2, sx_r1)]]
noncomputable def sx_t_X11_person : List (List (Nat × sx_Q)) := [[(0, sx_la 0), (1, sx_gk 11 2), (4, sx_lk 1 1), (5, sx_cl 12 2), (8, sx_j0 .ne 13), (11, sx_ci 1 4294967295), (12, sx_r1)]]
noncomputable def sx_t_X11_played : List (List (Nat × sx_Q)) := [[(0, sx_la 0), (1, sx_gk 11 6), (4, sx_cl 146 1), (7, sx_la 0), (8, sx_gk 11 2), (11, sx_lk 1 1), (12, sx_lk 1 2), (13, sx_cl 14 3)], [(0, sx_j0 .eq 26), (10, sx_ci 2 3294967296), (12, sx_r1)]]
noncomputable def sx_t_X11_popular : List (List (Nat × sx_Q)) := [[(0, sx_la 0), (1, sx_gk 11 7), (4, sx_cl 4 1), (7, sx_r1)]]
noncomputable def sx_t_X11_prank : List (List (Nat × sx_Q)) := [[(0, sx_la 0), (1, sx_gk 11 2), (4, sx_gk 10 1), (7, sx_ci 1 1), (8, sx_jt .ge 13), (11, sx_ci 1 4294967295), (12, sx_r1)]]
noncomputable def sx_t_X11_put : List (List (Nat × sx_Q)) := [[(0, sx_ci 2 24), (2, sx_sk 1 2), (3, sx_lk 1 2), (4, sx_j0 .lt 56), (7, sx_la 0), (8, sx_gk 11 1), (11, sx_j0 .lt 50), (14, sx_la 0), (15, sx_gk 11 1)], [(2, sx_ci 3 1600), (5, sx_jt .ge 50), (8, sx_la 0), (9, sx_gk 11 0), (12, sx_la 0), (13, sx_gk 11 1)], [(0, sx_lk 1 1), (1, sx_lk 1 2), (2, sx_bo 6), (3, sx_ci 3 255), (6, sx_bo 3), (7, sx_is 0 sx_isInt), (8, sx_la 0), (9, sx_q sx_dup), (10, sx_gk 11 1), (13, sx_ci 1 1), (14, sx_bo 0), (15, sx_pk 11 1 0)], [(2, sx_ik 2 4294967288), (5, sx_gt 3), (8, sx_r2)]]
noncomputable def sx_t_X11_record : List (List (Nat × sx_Q)) := [[(0, sx_la 0), (1, sx_gk 11 2), (4, sx_lk 1 1), (5, sx_cl 11 2), (8, sx_j0 .ne 14), (11, sx_ci 2 3294967296), (13, sx_r1)]]
noncomputable def sx_t_X11_redo : List (List (Nat × sx_Q)) := [[(0, sx_la 0), (1, sx_gk 11 5), (4, sx_la 0), (5, sx_gk 11 4), (8, sx_cl 134 2), (11, sx_rz)]]
noncomputable def sx_t_X11_register : List (List (Nat × sx_Q)) := [[(0, sx_la 0), (1, sx_gk 11 3), (4, sx_la 0), (5, sx_gk 11 1), (8, sx_cl 144 2), (11, sx_j0 .ne 16)], [(0, sx_la 0), (1, sx_gk 11 2), (4, sx_la 0), (5, sx_gk 11 3), (8, sx_gk 4 0), (11, sx_cl 8 2), (14, sx_la 0), (15, sx_ci 1 0)], [(0, sx_pk 11 1 0), (3, sx_la 0), (4, sx_gk 11 4), (7, sx_la 0), (8, sx_gk 11 2), (11, sx_cl 155 2), (14, sx_la 0), (15, sx_gk 11 5)], [(2, sx_la 0), (3, sx_gk 11 4), (6, sx_cl 132 2), (9, sx_la 0), (10, sx_gk 11 5), (13, sx_cl 127 1)], [(0, sx_la 0), (1, sx_gk 11 8), (4, sx_gk 1 7), (7, sx_cl 146 1), (10, sx_la 0), (11, sx_gk 11 12), (14, sx_cl 148 1)], [(1, sx_la 0), (2, sx_gk 11 6), (5, sx_cl 146 1), (8, sx_la 0), (9, sx_gk 11 2), (12, sx_gk 10 0), (15, sx_r1)]]
noncomputable def sx_t_X11_shown : List (List (Nat × sx_Q)) := [[(0, sx_lk 1 2), (1, sx_j0 .lt 10), (4, sx_lk 1 2), (5, sx_ci 2 9), (7, sx_jt .le 12), (10, sx_ci 1 4294967295), (11, sx_r1), (12, sx_la 0), (13, sx_gk 11 12)], [(0, sx_lk 1 1), (1, sx_ci 1 4294967295), (2, sx_lk 1 2), (3, sx_cl 154 4), (6, sx_r1)]]
noncomputable def sx_t_X11_sight : List (List (Nat × sx_Q)) := [[(0, sx_la 0), (1, sx_gk 11 2), (4, sx_lk 1 2), (5, sx_cl 11 2), (8, sx_j0 .eq 24)], [(8, sx_ci 1 4294967295), (9, sx_r1)]]
noncomputable def sx_t_X11_stolen : List (List (Nat × sx_Q)) := [[(0, sx_lk 1 1), (1, sx_j0 .lt 10), (4, sx_lk 1 1), (5, sx_ci 2 99), (7, sx_jt .le 12), (10, sx_ci 1 4294967295), (11, sx_r1), (12, sx_la 0), (13, sx_gk 11 7)], [(0, sx_lk 1 1), (1, sx_cl 2 2), (4, sx_r1)]]
noncomputable def sx_t_X11_stranger : List (List (Nat × sx_Q)) := [[(0, sx_lk 1 1), (1, sx_j0 .lt 9), (4, sx_lk 1 1), (5, sx_ci 1 1), (6, sx_jt .le 11), (9, sx_ci 1 4294967295), (10, sx_r1), (11, sx_la 0), (12, sx_gk 11 12), (15, sx_lk 1 2)], [(0, sx_cl 151 2), (3, sx_sk 1 3), (4, sx_lk 1 1), (5, sx_ci 1 1), (6, sx_jt .eq 30), (9, sx_lk 1 3), (10, sx_ci 1 4294967295), (11, sx_jt .ne 34), (14, sx_lk 1 3), (15, sx_gt 42)], [(2, sx_la 0), (3, sx_gk 11 12), (6, sx_lk 1 2), (7, sx_cl 152 2), (10, sx_r1)]]
noncomputable def sx_t_X11_together : List (List (Nat × sx_Q)) := [[(0, sx_la 0), (1, sx_gk 11 6), (4, sx_cl 146 1), (7, sx_la 0), (8, sx_gk 11 2), (11, sx_lk 1 1), (12, sx_cl 12 2), (15, sx_j0 .eq 25)], [(9, sx_ci 2 3294967296), (11, sx_r1)]]
noncomputable def sx_t_X11_undo : List (List (Nat × sx_Q)) := [[(0, sx_la 0), (1, sx_gk 11 5), (4, sx_la 0), (5, sx_gk 11 4), (8, sx_cl 133 2), (11, sx_rz)]]
noncomputable def sx_t_X11_untell : List (List (Nat × sx_Q)) := [[(0, sx_la 0), (1, sx_gk 11 12), (4, sx_lk 1 1), (5, sx_cl 153 2), (8, sx_rz)]]
noncomputable def sx_t_X11_who : List (List (Nat × sx_Q)) := [[(0, sx_la 0), (1, sx_gk 11 2), (4, sx_lk 1 1), (5, sx_cl 12 2), (8, sx_j0 .eq 21)], [(5, sx_ci 1 4294967295), (6, sx_r1)]]
noncomputable def sx_t_X12_about : List (List (Nat × sx_Q)) := [[(0, sx_lk 1 1), (1, sx_sg 171 [(2147483648, 72), (2147483649, 82), (2147483650, 92), (2147483651, 102), (2147483652, 109), (2147483653, 116), (2147483654, 121), (2147483655, 126), (2147483656, 131), (2147483657, 136), (2147483658, 141), (2147483659, 146), (2147483660, 156), (2147483661, 161)])], [], [], [], [(8, sx_la 0), (9, sx_gk 12 11), (12, sx_la 0), (13, sx_gk 12 39)], [(0, sx_ld 0), (1, sx_r1), (2, sx_la 0), (3, sx_gk 12 13), (6, sx_la 0), (7, sx_gk 12 39), (10, sx_ld 0), (11, sx_r1), (12, sx_la 0), (13, sx_gk 12 14)], [(0, sx_la 0), (1, sx_gk 12 39), (4, sx_ld 0), (5, sx_r1), (6, sx_la 0), (7, sx_gk 12 49), (10, sx_ci 1 0), (11, sx_ld 0), (12, sx_r1), (13, sx_la 0), (14, sx_gk 12 49)], [(1, sx_ci 1 1), (2, sx_ld 0), (3, sx_r1), (4, sx_la 0), (5, sx_gk 12 51), (8, sx_r1), (9, sx_la 0), (10, sx_gk 12 52), (13, sx_r1), (14, sx_la 0), (15, sx_gk 12 58)], [(2, sx_r1), (3, sx_la 0), (4, sx_gk 12 71), (7, sx_r1), (8, sx_la 0), (9, sx_gk 12 72), (12, sx_r1), (13, sx_la 0), (14, sx_gk 12 2)], [(1, sx_r1), (2, sx_la 0), (3, sx_gk 12 15), (6, sx_la 0), (7, sx_gk 12 39), (10, sx_ld 0), (11, sx_r1), (12, sx_la 0), (13, sx_gk 12 56)], [(0, sx_r1), (1, sx_la 0), (2, sx_gk 12 12), (5, sx_la 0), (6, sx_gk 12 39), (9, sx_ld 0), (10, sx_r1), (11, sx_ci 1 4294967295), (12, sx_r1)]]
noncomputable def sx_t_X12_add : List (List (Nat × sx_Q)) := [[(0, sx_la 0), (1, sx_gk 12 65), (4, sx_la 0), (5, sx_gk 12 71), (8, sx_lk 1 1), (9, sx_is 0 sx_isInt), (10, sx_la 0), (11, sx_gk 12 66), (14, sx_la 0), (15, sx_gk 12 71)], [(2, sx_lk 1 2), (3, sx_is 0 sx_isInt), (4, sx_la 0), (5, sx_gk 12 67), (8, sx_la 0), (9, sx_gk 12 71), (12, sx_lk 1 3), (13, sx_is 0 sx_isInt), (14, sx_la 0), (15, sx_gk 12 68)], [(2, sx_la 0), (3, sx_gk 12 71), (6, sx_la 0), (7, sx_gk 12 72), (10, sx_is 0 sx_isInt), (11, sx_la 0), (12, sx_gk 12 69), (15, sx_la 0)], [(0, sx_gk 12 71), (3, sx_ci 1 4294967295), (4, sx_is 0 sx_isInt), (5, sx_la 0), (6, sx_q sx_dup), (7, sx_gk 12 71), (10, sx_ci 1 1), (11, sx_bo 0), (12, sx_pk 12 71 0), (15, sx_la 0)], [(0, sx_gk 12 71), (3, sx_ci 1 1), (4, sx_bo 1), (5, sx_r1)]]
noncomputable def sx_t_X12_alibis : List (List (Nat × sx_Q)) := [[(0, sx_la 0), (1, sx_ci 1 0), (2, sx_pk 12 56 0), (5, sx_la 0), (6, sx_lk 1 1), (7, sx_cl 95 2), (10, sx_j0 .ne 15), (13, sx_ci 1 4294967295), (14, sx_r1)]]
noncomputable def sx_t_X12_back : List (List (Nat × sx_Q)) := [[(0, sx_lk 1 1), (1, sx_ci 1 0), (2, sx_ci 1 2), (3, sx_cl 94 3), (6, sx_j0 .eq 18), (9, sx_la 0), (10, sx_gk 12 79), (13, sx_lk 1 1), (14, sx_ld 2), (15, sx_j0 .ne 20)], [(2, sx_ci 1 4294967295), (3, sx_r1)]]
noncomputable def sx_t_X12_bitsOf : List (List (Nat × sx_Q)) := [[(0, sx_ci 1 0), (1, sx_sk 1 1), (2, sx_lk 1 0), (3, sx_sk 1 2), (4, sx_lk 1 2), (5, sx_j0 .eq 20)], [(4, sx_lk 1 1), (5, sx_r1)]]
noncomputable def sx_t_X12_breaks : List (List (Nat × sx_Q)) := [[(0, sx_la 0), (1, sx_lk 1 1), (2, sx_lk 1 2), (3, sx_cl 66 3), (6, sx_j0 .ne 12), (9, sx_ci 2 4294967294), (11, sx_r1)]]
noncomputable def sx_t_X12_canBargain : List (List (Nat × sx_Q)) := [[(0, sx_la 0), (1, sx_lk 1 1), (2, sx_cl 95 2), (5, sx_j0 .eq 26)], [(10, sx_ci 1 0), (11, sx_rz)]]
noncomputable def sx_t_X12_cares : List (List (Nat × sx_Q)) := [[(0, sx_la 0), (1, sx_lk 1 1), (2, sx_lk 1 2), (3, sx_cl 66 3), (6, sx_j0 .ne 12), (9, sx_ci 2 4294967294), (11, sx_r1)]]
noncomputable def sx_t_X12_chooses : List (List (Nat × sx_Q)) := [[(0, sx_la 0), (1, sx_lk 1 1), (2, sx_cl 95 2), (5, sx_j0 .eq 18)], [(2, sx_ci 2 4294967294), (4, sx_r1)]]
noncomputable def sx_t_X12_clearBank : List (List (Nat × sx_Q)) := [[(0, sx_la 0), (1, sx_gk 12 11), (4, sx_la 0), (5, sx_gk 12 40), (8, sx_ci 1 0), (9, sx_is 0 sx_isInt), (10, sx_la 0), (11, sx_gk 12 12), (14, sx_la 0), (15, sx_gk 12 40)], [(2, sx_ci 1 0), (3, sx_is 0 sx_isInt), (4, sx_la 0), (5, sx_gk 12 13), (8, sx_la 0), (9, sx_gk 12 40), (12, sx_ci 1 0), (13, sx_is 0 sx_isInt), (14, sx_la 0), (15, sx_gk 12 14)], [(2, sx_la 0), (3, sx_gk 12 40), (6, sx_ci 1 0), (7, sx_is 0 sx_isInt), (8, sx_la 0), (9, sx_gk 12 15), (12, sx_la 0), (13, sx_gk 12 40)], [(0, sx_ci 1 0), (1, sx_is 0 sx_isInt), (2, sx_la 0), (3, sx_gk 12 16), (6, sx_la 0), (7, sx_gk 12 40), (10, sx_ci 1 0), (11, sx_is 0 sx_isInt), (12, sx_la 0), (13, sx_gk 12 28)], [(0, sx_la 0), (1, sx_gk 12 40), (4, sx_ci 1 0), (5, sx_is 2 sx_bit), (6, sx_la 0), (7, sx_ci 3 640), (10, sx_la 0), (11, sx_gk 12 40), (14, sx_bo 2), (15, sx_pk 12 41 0)], [(2, sx_ci 2 64), (4, sx_la 0), (5, sx_gk 12 40), (8, sx_bo 2), (9, sx_sk 1 1), (10, sx_lk 1 1), (11, sx_ci 2 64), (13, sx_la 0), (14, sx_gk 12 40)], [(1, sx_bo 2), (2, sx_ci 2 64), (4, sx_bo 0), (5, sx_jt .ge 124), (8, sx_la 0), (9, sx_gk 12 21), (12, sx_lk 1 1), (13, sx_ci 1 0), (14, sx_is 0 sx_isInt), (15, sx_la 0)], [(0, sx_gk 12 30), (3, sx_lk 1 1), (4, sx_ci 1 0), (5, sx_is 2 sx_bit), (6, sx_ik 1 1), (9, sx_gt 90), (12, sx_r2)]]
noncomputable def sx_t_X12_clearVotes : List (List (Nat × sx_Q)) := [[(0, sx_ci 1 0), (1, sx_sk 1 1), (2, sx_lk 1 1), (3, sx_ci 1 3), (4, sx_jt .ge 20), (7, sx_la 0), (8, sx_gk 12 64), (11, sx_lk 1 1), (12, sx_ci 1 0), (13, sx_is 0 sx_isInt), (14, sx_ik 1 1)], [(1, sx_gt 2), (4, sx_r2)]]
noncomputable def sx_t_X12_days : List (List (Nat × sx_Q)) := [[(0, sx_lk 1 1), (1, sx_ci 1 0), (2, sx_ci 2 60), (4, sx_cl 94 3), (7, sx_j0 .eq 24), (10, sx_la 0), (11, sx_gk 12 49), (14, sx_ci 1 0), (15, sx_ld 0)], [(0, sx_lk 1 1), (1, sx_bo 0), (2, sx_ci 3 900), (5, sx_jt .le 26), (8, sx_ci 1 4294967295), (9, sx_r1), (10, sx_la 0), (11, sx_cl 98 1), (14, sx_ci 1 0), (15, sx_sk 1 2)], [(0, sx_lk 1 2), (1, sx_lk 1 1), (2, sx_jt .ge 85), (5, sx_ci 1 0), (6, sx_sk 1 3), (7, sx_lk 1 3), (8, sx_la 0), (9, sx_gk 12 13), (12, sx_la 0), (13, sx_gk 12 39)], [(0, sx_ld 0), (1, sx_jt .ge 69)], [(5, sx_la 0), (6, sx_gk 12 49), (9, sx_ci 1 0), (10, sx_q sx_dup2), (11, sx_ld 0), (12, sx_ci 1 1), (13, sx_bo 0), (14, sx_is 0 sx_isInt), (15, sx_ik 2 1)], [(2, sx_gt 32), (5, sx_la 0), (6, sx_gk 12 49), (9, sx_ci 1 0), (10, sx_ld 0), (11, sx_r1)]]
noncomputable def sx_t_X12_decree : List (List (Nat × sx_Q)) := [[(0, sx_la 0), (1, sx_lk 1 1), (2, sx_cl 95 2), (5, sx_j0 .eq 42)], [], [(10, sx_ci 3 3294967296), (13, sx_r1)]]
noncomputable def sx_t_X12_die : List (List (Nat × sx_Q)) := [[(0, sx_la 0), (1, sx_lk 1 1), (2, sx_cl 93 2), (5, sx_j0 .ne 10), (8, sx_ci 1 4294967295), (9, sx_r1)]]
noncomputable def sx_t_X12_elected : List (List (Nat × sx_Q)) := [[(0, sx_lk 1 1), (1, sx_ci 1 0), (2, sx_ci 3 999), (5, sx_cl 94 3), (8, sx_j0 .eq 19), (11, sx_la 0), (12, sx_lk 1 1), (13, sx_cl 75 2)], [(0, sx_gt 20), (3, sx_ci 1 4294967295), (4, sx_r1)]]
noncomputable def sx_t_X12_electedOn : List (List (Nat × sx_Q)) := [[(0, sx_la 0), (1, sx_cl 70 1), (4, sx_ci 1 0), (5, sx_sk 1 2), (6, sx_lk 1 2), (7, sx_la 0), (8, sx_gk 12 13), (11, sx_la 0), (12, sx_gk 12 39), (15, sx_ld 0)], [(0, sx_jt .ge 59)], [], [(11, sx_la 0), (12, sx_cl 104 1), (15, sx_r1)]]
noncomputable def sx_t_X12_end : List (List (Nat × sx_Q)) := [[(0, sx_lk 1 1), (1, sx_j0 .lt 12), (4, sx_lk 1 1), (5, sx_la 0), (6, sx_gk 12 2), (9, sx_jt .le 14), (12, sx_ci 1 4294967295), (13, sx_r1), (14, sx_la 0), (15, sx_lk 1 1)], [(0, sx_pk 12 2 0), (3, sx_lk 1 1), (4, sx_r1)]]
noncomputable def sx_t_X12_exchange : List (List (Nat × sx_Q)) := [[(0, sx_la 0), (1, sx_lk 1 1), (2, sx_cl 95 2), (5, sx_j0 .eq 43)], [], [(11, sx_ci 1 0), (12, sx_rz)]]
noncomputable def sx_t_X12_fast : List (List (Nat × sx_Q)) := [[(0, sx_la 0), (1, sx_ci 1 0), (2, sx_cl 83 2), (5, sx_la 0), (6, sx_gk 12 61), (9, sx_r1)]]
noncomputable def sx_t_X12_fault : List (List (Nat × sx_Q)) := [[(0, sx_lk 1 1), (1, sx_j0 .ne 11), (4, sx_la 0), (5, sx_gk 12 4), (8, sx_gt 24), (11, sx_lk 1 1), (12, sx_ci 1 1), (13, sx_jt .ne 23)], [(0, sx_la 0), (1, sx_gk 12 5), (4, sx_gt 24), (7, sx_ci 1 4294967295), (8, sx_r1)]]
noncomputable def sx_t_X12_feed : List (List (Nat × sx_Q)) := [[(0, sx_la 0), (1, sx_gk 12 2), (4, sx_ci 2 20), (6, sx_bo 0), (7, sx_ci 3 1600), (10, sx_jt .le 15), (15, sx_ci 1 0)], [(0, sx_sk 2 6), (2, sx_lk 2 6), (4, sx_ci 2 20), (6, sx_jt .ge 105), (9, sx_lk 2 6), (11, sx_ci 1 4), (12, sx_jt .ge 35), (15, sx_lk 1 1)], [(0, sx_gt 71), (3, sx_lk 2 6), (5, sx_ci 2 8), (7, sx_jt .ge 46), (10, sx_lk 1 2), (11, sx_gt 71), (14, sx_lk 2 6)], [(0, sx_ci 2 12), (2, sx_jt .ge 57), (5, sx_lk 1 3), (6, sx_gt 71), (9, sx_lk 2 6), (11, sx_ci 2 16), (13, sx_jt .ge 69)], [(0, sx_lk 2 4), (2, sx_gt 71), (5, sx_lk 2 5), (7, sx_sk 2 7), (9, sx_la 0), (10, sx_gk 12 0), (13, sx_la 0), (14, sx_gk 12 2)], [(1, sx_lk 2 6), (3, sx_bo 0), (4, sx_lk 2 7), (6, sx_ci 2 24), (8, sx_ci 2 8), (10, sx_lk 2 6), (12, sx_ci 1 3), (13, sx_bo 3), (14, sx_bo 2), (15, sx_bo 1)], [(0, sx_bo 5), (1, sx_q sx_i2b), (2, sx_q sx_storeB), (3, sx_ik 6 1), (6, sx_gt 18), (9, sx_la 0), (10, sx_q sx_dup), (11, sx_gk 12 2), (14, sx_ci 2 20)], [(0, sx_bo 0), (1, sx_pk 12 2 0), (4, sx_la 0), (5, sx_gk 12 2), (8, sx_r1)]]
noncomputable def sx_t_X12_firstFree : List (List (Nat × sx_Q)) := [[(0, sx_ci 1 0), (1, sx_sk 1 1), (2, sx_lk 1 1), (3, sx_la 0), (4, sx_gk 12 11), (7, sx_la 0), (8, sx_gk 12 39), (11, sx_ld 0), (12, sx_jt .ge 40)], [], [(8, sx_ci 1 4294967295), (9, sx_r1)]]
noncomputable def sx_t_X12_goOn : List (List (Nat × sx_Q)) := [[(0, sx_la 0), (1, sx_la 0), (2, sx_gk 12 7), (5, sx_pk 12 6 0), (8, sx_la 0), (9, sx_gk 12 6), (12, sx_la 0), (13, sx_gk 12 3)], [(0, sx_jt .ge 58)], [], [(10, sx_la 0), (11, sx_la 0), (12, sx_gk 12 6), (15, sx_cl 116 2)], [(2, sx_sk 1 1), (3, sx_la 0), (4, sx_la 0), (5, sx_gk 12 6), (8, sx_ci 1 1), (9, sx_bo 0), (10, sx_pk 12 7 0), (13, sx_la 0), (14, sx_gk 12 6)], [(1, sx_la 0), (2, sx_gk 12 3), (5, sx_jt .lt 112), (8, sx_la 0), (9, sx_ci 1 0), (10, sx_pk 12 8 0), (13, sx_la 0), (14, sx_la 0), (15, sx_gk 12 3)], [(2, sx_pk 12 6 0), (5, sx_la 0), (6, sx_la 0), (7, sx_gk 12 3), (10, sx_pk 12 7 0), (13, sx_gt 377)], [], [], [], [], [], [], [], [], [], [], [], [], [], [], [], [], [(9, sx_r2)]]
noncomputable def sx_t_X12_goThrough : List (List (Nat × sx_Q)) := [[(0, sx_la 0), (1, sx_gk 12 49), (4, sx_ci 1 2), (5, sx_ld 0), (6, sx_cl 64 1), (9, sx_ci 1 2), (10, sx_bo 7), (11, sx_ci 1 1), (12, sx_jt .ne 19)], [(3, sx_ci 1 0), (4, sx_sk 1 2), (5, sx_ci 1 0), (6, sx_sk 1 3), (7, sx_ci 1 0), (8, sx_sk 2 4), (10, sx_ci 3 3294967296), (13, sx_sk 2 5), (15, sx_la 0)], [(0, sx_ci 1 0), (1, sx_pk 12 61 0), (4, sx_ci 1 0), (5, sx_sk 2 6), (7, sx_lk 2 6), (9, sx_ci 2 8), (11, sx_jt .ge 60), (14, sx_la 0), (15, sx_gk 12 59)], [(2, sx_lk 2 6), (4, sx_ci 1 4294967295), (5, sx_is 0 sx_isInt), (6, sx_ik 6 1), (9, sx_gt 39), (12, sx_la 0), (13, sx_gk 12 62)], [(0, sx_ci 1 0), (1, sx_la 0), (2, sx_cl 81 1), (5, sx_is 0 sx_isInt), (6, sx_la 0), (7, sx_gk 12 62), (10, sx_ci 1 0), (11, sx_ld 0), (12, sx_sk 2 6), (14, sx_lk 2 4)], [(0, sx_j0 .lt 310), (3, sx_la 0), (4, sx_gk 12 62), (7, sx_lk 2 4), (9, sx_ld 0), (10, sx_sk 2 7), (12, sx_lk 2 6), (14, sx_sk 2 8)], [(0, sx_lk 2 7), (2, sx_j0 .lt 145)], [], [], [(1, sx_lk 2 7), (3, sx_j0 .lt 225)], [], [], [], [], [(1, sx_lk 2 7), (3, sx_j0 .ge 239), (6, sx_la 0), (7, sx_lk 2 5), (9, sx_lk 1 1), (10, sx_cl 121 3), (13, sx_sk 2 5), (15, sx_ik 4 4294967295)], [(2, sx_lk 2 4), (4, sx_j0 .ge 250), (7, sx_gt 78)], [], [], [], [(6, sx_la 0), (7, sx_lk 2 5), (9, sx_pk 12 63 0), (12, sx_r2)]]
noncomputable def sx_t_X12_guilt : List (List (Nat × sx_Q)) := [[(0, sx_la 0), (1, sx_lk 1 1), (2, sx_cl 90 2), (5, sx_j0 .eq 25)], [(9, sx_ci 1 4294967295), (10, sx_r1)]]
noncomputable def sx_t_X12_half : List (List (Nat × sx_Q)) := [[(0, sx_la 0), (1, sx_lk 1 1), (2, sx_cl 93 2), (5, sx_j0 .ne 10), (8, sx_ci 1 4294967295), (9, sx_r1)]]
noncomputable def sx_t_X12_hush : List (List (Nat × sx_Q)) := [[(0, sx_la 0), (1, sx_gk 12 58), (4, sx_sk 1 1), (5, sx_la 0), (6, sx_ci 1 0), (7, sx_pk 12 58 0), (10, sx_lk 1 1), (11, sx_r1)]]
noncomputable def sx_t_X12_image : List (List (Nat × sx_Q)) := [[(0, sx_lk 1 1), (1, sx_ci 1 0), (2, sx_ci 1 2), (3, sx_cl 94 3), (6, sx_j0 .ne 11), (9, sx_ci 1 4294967295), (10, sx_r1), (11, sx_ci 1 0), (12, sx_sk 1 2), (13, sx_lk 1 2), (14, sx_ci 2 119)], [(0, sx_jt .ge 42), (3, sx_la 0), (4, sx_gk 12 78), (7, sx_ci 2 119), (9, sx_lk 1 1), (10, sx_bo 2), (11, sx_lk 1 2), (12, sx_bo 0), (13, sx_la 0), (14, sx_gk 12 49)], [(1, sx_lk 1 2), (2, sx_ld 0), (3, sx_is 0 sx_isInt), (4, sx_ik 2 1), (7, sx_gt 13), (10, sx_la 0), (11, sx_gk 12 79), (14, sx_lk 1 1), (15, sx_ci 1 1)], [(0, sx_is 2 sx_bit), (1, sx_la 0), (2, sx_gk 12 49), (5, sx_ci 1 0), (6, sx_ld 0), (7, sx_r1)]]
noncomputable def sx_t_X12_in : List (List (Nat × sx_Q)) := [[(0, sx_la 0), (1, sx_lk 1 1), (2, sx_cl 95 2), (5, sx_j0 .eq 28)], [(12, sx_ci 2 4294967294), (14, sx_r1)]]
noncomputable def sx_t_X12_init : List (List (Nat × sx_Q)) := [[(0, sx_la 0), (1, sx_q sx_obj), (4, sx_la 0), (5, sx_ci 3 1620), (8, sx_na 2 3), (10, sx_pk 12 0 1), (13, sx_la 0), (14, sx_ci 3 1600)], [(1, sx_na 2 3), (3, sx_pk 12 1 1), (6, sx_la 0), (7, sx_ci 1 4294967295), (8, sx_pk 12 5 0), (11, sx_la 0), (12, sx_ci 1 2), (13, sx_na 2 0), (15, sx_pk 12 11 1)], [(2, sx_la 0), (3, sx_ci 1 2), (4, sx_na 2 0), (6, sx_pk 12 12 1), (9, sx_la 0), (10, sx_ci 1 2), (11, sx_na 2 0), (13, sx_pk 12 13 1)], [(0, sx_la 0), (1, sx_ci 1 2), (2, sx_na 2 0), (4, sx_pk 12 14 1), (7, sx_la 0), (8, sx_ci 1 2), (9, sx_na 2 0), (11, sx_pk 12 15 1), (14, sx_la 0), (15, sx_ci 1 2)], [(0, sx_na 2 0), (2, sx_pk 12 16 1), (5, sx_la 0), (6, sx_ci 2 16), (8, sx_na 2 0), (10, sx_pk 12 17 1), (13, sx_la 0), (14, sx_ci 2 16)], [(0, sx_na 2 0), (2, sx_pk 12 18 1), (5, sx_la 0), (6, sx_ci 2 16), (8, sx_na 2 0), (10, sx_pk 12 19 1), (13, sx_la 0), (14, sx_ci 2 16)], [(0, sx_na 2 0), (2, sx_pk 12 20 1), (5, sx_la 0), (6, sx_ci 3 128), (9, sx_na 2 0), (11, sx_pk 12 21 1), (14, sx_la 0), (15, sx_ci 2 8)], [(1, sx_na 2 0), (3, sx_pk 12 22 1), (6, sx_la 0), (7, sx_ci 2 24), (9, sx_na 2 0), (11, sx_pk 12 23 1), (14, sx_la 0), (15, sx_ci 2 8)], [(1, sx_na 2 0), (3, sx_pk 12 24 1), (6, sx_la 0), (7, sx_ci 2 112), (9, sx_na 2 0), (11, sx_pk 12 25 1), (14, sx_la 0), (15, sx_ci 2 24)], [(1, sx_na 2 0), (3, sx_pk 12 26 1), (6, sx_la 0), (7, sx_ci 2 24), (9, sx_na 2 0), (11, sx_pk 12 27 1), (14, sx_la 0), (15, sx_ci 1 2)], [(0, sx_na 2 2), (2, sx_pk 12 28 1), (5, sx_la 0), (6, sx_ci 2 16), (8, sx_na 2 2), (10, sx_pk 12 29 1), (13, sx_la 0), (14, sx_ci 3 128)], [(1, sx_na 2 2), (3, sx_pk 12 30 1), (6, sx_la 0), (7, sx_ci 2 16), (9, sx_na 2 1), (11, sx_pk 12 31 1), (14, sx_la 0), (15, sx_ci 2 8)], [(1, sx_na 2 1), (3, sx_pk 12 32 1), (6, sx_la 0), (7, sx_ci 2 12), (9, sx_na 2 1), (11, sx_pk 12 33 1), (14, sx_la 0), (15, sx_ci 3 1280)], [(2, sx_na 2 0), (4, sx_pk 12 34 1), (7, sx_la 0), (8, sx_ci 3 1280), (11, sx_na 2 0), (13, sx_pk 12 35 1)], [(0, sx_la 0), (1, sx_ci 2 90), (3, sx_na 2 0), (5, sx_pk 12 36 1), (8, sx_la 0), (9, sx_ci 2 90), (11, sx_na 2 0), (13, sx_pk 12 37 1)], [(0, sx_la 0), (1, sx_ci 2 60), (3, sx_na 2 0), (5, sx_pk 12 38 1), (8, sx_la 0), (9, sx_ci 2 119), (11, sx_na 2 0), (13, sx_pk 12 49 1)], [(0, sx_la 0), (1, sx_ci 3 4879), (4, sx_na 2 0), (6, sx_pk 12 50 1), (9, sx_la 0), (10, sx_ci 3 6300), (13, sx_na 2 0), (15, sx_pk 12 53 1)], [(2, sx_la 0), (3, sx_ci 3 2000), (6, sx_na 2 0), (8, sx_pk 12 54 1), (11, sx_la 0), (12, sx_ci 2 20), (14, sx_na 2 0)], [(0, sx_pk 12 55 1), (3, sx_la 0), (4, sx_ci 2 14), (6, sx_na 2 0), (8, sx_pk 12 57 1), (11, sx_la 0), (12, sx_ci 2 8), (14, sx_na 2 0)], [(0, sx_pk 12 59 1), (3, sx_la 0), (4, sx_ci 2 8), (6, sx_na 2 0), (8, sx_pk 12 60 1), (11, sx_la 0), (12, sx_ci 2 9), (14, sx_na 2 0)], [(0, sx_pk 12 62 1), (3, sx_la 0), (4, sx_ci 1 3), (5, sx_na 2 0), (7, sx_pk 12 64 1), (10, sx_la 0), (11, sx_ci 2 30), (13, sx_na 2 0), (15, sx_pk 12 65 1)], [(2, sx_la 0), (3, sx_ci 2 30), (5, sx_na 2 0), (7, sx_pk 12 66 1), (10, sx_la 0), (11, sx_ci 2 30), (13, sx_na 2 0), (15, sx_pk 12 67 1)], [(2, sx_la 0), (3, sx_ci 2 30), (5, sx_na 2 0), (7, sx_pk 12 68 1), (10, sx_la 0), (11, sx_ci 2 30), (13, sx_na 2 0), (15, sx_pk 12 69 1)], [(2, sx_la 0), (3, sx_ci 2 14), (5, sx_na 2 0), (7, sx_pk 12 70 1), (10, sx_la 0), (11, sx_ci 3 357), (14, sx_na 2 0)], [(0, sx_pk 12 78 1), (3, sx_la 0), (4, sx_ci 1 3), (5, sx_na 2 2), (7, sx_pk 12 79 1), (10, sx_la 0), (11, sx_cl 69 1), (14, sx_la 0), (15, sx_cl 118 1)], [(2, sx_r2)]]
noncomputable def sx_t_X12_isDeed : List (List (Nat × sx_Q)) := [[(0, sx_lk 1 1), (1, sx_ci 1 0), (2, sx_la 0), (3, sx_gk 12 14), (6, sx_la 0), (7, sx_gk 12 39), (10, sx_ld 0), (11, sx_ci 1 1), (12, sx_bo 1), (13, sx_cl 94 3)], [(0, sx_rz)]]
noncomputable def sx_t_X12_isFast : List (List (Nat × sx_Q)) := [[(0, sx_ci 1 0), (1, sx_sk 1 1), (2, sx_lk 1 1), (3, sx_la 0), (4, sx_gk 12 11), (7, sx_la 0), (8, sx_gk 12 39), (11, sx_ld 0), (12, sx_jt .ge 93)], [], [], [], [], [(13, sx_ci 1 1), (14, sx_rz)]]
noncomputable def sx_t_X12_isGood : List (List (Nat × sx_Q)) := [[(0, sx_la 0), (1, sx_gk 12 4), (4, sx_j0 .ne 11), (7, sx_ci 1 1), (8, sx_gt 12), (12, sx_rz)]]
noncomputable def sx_t_X12_isHalf : List (List (Nat × sx_Q)) := [[(0, sx_lk 1 1), (1, sx_ci 1 0), (2, sx_la 0), (3, sx_gk 12 11), (6, sx_la 0), (7, sx_gk 12 39), (10, sx_ld 0), (11, sx_ci 1 1), (12, sx_bo 1), (13, sx_cl 94 3)], [(0, sx_rz)]]
noncomputable def sx_t_X12_isIn : List (List (Nat × sx_Q)) := [[(0, sx_lk 1 0), (1, sx_lk 1 1), (2, sx_jt .lt 14), (5, sx_lk 1 0), (6, sx_lk 1 2), (7, sx_jt .gt 14), (10, sx_ci 1 1), (11, sx_gt 15), (14, sx_ci 1 0), (15, sx_rz)]]
noncomputable def sx_t_X12_isPerson : List (List (Nat × sx_Q)) := [[(0, sx_lk 1 1), (1, sx_ci 1 0), (2, sx_la 0), (3, sx_gk 12 13), (6, sx_la 0), (7, sx_gk 12 39), (10, sx_ld 0), (11, sx_ci 1 1), (12, sx_bo 1), (13, sx_cl 94 3)], [(0, sx_rz)]]
noncomputable def sx_t_X12_isStranger : List (List (Nat × sx_Q)) := [[(0, sx_ci 1 0), (1, sx_sk 1 3), (2, sx_lk 1 3), (3, sx_la 0), (4, sx_gk 12 71), (7, sx_jt .ge 110)], [], [], [], [], [], [(14, sx_ci 1 1), (15, sx_rz)]]
noncomputable def sx_t_X12_joy : List (List (Nat × sx_Q)) := [[(0, sx_la 0), (1, sx_lk 1 1), (2, sx_cl 95 2), (5, sx_j0 .eq 53)], [], [], [(5, sx_ci 3 3294967296), (8, sx_r1)]]
noncomputable def sx_t_X12_keepAct : List (List (Nat × sx_Q)) := [[(0, sx_la 0), (1, sx_gk 12 51), (4, sx_ci 2 40), (6, sx_jt .ne 49)], [], [], [(1, sx_ci 1 0), (2, sx_sk 1 1), (3, sx_lk 1 1), (4, sx_ci 2 119), (6, sx_jt .ge 83), (9, sx_la 0), (10, sx_gk 12 50), (13, sx_ci 2 119), (15, sx_la 0)], [(0, sx_gk 12 51), (3, sx_bo 2), (4, sx_lk 1 1), (5, sx_bo 0), (6, sx_la 0), (7, sx_gk 12 49), (10, sx_lk 1 1), (11, sx_ld 0), (12, sx_is 0 sx_isInt), (13, sx_ik 1 1)], [(0, sx_gt 51), (3, sx_la 0), (4, sx_q sx_dup), (5, sx_gk 12 51), (8, sx_ci 1 1), (9, sx_bo 0), (10, sx_pk 12 51 0), (13, sx_la 0), (14, sx_ci 1 0), (15, sx_pk 12 52 0)], [(2, sx_r2)]]
noncomputable def sx_t_X12_keeps : List (List (Nat × sx_Q)) := [[(0, sx_la 0), (1, sx_lk 1 1), (2, sx_lk 1 3), (3, sx_cl 66 3), (6, sx_j0 .eq 37)], [], [(5, sx_ci 3 3294967296), (8, sx_r1)]]
noncomputable def sx_t_X12_later : List (List (Nat × sx_Q)) := [[(0, sx_lk 1 1), (1, sx_ci 1 0), (2, sx_ci 3 1000), (5, sx_cl 94 3), (8, sx_j0 .eq 23), (11, sx_la 0), (12, sx_gk 12 72), (15, sx_lk 1 1)], [(0, sx_bo 0), (1, sx_ci 3 100000), (4, sx_jt .le 25), (7, sx_ci 1 4294967295), (8, sx_r1), (9, sx_la 0), (10, sx_q sx_dup), (11, sx_gk 12 72), (14, sx_lk 1 1), (15, sx_bo 0)], [(0, sx_pk 12 72 0), (3, sx_la 0), (4, sx_gk 12 72), (7, sx_r1)]]
noncomputable def sx_t_X12_lies : List (List (Nat × sx_Q)) := [[(0, sx_lk 1 1), (1, sx_ci 1 0), (2, sx_la 0), (3, sx_gk 12 56), (6, sx_ci 1 1), (7, sx_bo 1), (8, sx_cl 94 3), (11, sx_j0 .eq 23)], [(7, sx_ci 1 4294967295), (8, sx_r1)]]
noncomputable def sx_t_X12_likedInAll : List (List (Nat × sx_Q)) := [[(0, sx_ci 1 0), (1, sx_sk 1 1), (2, sx_ci 1 0), (3, sx_sk 1 2), (4, sx_lk 1 2), (5, sx_la 0), (6, sx_gk 12 11), (9, sx_la 0), (10, sx_gk 12 39), (13, sx_ld 0), (14, sx_jt .ge 43)], [], [(11, sx_lk 1 1), (12, sx_r1)]]
noncomputable def sx_t_X12_likes : List (List (Nat × sx_Q)) := [[(0, sx_la 0), (1, sx_lk 1 1), (2, sx_cl 93 2), (5, sx_j0 .eq 30)], [(14, sx_ci 1 4294967295), (15, sx_r1)]]
noncomputable def sx_t_X12_mostVotes : List (List (Nat × sx_Q)) := [[(0, sx_ci 1 0), (1, sx_sk 1 1), (2, sx_ci 1 1), (3, sx_sk 1 2), (4, sx_lk 1 2), (5, sx_ci 1 3), (6, sx_jt .ge 32), (9, sx_la 0), (10, sx_gk 12 64), (13, sx_lk 1 2), (14, sx_ld 0), (15, sx_la 0)], [(0, sx_gk 12 64), (3, sx_lk 1 1), (4, sx_ld 0), (5, sx_jt .le 26), (10, sx_ik 2 1), (13, sx_gt 4)], [(0, sx_la 0), (1, sx_gk 12 64), (4, sx_lk 1 1), (5, sx_ld 0), (6, sx_j0 .ne 45), (9, sx_ci 1 4294967295), (10, sx_gt 46), (14, sx_r1)]]
noncomputable def sx_t_X12_next : List (List (Nat × sx_Q)) := [[(0, sx_la 0), (1, sx_lk 1 1), (2, sx_cl 90 2), (5, sx_j0 .eq 17)], [(1, sx_ci 1 4294967295), (2, sx_r1)]]
noncomputable def sx_t_X12_pairing : List (List (Nat × sx_Q)) := [[(0, sx_la 0), (1, sx_ci 1 0), (2, sx_pk 12 56 0), (5, sx_la 0), (6, sx_lk 1 1), (7, sx_j0 .ne 14), (10, sx_ci 1 1), (11, sx_gt 15), (14, sx_ci 1 0), (15, sx_cl 83 2)], [(2, sx_la 0), (3, sx_gk 12 63), (6, sx_ci 3 3294967296), (9, sx_jt .ne 32)], [(0, sx_ci 1 0), (1, sx_sk 1 2), (2, sx_lk 1 2), (3, sx_la 0), (4, sx_gk 12 11), (7, sx_la 0), (8, sx_gk 12 39), (11, sx_ld 0), (12, sx_jt .ge 79)], [], [(15, sx_la 0)], [(0, sx_la 0), (1, sx_gk 12 11), (4, sx_la 0), (5, sx_gk 12 39), (8, sx_ld 0), (9, sx_pk 12 56 0), (12, sx_la 0), (13, sx_gk 12 63)], [(0, sx_r1)]]
noncomputable def sx_t_X12_person : List (List (Nat × sx_Q)) := [[(0, sx_la 0), (1, sx_lk 1 1), (2, sx_cl 95 2), (5, sx_j0 .ne 10), (8, sx_ci 1 4294967295), (9, sx_r1)]]
noncomputable def sx_t_X12_played : List (List (Nat × sx_Q)) := [[(0, sx_la 0), (1, sx_ci 1 0), (2, sx_pk 12 56 0), (5, sx_la 0), (6, sx_lk 1 1), (7, sx_cl 95 2), (10, sx_j0 .eq 29)], [(13, sx_ci 3 3294967296)], [(0, sx_r1)]]
noncomputable def sx_t_X12_popular : List (List (Nat × sx_Q)) := [[(0, sx_la 0), (1, sx_cl 70 1), (4, sx_ci 1 0), (5, sx_sk 1 1), (6, sx_lk 1 1), (7, sx_la 0), (8, sx_gk 12 11), (11, sx_la 0), (12, sx_gk 12 39), (15, sx_ld 0)], [(0, sx_jt .ge 56)], [], [(8, sx_la 0), (9, sx_cl 104 1), (12, sx_r1)]]
noncomputable def sx_t_X12_prank : List (List (Nat × sx_Q)) := [[(0, sx_la 0), (1, sx_gk 12 13), (4, sx_la 0), (5, sx_gk 12 39), (8, sx_ld 0), (9, sx_j0 .ne 14), (12, sx_ci 1 4294967295), (13, sx_r1)]]
noncomputable def sx_t_X12_record : List (List (Nat × sx_Q)) := [[(0, sx_la 0), (1, sx_lk 1 1), (2, sx_cl 93 2), (5, sx_j0 .eq 21)], [(5, sx_ci 3 3294967296), (8, sx_r1)]]
noncomputable def sx_t_X12_redo : List (List (Nat × sx_Q)) := [[(0, sx_la 0), (1, sx_gk 12 52), (4, sx_j0 .ne 9), (7, sx_ci 1 0), (8, sx_rz)]]
noncomputable def sx_t_X12_register : List (List (Nat × sx_Q)) := [[(0, sx_la 0), (1, sx_ci 1 0), (2, sx_pk 12 4 0), (5, sx_la 0), (6, sx_ci 1 4294967295), (7, sx_pk 12 5 0), (10, sx_la 0), (11, sx_la 0), (12, sx_gk 12 2), (15, sx_pk 12 3 0)], [(2, sx_ci 1 0), (3, sx_sk 1 1), (4, sx_lk 1 1), (5, sx_la 0), (6, sx_gk 12 3), (9, sx_jt .ge 46)], [(14, sx_la 0), (15, sx_ci 1 0)], [(0, sx_pk 12 2 0), (3, sx_la 0), (4, sx_ci 1 0), (5, sx_pk 12 7 0), (8, sx_la 0), (9, sx_ci 1 1), (10, sx_la 0), (11, sx_gk 12 39), (14, sx_bo 1), (15, sx_pk 12 40 0)], [(2, sx_la 0), (3, sx_cl 69 1), (6, sx_la 0), (7, sx_cl 82 1), (10, sx_la 0), (11, sx_cl 92 1), (14, sx_j0 .eq 95)], [(1, sx_la 0), (2, sx_gk 12 8), (5, sx_j0 .eq 95), (15, sx_la 0)], [(0, sx_cl 92 1), (3, sx_j0 .ne 104), (8, sx_la 0), (9, sx_la 0), (10, sx_gk 12 40), (13, sx_pk 12 39 0)], [(0, sx_la 0), (1, sx_cl 118 1), (4, sx_la 0), (5, sx_gk 12 11), (8, sx_la 0), (9, sx_gk 12 39), (12, sx_ld 0), (13, sx_r1)]]
noncomputable def sx_t_X12_shown : List (List (Nat × sx_Q)) := [[(0, sx_lk 1 1), (1, sx_ci 1 0), (2, sx_ci 2 99), (4, sx_cl 94 3), (7, sx_j0 .eq 29), (10, sx_lk 1 2), (11, sx_ci 1 0), (12, sx_ci 2 9), (14, sx_cl 94 3)], [(1, sx_j0 .eq 29), (4, sx_la 0), (5, sx_gk 12 71), (8, sx_ci 2 30), (10, sx_jt .ne 31), (13, sx_ci 1 4294967295), (14, sx_r1), (15, sx_la 0)], [(0, sx_lk 1 1), (1, sx_ci 1 4294967295), (2, sx_lk 1 2), (3, sx_cl 61 4), (6, sx_r1)]]
noncomputable def sx_t_X12_sight : List (List (Nat × sx_Q)) := [[(0, sx_lk 1 1), (1, sx_ci 1 0), (2, sx_ci 2 99), (4, sx_cl 94 3), (7, sx_j0 .eq 44), (10, sx_la 0), (11, sx_lk 1 2), (12, sx_cl 93 2), (15, sx_j0 .eq 44)], [], [(12, sx_ci 1 4294967295), (13, sx_r1)]]
noncomputable def sx_t_X12_sign : List (List (Nat × sx_Q)) := [[(0, sx_lk 1 1), (1, sx_la 0), (2, sx_gk 12 3), (5, sx_jt .ge 21)], [(5, sx_ci 1 0), (6, sx_r1)]]
noncomputable def sx_t_X12_skillsSeen : List (List (Nat × sx_Q)) := [[(0, sx_ci 1 0), (1, sx_sk 1 2), (2, sx_ci 1 0), (3, sx_sk 1 3), (4, sx_lk 1 3), (5, sx_la 0), (6, sx_gk 12 71), (9, sx_jt .ge 47)], [], [(15, sx_lk 1 2)], [(0, sx_j0 .ne 55), (3, sx_ci 1 1), (4, sx_gt 59), (11, sx_r1)]]
noncomputable def sx_t_X12_startAnew : List (List (Nat × sx_Q)) := [[(0, sx_ci 1 0), (1, sx_sk 1 1), (2, sx_lk 1 1), (3, sx_ci 2 119), (5, sx_jt .ge 21), (8, sx_la 0), (9, sx_gk 12 49), (12, sx_lk 1 1), (13, sx_ci 1 0), (14, sx_is 0 sx_isInt), (15, sx_ik 1 1)], [(2, sx_gt 2), (5, sx_la 0), (6, sx_gk 12 49), (9, sx_ci 1 1), (10, sx_la 0), (11, sx_gk 12 16), (14, sx_la 0), (15, sx_gk 12 39)], [(2, sx_ld 0), (3, sx_is 0 sx_isInt), (4, sx_la 0), (5, sx_gk 12 49), (8, sx_ci 1 2), (9, sx_ci 1 1), (10, sx_la 0), (11, sx_gk 12 11), (14, sx_la 0), (15, sx_gk 12 39)], [(2, sx_ld 0), (3, sx_bo 4), (4, sx_ci 1 1), (5, sx_bo 1), (6, sx_is 0 sx_isInt), (7, sx_ci 1 0), (8, sx_sk 1 1), (9, sx_lk 1 1), (10, sx_ci 2 56), (12, sx_jt .ge 92), (15, sx_la 0)], [(0, sx_gk 12 49), (3, sx_ci 2 7), (5, sx_lk 1 1), (6, sx_bo 0), (7, sx_la 0), (8, sx_gk 12 25), (11, sx_ci 2 56), (13, sx_la 0), (14, sx_gk 12 39)], [(1, sx_bo 2), (2, sx_lk 1 1), (3, sx_bo 0), (4, sx_ld 0), (5, sx_is 0 sx_isInt), (6, sx_ik 1 1), (9, sx_gt 57), (12, sx_la 0), (13, sx_ci 1 0), (14, sx_pk 12 51 0)], [(1, sx_la 0), (2, sx_ci 1 0), (3, sx_pk 12 52 0), (6, sx_la 0), (7, sx_ci 1 0), (8, sx_pk 12 58 0), (11, sx_la 0), (12, sx_ci 1 0), (13, sx_pk 12 71 0)], [(0, sx_la 0), (1, sx_ci 1 0), (2, sx_pk 12 56 0), (5, sx_ci 1 0), (6, sx_sk 1 1), (7, sx_lk 1 1), (8, sx_ci 1 3), (9, sx_jt .ge 137), (12, sx_la 0), (13, sx_gk 12 79)], [(0, sx_lk 1 1), (1, sx_ci 1 0), (2, sx_is 2 sx_bit), (3, sx_ik 1 1), (6, sx_gt 119), (9, sx_r2)]]
noncomputable def sx_t_X12_stolen : List (List (Nat × sx_Q)) := [[(0, sx_lk 1 1), (1, sx_ci 1 0), (2, sx_ci 2 99), (4, sx_cl 94 3), (7, sx_j0 .ne 12), (10, sx_ci 1 4294967295), (11, sx_r1), (12, sx_la 0), (13, sx_cl 109 1)], [(0, sx_sk 1 2), (1, sx_ci 1 0), (2, sx_sk 1 3), (3, sx_ci 1 0), (4, sx_sk 2 4), (6, sx_lk 2 4), (8, sx_lk 1 1), (9, sx_jt .ge 68), (12, sx_la 0), (13, sx_la 0), (14, sx_gk 12 49)], [(1, sx_ci 1 0), (2, sx_ld 0), (3, sx_lk 2 4), (5, sx_bo 0), (6, sx_cl 75 2), (9, sx_sk 2 5), (11, sx_lk 1 3), (12, sx_lk 2 5), (14, sx_j0 .lt 55)], [(7, sx_ci 1 1), (8, sx_gt 60), (12, sx_bo 0), (13, sx_sk 1 3), (14, sx_ik 4 1)], [(1, sx_gt 22), (4, sx_lk 1 3), (5, sx_r1)]]
noncomputable def sx_t_X12_stranger : List (List (Nat × sx_Q)) := [[(0, sx_lk 1 1), (1, sx_ci 1 0), (2, sx_ci 1 1), (3, sx_cl 94 3), (6, sx_j0 .ne 11), (9, sx_ci 1 4294967295), (10, sx_r1), (11, sx_ci 1 1), (12, sx_sk 1 3), (13, sx_lk 1 3), (14, sx_ci 2 9)], [(0, sx_jt .gt 48), (3, sx_la 0), (4, sx_lk 1 3), (5, sx_lk 1 2), (6, sx_cl 96 3), (9, sx_j0 .eq 42), (12, sx_lk 1 1), (13, sx_j0 .ne 40)], [(0, sx_la 0), (1, sx_lk 1 2), (2, sx_cl 117 2), (5, sx_gt 41), (8, sx_lk 1 3), (9, sx_r1)]]
noncomputable def sx_t_X12_takes : List (List (Nat × sx_Q)) := [[(0, sx_la 0), (1, sx_cl 91 1), (4, sx_sk 1 3), (5, sx_la 0), (6, sx_q sx_dup), (7, sx_gk 12 61), (10, sx_lk 1 3), (11, sx_j0 .eq 18), (14, sx_ci 1 1), (15, sx_gt 19)], [(3, sx_bo 0), (4, sx_pk 12 61 0), (7, sx_la 0), (8, sx_cl 102 1), (11, sx_sk 2 4), (13, sx_lk 1 2), (14, sx_j0 .eq 42)], [(1, sx_lk 2 4), (3, sx_lk 1 1), (4, sx_jt .gt 55), (10, sx_lk 1 3), (11, sx_j0 .eq 53), (14, sx_lk 1 1), (15, sx_ci 3 3294967296)], [(2, sx_jt .le 55), (7, sx_ci 1 0), (8, sx_sk 2 5), (10, sx_lk 2 5), (12, sx_ci 2 8), (14, sx_jt .ge 85)], [(1, sx_la 0), (2, sx_gk 12 60), (5, sx_lk 2 5), (7, sx_la 0), (8, sx_gk 12 59), (11, sx_lk 2 5), (13, sx_ld 0), (14, sx_is 0 sx_isInt), (15, sx_ik 5 1)], [(2, sx_gt 58), (5, sx_lk 2 4), (7, sx_r1)]]
noncomputable def sx_t_X12_together : List (List (Nat × sx_Q)) := [[(0, sx_la 0), (1, sx_ci 1 0), (2, sx_pk 12 56 0), (5, sx_la 0), (6, sx_lk 1 1), (7, sx_cl 95 2), (10, sx_j0 .eq 20)], [(4, sx_ci 3 3294967296), (7, sx_r1)]]
noncomputable def sx_t_X12_undo : List (List (Nat × sx_Q)) := [[(0, sx_la 0), (1, sx_gk 12 51), (4, sx_j0 .ne 9), (7, sx_ci 1 0), (8, sx_rz)]]
noncomputable def sx_t_X12_untell : List (List (Nat × sx_Q)) := [[(0, sx_lk 1 1), (1, sx_ci 1 0), (2, sx_la 0), (3, sx_gk 12 71), (6, sx_ci 1 1), (7, sx_bo 1), (8, sx_cl 94 3), (11, sx_j0 .eq 23)], [(7, sx_ci 1 0), (8, sx_rz)]]
noncomputable def sx_t_X12_who : List (List (Nat × sx_Q)) := [[(0, sx_la 0), (1, sx_lk 1 1), (2, sx_cl 95 2), (5, sx_j0 .eq 18)], [(2, sx_ci 1 4294967295), (3, sx_r1)]]
noncomputable def sx_t_X1_init : List (List (Nat × sx_Q)) := [[(0, sx_la 0), (1, sx_q sx_obj), (4, sx_la 0), (5, sx_ci 3 2000), (8, sx_na 2 0), (10, sx_pk 1 3 1), (13, sx_la 0), (14, sx_ci 3 6000)], [(1, sx_na 2 0), (3, sx_pk 1 4 1), (6, sx_la 0), (7, sx_ci 3 2000), (10, sx_na 2 1), (12, sx_pk 1 5 1), (15, sx_la 0)], [(0, sx_ci 3 2000), (3, sx_na 2 1), (5, sx_pk 1 6 1), (8, sx_la 0), (9, sx_nw 5 (sx_cls 5)), (12, sx_q sx_dup), (13, sx_ci 2 14), (15, sx_cl 147 2)], [(2, sx_pk 1 7 1), (5, sx_la 0), (6, sx_la 1), (7, sx_pk 1 0 1), (10, sx_la 0), (11, sx_la 2), (12, sx_pk 1 1 1), (15, sx_la 0)], [(0, sx_la 3), (1, sx_pk 1 2 1), (4, sx_r2)]]
noncomputable def sx_t_X2_emptyBoxes : List (List (Nat × sx_Q)) := [[(0, sx_ci 1 0), (1, sx_sk 1 1), (2, sx_lk 1 1), (3, sx_ci 1 3), (4, sx_jt .ge 20), (7, sx_la 0), (8, sx_gk 2 2), (11, sx_lk 1 1), (12, sx_ci 1 0), (13, sx_is 2 sx_bit), (14, sx_ik 1 1)], [(1, sx_gt 2), (4, sx_r2)]]
noncomputable def sx_t_X2_fillBox : List (List (Nat × sx_Q)) := [[(0, sx_la 0), (1, sx_gk 2 1), (4, sx_lk 1 1), (5, sx_ld 4), (6, sx_nn 22), (9, sx_la 0), (10, sx_gk 2 1), (13, sx_lk 1 1), (14, sx_nw 8 (sx_cls 8))], [(1, sx_q sx_dup), (2, sx_cl 157 1), (5, sx_q sx_storeQ), (6, sx_la 0), (7, sx_gk 2 1), (10, sx_lk 1 1), (11, sx_ld 4), (12, sx_la 2), (13, sx_cl 156 2)], [(0, sx_la 0), (1, sx_gk 2 2), (4, sx_lk 1 1), (5, sx_ci 1 1), (6, sx_is 2 sx_bit), (7, sx_r2)]]
noncomputable def sx_t_X2_init : List (List (Nat × sx_Q)) := [[(0, sx_la 0), (1, sx_q sx_obj), (4, sx_la 0), (5, sx_ci 2 41), (7, sx_na 3 4), (10, sx_pk 2 0 1), (13, sx_la 0), (14, sx_ci 1 3), (15, sx_na 3 4)], [(2, sx_pk 2 1 1), (5, sx_la 0), (6, sx_ci 1 3), (7, sx_na 2 2), (9, sx_pk 2 2 1), (12, sx_la 0), (13, sx_ci 1 0), (14, sx_pk 2 3 0)], [(1, sx_la 0), (2, sx_ci 1 0), (3, sx_pk 2 4 0), (6, sx_la 0), (7, sx_ci 1 0), (8, sx_pk 2 5 0), (11, sx_r2)]]
noncomputable def sx_t_X2_keepAct : List (List (Nat × sx_Q)) := [[(0, sx_la 0), (1, sx_gk 2 4), (4, sx_ci 2 40), (6, sx_jt .lt 25)], [(9, sx_la 0), (10, sx_q sx_dup), (11, sx_gk 2 4), (14, sx_ci 1 1), (15, sx_bo 0)], [(0, sx_pk 2 4 0), (3, sx_la 0), (4, sx_ci 1 0), (5, sx_pk 2 5 0), (8, sx_la 0), (9, sx_la 0), (10, sx_gk 2 3), (13, sx_la 0), (14, sx_gk 2 4)], [(1, sx_bo 0), (2, sx_ci 2 41), (4, sx_bo 7), (5, sx_la 1), (6, sx_cl 131 3), (9, sx_r2)]]
noncomputable def sx_t_X2_keepAt : List (List (Nat × sx_Q)) := [[(0, sx_lk 1 1), (1, sx_j0 .lt 10), (4, sx_lk 1 1), (5, sx_ci 2 41), (7, sx_jt .lt 11), (11, sx_la 0), (12, sx_gk 2 0), (15, sx_lk 1 1)], [(0, sx_ld 4), (1, sx_nn 33), (4, sx_la 0), (5, sx_gk 2 0), (8, sx_lk 1 1), (9, sx_nw 8 (sx_cls 8)), (12, sx_q sx_dup), (13, sx_cl 157 1)], [(0, sx_q sx_storeQ), (1, sx_la 0), (2, sx_gk 2 0), (5, sx_lk 1 1), (6, sx_ld 4), (7, sx_la 2), (8, sx_cl 156 2), (11, sx_r2)]]
noncomputable def sx_t_X2_restart : List (List (Nat × sx_Q)) := [[(0, sx_la 0), (1, sx_ci 1 0), (2, sx_pk 2 3 0), (5, sx_la 0), (6, sx_ci 1 0), (7, sx_pk 2 4 0), (10, sx_la 0), (11, sx_ci 1 0), (12, sx_pk 2 5 0), (15, sx_la 0)], [(0, sx_ci 1 0), (1, sx_la 1), (2, sx_cl 131 3), (5, sx_r2)]]
noncomputable def sx_t_X2_stepBack : List (List (Nat × sx_Q)) := [[(0, sx_la 0), (1, sx_gk 2 4), (4, sx_j0 .gt 9), (7, sx_ci 1 0), (8, sx_rz)]]
noncomputable def sx_t_X2_stepForth : List (List (Nat × sx_Q)) := [[(0, sx_la 0), (1, sx_gk 2 5), (4, sx_j0 .gt 9), (7, sx_ci 1 0), (8, sx_rz)]]
noncomputable def sx_t_X2_takeFromBox : List (List (Nat × sx_Q)) := [[(0, sx_la 0), (1, sx_gk 2 2), (4, sx_lk 1 1), (5, sx_ld 2), (6, sx_j0 .eq 18)], [(2, sx_ci 1 0), (3, sx_rz)]]
noncomputable def sx_t_X3_extend : List (List (Nat × sx_Q)) := [[(0, sx_lk 1 1), (1, sx_sk 1 3), (2, sx_lk 1 3), (3, sx_la 0), (4, sx_gk 3 0), (7, sx_gk 10 0), (10, sx_jt .ge 27)], [(11, sx_lk 1 3), (12, sx_la 0), (13, sx_gk 3 0)], [(0, sx_gk 10 0), (3, sx_jt .lt 43), (6, sx_la 0), (7, sx_cl 139 1), (10, sx_r2)]]
noncomputable def sx_t_X3_init : List (List (Nat × sx_Q)) := [[(0, sx_la 0), (1, sx_q sx_obj), (4, sx_la 0), (5, sx_ci 2 8), (7, sx_na 2 0), (9, sx_pk 3 2 1), (12, sx_la 0), (13, sx_ci 2 8), (15, sx_na 2 0)], [(1, sx_pk 3 3 1), (4, sx_la 0), (5, sx_ci 2 8), (7, sx_na 2 0), (9, sx_pk 3 4 1), (12, sx_la 0), (13, sx_la 1), (14, sx_pk 3 0 1)], [(1, sx_la 0), (2, sx_la 2), (3, sx_pk 3 1 1), (6, sx_r2)]]
noncomputable def sx_t_X3_isFast : List (List (Nat × sx_Q)) := [[(0, sx_ci 1 0), (1, sx_sk 1 1), (2, sx_lk 1 1), (3, sx_la 0), (4, sx_gk 3 0), (7, sx_gk 10 0), (10, sx_jt .ge 108)], [], [], [], [], [], [(12, sx_ci 1 1), (13, sx_rz)]]
noncomputable def sx_t_X3_judge : List (List (Nat × sx_Q)) := [[(0, sx_ci 1 0), (1, sx_sk 1 1), (2, sx_ci 1 0), (3, sx_sk 1 2), (4, sx_lk 1 2), (5, sx_la 0), (6, sx_gk 3 0), (9, sx_gk 10 0), (12, sx_jt .ge 44)], [], [(12, sx_la 0), (13, sx_gk 3 5)], [(0, sx_j0 .eq 59), (11, sx_la 0), (12, sx_ci 1 1), (13, sx_pk 3 5 2)], [(0, sx_la 0), (1, sx_lk 1 1), (2, sx_pk 3 6 0), (5, sx_la 0), (6, sx_gk 3 2), (9, sx_ci 1 0), (10, sx_la 0), (11, sx_gk 3 3), (14, sx_ci 1 0), (15, sx_ci 2 8)], [(1, sx_q sx_copy), (4, sx_la 0), (5, sx_cl 138 1), (8, sx_j0 .eq 128), (11, sx_la 0), (12, sx_gk 3 8), (15, sx_j0 .ne 118)], [(2, sx_la 0), (3, sx_lk 1 1), (4, sx_pk 3 7 0), (7, sx_la 0), (8, sx_gk 3 2), (11, sx_ci 1 0), (12, sx_la 0), (13, sx_gk 3 4)], [(0, sx_ci 1 0), (1, sx_ci 2 8), (3, sx_q sx_copy), (6, sx_la 0), (7, sx_q sx_dup), (8, sx_gk 3 8), (11, sx_ci 1 1), (12, sx_bo 0), (13, sx_pk 3 8 0)], [(0, sx_r2)]]
noncomputable def sx_t_X3_search : List (List (Nat × sx_Q)) := [[(0, sx_ci 1 0), (1, sx_sk 1 1), (2, sx_ci 1 0), (3, sx_sk 1 2), (4, sx_lk 1 2), (5, sx_la 0), (6, sx_gk 3 0), (9, sx_gk 10 0), (12, sx_jt .ge 33)], [], [(1, sx_la 0), (2, sx_gk 3 2), (5, sx_ci 2 4294967294), (7, sx_cl 1 2), (10, sx_la 0), (11, sx_ci 1 0), (12, sx_pk 3 5 2), (15, sx_la 0)], [(0, sx_ci 1 0), (1, sx_pk 3 8 0), (4, sx_la 0), (5, sx_ci 1 0), (6, sx_lk 1 1), (7, sx_ci 1 2), (8, sx_bo 7), (9, sx_ci 1 1), (10, sx_jt .ne 65)], [(1, sx_ci 1 0), (2, sx_cl 136 3), (5, sx_r2)]]
noncomputable def sx_t_X3_tellOthers : List (List (Nat × sx_Q)) := [[(0, sx_ci 1 0), (1, sx_sk 1 3), (2, sx_lk 1 3), (3, sx_la 0), (4, sx_gk 3 0), (7, sx_gk 10 0), (10, sx_jt .ge 51)], [], [], [(3, sx_r2)]]
noncomputable def sx_t_X4_advance : List (List (Nat × sx_Q)) := [[(0, sx_la 0), (1, sx_la 0), (2, sx_gk 4 13), (5, sx_pk 4 9 0), (8, sx_la 0), (9, sx_gk 4 9), (12, sx_la 0), (13, sx_gk 4 6)], [(0, sx_jt .ge 60)], [], [(12, sx_la 0), (13, sx_la 0), (14, sx_gk 4 9)], [(1, sx_pk 4 13 0), (4, sx_la 0), (5, sx_gk 4 9), (8, sx_la 0), (9, sx_gk 4 6), (12, sx_jt .lt 87), (15, sx_la 0)], [(0, sx_ci 1 0), (1, sx_pk 4 10 0), (4, sx_gt 200)], [], [], [], [], [], [], [(8, sx_r2)]]
noncomputable def sx_t_X4_init : List (List (Nat × sx_Q)) := [[(0, sx_la 0), (1, sx_q sx_obj), (4, sx_la 0), (5, sx_nw 10 (sx_cls 10)), (8, sx_q sx_dup), (9, sx_cl 13 1), (12, sx_pk 4 0 1), (15, sx_la 0)], [(0, sx_ci 2 8), (2, sx_na 2 1), (4, sx_pk 4 1 1), (7, sx_la 0), (8, sx_ci 1 4), (9, sx_na 2 1), (11, sx_pk 4 2 1), (14, sx_la 0), (15, sx_ci 2 6)], [(1, sx_na 2 1), (3, sx_pk 4 3 1), (6, sx_la 0), (7, sx_ci 1 3), (8, sx_na 2 0), (10, sx_pk 4 4 1), (13, sx_la 0), (14, sx_ci 1 0), (15, sx_pk 4 6 0)], [(2, sx_la 0), (3, sx_ci 1 0), (4, sx_pk 4 7 0), (7, sx_la 0), (8, sx_ci 1 4294967295), (9, sx_pk 4 8 0), (12, sx_la 0), (13, sx_la 1), (14, sx_pk 4 5 1)], [(1, sx_r2)]]
noncomputable def sx_t_X4_read : List (List (Nat × sx_Q)) := [[(0, sx_la 0), (1, sx_ci 1 0), (2, sx_lk 1 1), (3, sx_la 0), (4, sx_gk 4 5), (7, sx_al), (8, sx_mi false), (11, sx_mi true), (14, sx_pk 4 6 0)], [(1, sx_la 0), (2, sx_gk 4 0), (5, sx_cl 9 1), (8, sx_la 0), (9, sx_ci 1 0), (10, sx_pk 4 7 0), (13, sx_la 0), (14, sx_ci 1 4294967295), (15, sx_pk 4 8 0)], [(2, sx_la 0), (3, sx_ci 1 0), (4, sx_pk 4 13 0), (7, sx_la 0), (8, sx_ci 1 0), (9, sx_pk 4 16 0), (12, sx_la 0), (13, sx_cl 142 1)], [(0, sx_ci 1 1), (1, sx_sk 1 2), (2, sx_ci 1 0), (3, sx_sk 1 3), (4, sx_lk 1 3), (5, sx_ci 3 1600), (8, sx_jt .ge 219), (11, sx_lk 1 2), (12, sx_j0 .eq 219), (15, sx_la 0)], [(0, sx_gk 4 10), (3, sx_j0 .eq 219)], [], [], [], [], [], [], [], [], [(11, sx_lk 1 2), (12, sx_rz)]]
noncomputable def sx_t_X5_at : List (List (Nat × sx_Q)) := [[(0, sx_lk 1 1), (1, sx_j0 .lt 30), (4, sx_lk 1 1), (5, sx_la 0), (6, sx_gk 5 1), (9, sx_jt .ge 30)], [(14, sx_ci 1 4294967295), (15, sx_r1)]]
noncomputable def sx_t_X5_clear : List (List (Nat × sx_Q)) := [[(0, sx_la 0), (1, sx_ci 1 0), (2, sx_pk 5 1 0), (5, sx_r2)]]
noncomputable def sx_t_X5_init : List (List (Nat × sx_Q)) := [[(0, sx_la 0), (1, sx_q sx_obj), (4, sx_la 0), (5, sx_ci 1 0), (6, sx_pk 5 1 0), (9, sx_la 0), (10, sx_ci 1 0), (11, sx_lk 1 1), (12, sx_mi true), (15, sx_na 2 0)], [(1, sx_pk 5 0 1), (4, sx_r2)]]
noncomputable def sx_t_X7_clear : List (List (Nat × sx_Q)) := [[(0, sx_la 0), (1, sx_ci 1 0), (2, sx_pk 7 6 0), (5, sx_r2)]]
noncomputable def sx_t_X7_explains : List (List (Nat × sx_Q)) := [[(0, sx_la 0), (1, sx_gk 7 9), (4, sx_ci 1 4294967295), (5, sx_cl 1 2), (8, sx_ci 1 0), (9, sx_sk 1 3), (10, sx_lk 1 3), (11, sx_la 0), (12, sx_gk 7 6), (15, sx_jt .ge 104)], [], [], [], [], [], [(8, sx_ci 1 1), (9, sx_rz)]]
noncomputable def sx_t_X7_init : List (List (Nat × sx_Q)) := [[(0, sx_la 0), (1, sx_q sx_obj), (4, sx_la 0), (5, sx_ci 2 30), (7, sx_na 2 0), (9, sx_pk 7 1 1), (12, sx_la 0), (13, sx_ci 2 30), (15, sx_na 2 0)], [(1, sx_pk 7 2 1), (4, sx_la 0), (5, sx_ci 2 30), (7, sx_na 2 0), (9, sx_pk 7 3 1), (12, sx_la 0), (13, sx_ci 2 30), (15, sx_na 2 0)], [(1, sx_pk 7 4 1), (4, sx_la 0), (5, sx_ci 2 30), (7, sx_na 2 0), (9, sx_pk 7 5 1), (12, sx_la 0), (13, sx_ci 1 0), (14, sx_pk 7 6 0)], [(1, sx_la 0), (2, sx_ci 1 0), (3, sx_pk 7 7 0), (6, sx_la 0), (7, sx_ci 2 14), (9, sx_na 2 0), (11, sx_pk 7 8 1), (14, sx_la 0), (15, sx_ci 2 9)], [(1, sx_na 2 0), (3, sx_pk 7 9 1), (6, sx_la 0), (7, sx_la 1), (8, sx_pk 7 0 1), (11, sx_r2)]]
noncomputable def sx_t_X7_strangerDays : List (List (Nat × sx_Q)) := [[(0, sx_ci 1 1), (1, sx_sk 1 2), (2, sx_lk 1 2), (3, sx_ci 2 9), (5, sx_jt .gt 25), (8, sx_la 0), (9, sx_lk 1 2), (10, sx_lk 1 1), (11, sx_cl 149 3), (14, sx_j0 .eq 19)], [(1, sx_lk 1 2), (2, sx_r1)]]
noncomputable def sx_t_X7_strangerHalves : List (List (Nat × sx_Q)) := [[(0, sx_ci 1 0), (1, sx_sk 1 2), (2, sx_ci 1 0), (3, sx_sk 1 3), (4, sx_lk 1 3), (5, sx_la 0), (6, sx_gk 7 6), (9, sx_jt .ge 48)], [], [], [(0, sx_ci 1 1), (1, sx_lk 1 2), (2, sx_cl 0 1), (5, sx_mi true), (8, sx_r1)]]
noncomputable def sx_t_X7_takeBack : List (List (Nat × sx_Q)) := [[(0, sx_lk 1 1), (1, sx_j0 .lt 22), (4, sx_lk 1 1), (5, sx_la 0), (6, sx_gk 7 6), (9, sx_jt .ge 22)], [(6, sx_ci 1 0), (7, sx_rz)]]
noncomputable def sx_t_X7_tell : List (List (Nat × sx_Q)) := [[(0, sx_lk 1 1), (1, sx_j0 .lt 26), (4, sx_lk 1 1), (5, sx_ci 2 99), (7, sx_jt .gt 26), (10, sx_la 0), (11, sx_gk 7 6), (14, sx_j0 .lt 26)], [(1, sx_la 0), (2, sx_gk 7 6), (5, sx_ci 2 30), (7, sx_jt .lt 28), (10, sx_ci 1 4294967295), (11, sx_r1), (12, sx_la 0), (13, sx_gk 7 1)], [(0, sx_la 0), (1, sx_gk 7 6), (4, sx_lk 1 1), (5, sx_is 0 sx_isInt), (6, sx_la 0), (7, sx_gk 7 2), (10, sx_la 0), (11, sx_gk 7 6), (14, sx_lk 1 2), (15, sx_is 0 sx_isInt)], [(0, sx_la 0), (1, sx_gk 7 3), (4, sx_la 0), (5, sx_gk 7 6), (8, sx_lk 1 3), (9, sx_is 0 sx_isInt), (10, sx_la 0), (11, sx_gk 7 4), (14, sx_la 0), (15, sx_gk 7 6)], [(2, sx_la 0), (3, sx_gk 7 7), (6, sx_is 0 sx_isInt), (7, sx_la 0), (8, sx_gk 7 5), (11, sx_la 0), (12, sx_gk 7 6), (15, sx_ci 1 4294967295)], [(0, sx_is 0 sx_isInt), (1, sx_la 0), (2, sx_q sx_dup), (3, sx_gk 7 6), (6, sx_ci 1 1), (7, sx_bo 0), (8, sx_pk 7 6 0), (11, sx_la 0), (12, sx_gk 7 6), (15, sx_ci 1 1)], [(0, sx_bo 1), (1, sx_r1)]]
noncomputable def sx_t_X8_begin : List (List (Nat × sx_Q)) := [[(0, sx_la 0), (1, sx_ci 1 0), (2, sx_pk 8 0 0), (5, sx_la 0), (6, sx_ci 1 0), (7, sx_la 1), (8, sx_gk 10 5), (11, sx_mi true), (14, sx_pk 8 1 0)], [(1, sx_la 0), (2, sx_gk 8 2), (5, sx_ci 1 0), (6, sx_cl 1 2), (9, sx_la 1), (10, sx_gk 10 14), (13, sx_ci 1 0), (14, sx_la 0), (15, sx_gk 8 3)], [(2, sx_ci 1 0), (3, sx_ci 2 56), (5, sx_q sx_copy), (8, sx_la 0), (9, sx_gk 8 4), (12, sx_ci 1 1), (13, sx_cl 1 2)], [(0, sx_la 0), (1, sx_gk 8 5), (4, sx_ci 1 0), (5, sx_cl 1 2), (8, sx_la 0), (9, sx_gk 8 6), (12, sx_ci 1 0), (13, sx_cl 1 2)], [(0, sx_r2)]]
noncomputable def sx_t_X8_copyFrom : List (List (Nat × sx_Q)) := [[(0, sx_la 0), (1, sx_la 1), (2, sx_gk 8 0), (5, sx_pk 8 0 0), (8, sx_la 0), (9, sx_la 1), (10, sx_gk 8 1), (13, sx_pk 8 1 0)], [(0, sx_la 1), (1, sx_gk 8 2), (4, sx_ci 1 0), (5, sx_la 0), (6, sx_gk 8 2), (9, sx_ci 1 0), (10, sx_ci 1 4), (11, sx_q sx_copy), (14, sx_la 1), (15, sx_gk 8 3)], [(2, sx_ci 1 0), (3, sx_la 0), (4, sx_gk 8 3), (7, sx_ci 1 0), (8, sx_ci 2 56), (10, sx_q sx_copy), (13, sx_la 1), (14, sx_gk 8 4)], [(1, sx_ci 1 0), (2, sx_la 0), (3, sx_gk 8 4), (6, sx_ci 1 0), (7, sx_ci 2 8), (9, sx_q sx_copy), (12, sx_la 1), (13, sx_gk 8 5)], [(0, sx_ci 1 0), (1, sx_la 0), (2, sx_gk 8 5), (5, sx_ci 1 0), (6, sx_ci 2 48), (8, sx_q sx_copy), (11, sx_la 1), (12, sx_gk 8 6), (15, sx_ci 1 0)], [(0, sx_la 0), (1, sx_gk 8 6), (4, sx_ci 1 0), (5, sx_ci 2 8), (7, sx_q sx_copy), (10, sx_r2)]]
noncomputable def sx_t_X8_init : List (List (Nat × sx_Q)) := [[(0, sx_la 0), (1, sx_q sx_obj), (4, sx_la 0), (5, sx_ci 1 0), (6, sx_pk 8 0 0), (9, sx_la 0), (10, sx_ci 1 0), (11, sx_pk 8 1 0), (14, sx_la 0), (15, sx_ci 1 4)], [(0, sx_na 2 0), (2, sx_pk 8 2 1), (5, sx_la 0), (6, sx_ci 2 56), (8, sx_na 2 0), (10, sx_pk 8 3 1), (13, sx_la 0), (14, sx_ci 2 8)], [(0, sx_na 2 0), (2, sx_pk 8 4 1), (5, sx_la 0), (6, sx_ci 2 48), (8, sx_na 2 0), (10, sx_pk 8 5 1), (13, sx_la 0), (14, sx_ci 2 8)], [(0, sx_na 2 0), (2, sx_pk 8 6 1), (5, sx_r2)]]
noncomputable def sx_t_law : List (List (Nat × sx_Q)) := [[(0, sx_nw 11 (sx_cls 11)), (3, sx_q sx_dup), (4, sx_cl 36 1), (7, sx_sa 1), (8, sx_nw 12 (sx_cls 12)), (11, sx_q sx_dup), (12, sx_cl 89 1), (15, sx_sa 2)], [(0, sx_ci 1 0), (1, sx_sk 1 3), (2, sx_lk 1 3), (3, sx_la 0), (4, sx_al), (5, sx_ci 2 6), (7, sx_bo 1), (8, sx_jt .gt 1424), (11, sx_la 0), (12, sx_lk 1 3), (13, sx_ld 0), (14, sx_ci 2 63)], [(0, sx_bo 3), (1, sx_sg 1418 [(2147483648, 216), (2147483649, 279), (2147483650, 302), (2147483651, 315), (2147483652, 338), (2147483653, 371), (2147483654, 404), (2147483655, 437), (2147483656, 470), (2147483657, 503), (2147483658, 536), (2147483659, 569), (2147483660, 612), (2147483661, 635), (2147483662, 668), (2147483663, 711), (2147483664, 734), (2147483665, 747), (2147483666, 760), (2147483667, 773), (2147483668, 816), (2147483669, 849), (2147483670, 872), (2147483671, 885), (2147483672, 918), (2147483673, 951), (2147483674, 994), (2147483675, 1033), (2147483676, 1046), (2147483677, 1069), (2147483678, 1082), (2147483679, 1105), (2147483680, 1128), (2147483681, 1161), (2147483682, 1194), (2147483683, 1217), (2147483684, 1240), (2147483685, 1273), (2147483686, 1316), (2147483687, 1349), (2147483688, 1372), (2147483689, 1395)])], [], [], [], [], [], [], [], [], [], [], [(8, sx_la 1), (9, sx_la 0), (10, sx_lk 1 3), (11, sx_ci 1 1), (12, sx_bo 0), (13, sx_ld 0), (14, sx_la 0), (15, sx_lk 1 3)], [(0, sx_ci 1 2), (1, sx_bo 0), (2, sx_ld 0), (3, sx_la 0), (4, sx_lk 1 3), (5, sx_ci 1 3), (6, sx_bo 0), (7, sx_ld 0), (8, sx_la 0), (9, sx_lk 1 3), (10, sx_ci 1 4), (11, sx_bo 0), (12, sx_ld 0), (13, sx_la 0), (14, sx_lk 1 3), (15, sx_ci 1 5)], [(0, sx_bo 0), (1, sx_ld 0), (2, sx_cl 30 6), (5, sx_la 2), (6, sx_la 0), (7, sx_lk 1 3), (8, sx_ci 1 1), (9, sx_bo 0), (10, sx_ld 0), (11, sx_la 0), (12, sx_lk 1 3), (13, sx_ci 1 2), (14, sx_bo 0), (15, sx_ld 0)], [(0, sx_la 0), (1, sx_lk 1 3), (2, sx_ci 1 3), (3, sx_bo 0), (4, sx_ld 0), (5, sx_la 0), (6, sx_lk 1 3), (7, sx_ci 1 4), (8, sx_bo 0), (9, sx_ld 0), (10, sx_la 0), (11, sx_lk 1 3), (12, sx_ci 1 5), (13, sx_bo 0), (14, sx_ld 0), (15, sx_cl 80 6)], [(2, sx_jt .eq 1418), (5, sx_ci 1 0), (6, sx_rz), (7, sx_la 1), (8, sx_la 0), (9, sx_lk 1 3), (10, sx_ci 1 1), (11, sx_bo 0), (12, sx_ld 0), (13, sx_cl 26 2)], [(0, sx_la 2), (1, sx_la 0), (2, sx_lk 1 3), (3, sx_ci 1 1), (4, sx_bo 0), (5, sx_ld 0), (6, sx_cl 76 2), (9, sx_jt .eq 1418), (12, sx_ci 1 0), (13, sx_rz), (14, sx_la 1), (15, sx_cl 51 1)], [(2, sx_la 2), (3, sx_cl 113 1), (6, sx_jt .eq 1418), (9, sx_ci 1 0), (10, sx_rz), (11, sx_la 1), (12, sx_la 0), (13, sx_lk 1 3), (14, sx_ci 1 1), (15, sx_bo 0)], [(0, sx_ld 0), (1, sx_cl 29 2), (4, sx_la 2), (5, sx_la 0), (6, sx_lk 1 3), (7, sx_ci 1 1), (8, sx_bo 0), (9, sx_ld 0), (10, sx_cl 79 2), (13, sx_jt .eq 1418)], [(0, sx_ci 1 0), (1, sx_rz), (2, sx_la 1), (3, sx_la 0), (4, sx_lk 1 3), (5, sx_ci 1 1), (6, sx_bo 0), (7, sx_ld 0), (8, sx_la 0), (9, sx_lk 1 3), (10, sx_ci 1 2), (11, sx_bo 0), (12, sx_ld 0), (13, sx_cl 32 3)], [(0, sx_la 2), (1, sx_la 0), (2, sx_lk 1 3), (3, sx_ci 1 1), (4, sx_bo 0), (5, sx_ld 0), (6, sx_la 0), (7, sx_lk 1 3), (8, sx_ci 1 2), (9, sx_bo 0), (10, sx_ld 0), (11, sx_cl 85 3), (14, sx_jt .eq 1418)], [(1, sx_ci 1 0), (2, sx_rz), (3, sx_la 1), (4, sx_la 0), (5, sx_lk 1 3), (6, sx_ci 1 1), (7, sx_bo 0), (8, sx_ld 0), (9, sx_la 0), (10, sx_lk 1 3), (11, sx_ci 1 2), (12, sx_bo 0), (13, sx_ld 0), (14, sx_cl 41 3)], [(1, sx_la 2), (2, sx_la 0), (3, sx_lk 1 3), (4, sx_ci 1 1), (5, sx_bo 0), (6, sx_ld 0), (7, sx_la 0), (8, sx_lk 1 3), (9, sx_ci 1 2), (10, sx_bo 0), (11, sx_ld 0), (12, sx_cl 103 3), (15, sx_jt .eq 1418)], [(2, sx_ci 1 0), (3, sx_rz), (4, sx_la 1), (5, sx_la 0), (6, sx_lk 1 3), (7, sx_ci 1 1), (8, sx_bo 0), (9, sx_ld 0), (10, sx_la 0), (11, sx_lk 1 3), (12, sx_ci 1 2), (13, sx_bo 0), (14, sx_ld 0), (15, sx_cl 44 3)], [(2, sx_la 2), (3, sx_la 0), (4, sx_lk 1 3), (5, sx_ci 1 1), (6, sx_bo 0), (7, sx_ld 0), (8, sx_la 0), (9, sx_lk 1 3), (10, sx_ci 1 2), (11, sx_bo 0), (12, sx_ld 0), (13, sx_cl 107 3)], [(0, sx_jt .eq 1418), (3, sx_ci 1 0), (4, sx_rz), (5, sx_la 1), (6, sx_la 0), (7, sx_lk 1 3), (8, sx_ci 1 1), (9, sx_bo 0), (10, sx_ld 0), (11, sx_la 0), (12, sx_lk 1 3), (13, sx_ci 1 2), (14, sx_bo 0), (15, sx_ld 0)], [(0, sx_cl 35 3), (3, sx_la 2), (4, sx_la 0), (5, sx_lk 1 3), (6, sx_ci 1 1), (7, sx_bo 0), (8, sx_ld 0), (9, sx_la 0), (10, sx_lk 1 3), (11, sx_ci 1 2), (12, sx_bo 0), (13, sx_ld 0), (14, sx_cl 88 3)], [(1, sx_jt .eq 1418), (4, sx_ci 1 0), (5, sx_rz), (6, sx_la 1), (7, sx_la 0), (8, sx_lk 1 3), (9, sx_ci 1 1), (10, sx_bo 0), (11, sx_ld 0), (12, sx_la 0), (13, sx_lk 1 3), (14, sx_ci 1 2), (15, sx_bo 0)], [(0, sx_ld 0), (1, sx_cl 21 3), (4, sx_la 2), (5, sx_la 0), (6, sx_lk 1 3), (7, sx_ci 1 1), (8, sx_bo 0), (9, sx_ld 0), (10, sx_la 0), (11, sx_lk 1 3), (12, sx_ci 1 2), (13, sx_bo 0), (14, sx_ld 0), (15, sx_cl 68 3)], [(2, sx_jt .eq 1418), (5, sx_ci 1 0), (6, sx_rz), (7, sx_la 1), (8, sx_la 0), (9, sx_lk 1 3), (10, sx_ci 1 1), (11, sx_bo 0), (12, sx_ld 0), (13, sx_la 0), (14, sx_lk 1 3), (15, sx_ci 1 2)], [(0, sx_bo 0), (1, sx_ld 0), (2, sx_cl 37 3), (5, sx_la 2), (6, sx_la 0), (7, sx_lk 1 3), (8, sx_ci 1 1), (9, sx_bo 0), (10, sx_ld 0), (11, sx_la 0), (12, sx_lk 1 3), (13, sx_ci 1 2), (14, sx_bo 0), (15, sx_ld 0)], [(0, sx_cl 97 3), (3, sx_jt .eq 1418), (6, sx_ci 1 0), (7, sx_rz), (8, sx_la 1), (9, sx_la 0), (10, sx_lk 1 3), (11, sx_ci 1 1), (12, sx_bo 0), (13, sx_ld 0), (14, sx_la 0), (15, sx_lk 1 3)], [(0, sx_ci 1 2), (1, sx_bo 0), (2, sx_ld 0), (3, sx_cl 49 3), (6, sx_la 2), (7, sx_la 0), (8, sx_lk 1 3), (9, sx_ci 1 1), (10, sx_bo 0), (11, sx_ld 0), (12, sx_la 0), (13, sx_lk 1 3), (14, sx_ci 1 2), (15, sx_bo 0)], [(0, sx_ld 0), (1, sx_cl 111 3), (4, sx_jt .eq 1418), (7, sx_ci 1 0), (8, sx_rz), (9, sx_la 1), (10, sx_la 0), (11, sx_lk 1 3), (12, sx_ci 1 1), (13, sx_bo 0), (14, sx_ld 0), (15, sx_la 0)], [(0, sx_lk 1 3), (1, sx_ci 1 2), (2, sx_bo 0), (3, sx_ld 0), (4, sx_la 0), (5, sx_lk 1 3), (6, sx_ci 1 3), (7, sx_bo 0), (8, sx_ld 0), (9, sx_cl 31 4), (12, sx_la 2), (13, sx_la 0), (14, sx_lk 1 3), (15, sx_ci 1 1)], [(0, sx_bo 0), (1, sx_ld 0), (2, sx_la 0), (3, sx_lk 1 3), (4, sx_ci 1 2), (5, sx_bo 0), (6, sx_ld 0), (7, sx_la 0), (8, sx_lk 1 3), (9, sx_ci 1 3), (10, sx_bo 0), (11, sx_ld 0), (12, sx_cl 84 4), (15, sx_jt .eq 1418)], [(2, sx_ci 1 0), (3, sx_rz), (4, sx_la 1), (5, sx_la 0), (6, sx_lk 1 3), (7, sx_ci 1 1), (8, sx_bo 0), (9, sx_ld 0), (10, sx_cl 22 2), (13, sx_la 2), (14, sx_la 0), (15, sx_lk 1 3)], [(0, sx_ci 1 1), (1, sx_bo 0), (2, sx_ld 0), (3, sx_cl 71 2), (6, sx_jt .eq 1418), (9, sx_ci 1 0), (10, sx_rz), (11, sx_la 1), (12, sx_la 0), (13, sx_lk 1 3), (14, sx_ci 1 1), (15, sx_bo 0)], [(0, sx_ld 0), (1, sx_la 0), (2, sx_lk 1 3), (3, sx_ci 1 2), (4, sx_bo 0), (5, sx_ld 0), (6, sx_cl 23 3), (9, sx_la 2), (10, sx_la 0), (11, sx_lk 1 3), (12, sx_ci 1 1), (13, sx_bo 0), (14, sx_ld 0), (15, sx_la 0)], [(0, sx_lk 1 3), (1, sx_ci 1 2), (2, sx_bo 0), (3, sx_ld 0), (4, sx_cl 72 3), (7, sx_jt .eq 1418), (10, sx_ci 1 0), (11, sx_rz), (12, sx_la 1), (13, sx_la 0), (14, sx_lk 1 3), (15, sx_ci 1 1)], [(0, sx_bo 0), (1, sx_ld 0), (2, sx_la 0), (3, sx_lk 1 3), (4, sx_ci 1 2), (5, sx_bo 0), (6, sx_ld 0), (7, sx_la 0), (8, sx_lk 1 3), (9, sx_ci 1 3), (10, sx_bo 0), (11, sx_ld 0), (12, sx_cl 27 4), (15, sx_la 2)], [(0, sx_la 0), (1, sx_lk 1 3), (2, sx_ci 1 1), (3, sx_bo 0), (4, sx_ld 0), (5, sx_la 0), (6, sx_lk 1 3), (7, sx_ci 1 2), (8, sx_bo 0), (9, sx_ld 0), (10, sx_la 0), (11, sx_lk 1 3), (12, sx_ci 1 3), (13, sx_bo 0), (14, sx_ld 0), (15, sx_cl 77 4)], [(2, sx_jt .eq 1418), (5, sx_ci 1 0), (6, sx_rz), (7, sx_la 1), (8, sx_la 0), (9, sx_lk 1 3), (10, sx_ci 1 1), (11, sx_bo 0), (12, sx_ld 0), (13, sx_cl 24 2)], [(0, sx_la 2), (1, sx_la 0), (2, sx_lk 1 3), (3, sx_ci 1 1), (4, sx_bo 0), (5, sx_ld 0), (6, sx_cl 73 2), (9, sx_jt .eq 1418), (12, sx_ci 1 0), (13, sx_rz), (14, sx_la 1), (15, sx_cl 47 1)], [(2, sx_la 2), (3, sx_cl 110 1), (6, sx_jt .eq 1418), (9, sx_ci 1 0), (10, sx_rz), (11, sx_la 1), (12, sx_cl 57 1), (15, sx_la 2)], [(0, sx_cl 123 1), (3, sx_jt .eq 1418), (6, sx_ci 1 0), (7, sx_rz), (8, sx_la 1), (9, sx_cl 50 1), (12, sx_la 2), (13, sx_cl 112 1)], [(0, sx_jt .eq 1418), (3, sx_ci 1 0), (4, sx_rz), (5, sx_la 1), (6, sx_la 0), (7, sx_lk 1 3), (8, sx_ci 1 1), (9, sx_bo 0), (10, sx_ld 0), (11, sx_la 0), (12, sx_lk 1 3), (13, sx_ci 1 2), (14, sx_bo 0), (15, sx_ld 0)], [(0, sx_la 0), (1, sx_lk 1 3), (2, sx_ci 1 3), (3, sx_bo 0), (4, sx_ld 0), (5, sx_cl 45 4), (8, sx_la 2), (9, sx_la 0), (10, sx_lk 1 3), (11, sx_ci 1 1), (12, sx_bo 0), (13, sx_ld 0), (14, sx_la 0), (15, sx_lk 1 3)], [(0, sx_ci 1 2), (1, sx_bo 0), (2, sx_ld 0), (3, sx_la 0), (4, sx_lk 1 3), (5, sx_ci 1 3), (6, sx_bo 0), (7, sx_ld 0), (8, sx_cl 108 4), (11, sx_jt .eq 1418), (14, sx_ci 1 0), (15, sx_rz)], [(0, sx_la 1), (1, sx_la 0), (2, sx_lk 1 3), (3, sx_ci 1 1), (4, sx_bo 0), (5, sx_ld 0), (6, sx_la 0), (7, sx_lk 1 3), (8, sx_ci 1 2), (9, sx_bo 0), (10, sx_ld 0), (11, sx_cl 56 3), (14, sx_la 2), (15, sx_la 0)], [(0, sx_lk 1 3), (1, sx_ci 1 1), (2, sx_bo 0), (3, sx_ld 0), (4, sx_la 0), (5, sx_lk 1 3), (6, sx_ci 1 2), (7, sx_bo 0), (8, sx_ld 0), (9, sx_cl 122 3), (12, sx_jt .eq 1418), (15, sx_ci 1 0)], [(0, sx_rz), (1, sx_la 1), (2, sx_la 0), (3, sx_lk 1 3), (4, sx_ci 1 1), (5, sx_bo 0), (6, sx_ld 0), (7, sx_cl 42 2), (10, sx_la 2), (11, sx_la 0), (12, sx_lk 1 3), (13, sx_ci 1 1), (14, sx_bo 0), (15, sx_ld 0)], [(0, sx_cl 105 2), (3, sx_jt .eq 1418), (6, sx_ci 1 0), (7, sx_rz), (8, sx_la 1), (9, sx_cl 33 1), (12, sx_la 2), (13, sx_cl 86 1)], [(0, sx_jt .eq 1418), (3, sx_ci 1 0), (4, sx_rz), (5, sx_la 1), (6, sx_la 0), (7, sx_lk 1 3), (8, sx_ci 1 1), (9, sx_bo 0), (10, sx_ld 0), (11, sx_la 0), (12, sx_lk 1 3), (13, sx_ci 1 2), (14, sx_bo 0), (15, sx_ld 0)], [(0, sx_cl 18 3), (3, sx_la 2), (4, sx_la 0), (5, sx_lk 1 3), (6, sx_ci 1 1), (7, sx_bo 0), (8, sx_ld 0), (9, sx_la 0), (10, sx_lk 1 3), (11, sx_ci 1 2), (12, sx_bo 0), (13, sx_ld 0), (14, sx_cl 65 3)], [(1, sx_jt .eq 1418), (4, sx_ci 1 0), (5, sx_rz), (6, sx_la 1), (7, sx_la 0), (8, sx_lk 1 3), (9, sx_ci 1 1), (10, sx_bo 0), (11, sx_ld 0), (12, sx_la 0), (13, sx_lk 1 3), (14, sx_ci 1 2), (15, sx_bo 0)], [(0, sx_ld 0), (1, sx_cl 20 3), (4, sx_la 2), (5, sx_la 0), (6, sx_lk 1 3), (7, sx_ci 1 1), (8, sx_bo 0), (9, sx_ld 0), (10, sx_la 0), (11, sx_lk 1 3), (12, sx_ci 1 2), (13, sx_bo 0), (14, sx_ld 0), (15, sx_cl 67 3)], [(2, sx_jt .eq 1418), (5, sx_ci 1 0), (6, sx_rz), (7, sx_la 1), (8, sx_la 0), (9, sx_lk 1 3), (10, sx_ci 1 1), (11, sx_bo 0), (12, sx_ld 0), (13, sx_la 0), (14, sx_lk 1 3), (15, sx_ci 1 2)], [(0, sx_bo 0), (1, sx_ld 0), (2, sx_la 0), (3, sx_lk 1 3), (4, sx_ci 1 3), (5, sx_bo 0), (6, sx_ld 0), (7, sx_cl 38 4), (10, sx_la 2), (11, sx_la 0), (12, sx_lk 1 3), (13, sx_ci 1 1), (14, sx_bo 0), (15, sx_ld 0)], [(0, sx_la 0), (1, sx_lk 1 3), (2, sx_ci 1 2), (3, sx_bo 0), (4, sx_ld 0), (5, sx_la 0), (6, sx_lk 1 3), (7, sx_ci 1 3), (8, sx_bo 0), (9, sx_ld 0), (10, sx_cl 99 4), (13, sx_jt .eq 1418)], [(0, sx_ci 1 0), (1, sx_rz), (2, sx_la 1), (3, sx_la 0), (4, sx_lk 1 3), (5, sx_ci 1 1), (6, sx_bo 0), (7, sx_ld 0), (8, sx_j0 .eq 1007), (11, sx_ci 1 1), (12, sx_gt 1008), (15, sx_ci 1 0)], [(0, sx_cl 43 2), (3, sx_la 2), (4, sx_la 0), (5, sx_lk 1 3), (6, sx_ci 1 1), (7, sx_bo 0), (8, sx_ld 0), (9, sx_j0 .eq 1024), (12, sx_ci 1 1), (13, sx_gt 1025)], [(0, sx_ci 1 0), (1, sx_cl 106 2), (4, sx_jt .eq 1418), (7, sx_ci 1 0), (8, sx_rz), (9, sx_la 1), (10, sx_cl 28 1), (13, sx_la 2), (14, sx_cl 78 1)], [(1, sx_jt .eq 1418), (4, sx_ci 1 0), (5, sx_rz), (6, sx_la 1), (7, sx_la 0), (8, sx_lk 1 3), (9, sx_ci 1 1), (10, sx_bo 0), (11, sx_ld 0), (12, sx_cl 25 2), (15, sx_la 2)], [(0, sx_la 0), (1, sx_lk 1 3), (2, sx_ci 1 1), (3, sx_bo 0), (4, sx_ld 0), (5, sx_cl 74 2), (8, sx_jt .eq 1418), (11, sx_ci 1 0), (12, sx_rz), (13, sx_la 1), (14, sx_cl 46 1)], [(1, sx_la 2), (2, sx_cl 109 1), (5, sx_jt .eq 1418), (8, sx_ci 1 0), (9, sx_rz), (10, sx_la 1), (11, sx_la 0), (12, sx_lk 1 3), (13, sx_ci 1 1), (14, sx_bo 0), (15, sx_ld 0)], [(0, sx_cl 54 2), (3, sx_la 2), (4, sx_la 0), (5, sx_lk 1 3), (6, sx_ci 1 1), (7, sx_bo 0), (8, sx_ld 0), (9, sx_cl 119 2), (12, sx_jt .eq 1418), (15, sx_ci 1 0)], [(0, sx_rz), (1, sx_la 1), (2, sx_la 0), (3, sx_lk 1 3), (4, sx_ci 1 1), (5, sx_bo 0), (6, sx_ld 0), (7, sx_cl 40 2), (10, sx_la 2), (11, sx_la 0), (12, sx_lk 1 3), (13, sx_ci 1 1), (14, sx_bo 0), (15, sx_ld 0)], [(0, sx_cl 101 2), (3, sx_jt .eq 1418), (6, sx_ci 1 0), (7, sx_rz), (8, sx_la 1), (9, sx_la 0), (10, sx_lk 1 3), (11, sx_ci 1 1), (12, sx_bo 0), (13, sx_ld 0), (14, sx_la 0), (15, sx_lk 1 3)], [(0, sx_ci 1 2), (1, sx_bo 0), (2, sx_ld 0), (3, sx_cl 53 3), (6, sx_la 2), (7, sx_la 0), (8, sx_lk 1 3), (9, sx_ci 1 1), (10, sx_bo 0), (11, sx_ld 0), (12, sx_la 0), (13, sx_lk 1 3), (14, sx_ci 1 2), (15, sx_bo 0)], [(0, sx_ld 0), (1, sx_cl 115 3), (4, sx_jt .eq 1418), (7, sx_ci 1 0), (8, sx_rz), (9, sx_la 1), (10, sx_la 0), (11, sx_lk 1 3), (12, sx_ci 1 1), (13, sx_bo 0), (14, sx_ld 0), (15, sx_la 0)], [(0, sx_lk 1 3), (1, sx_ci 1 2), (2, sx_bo 0), (3, sx_ld 0), (4, sx_cl 52 3), (7, sx_la 2), (8, sx_la 0), (9, sx_lk 1 3), (10, sx_ci 1 1), (11, sx_bo 0), (12, sx_ld 0), (13, sx_la 0), (14, sx_lk 1 3), (15, sx_ci 1 2)], [(0, sx_bo 0), (1, sx_ld 0), (2, sx_cl 114 3), (5, sx_jt .eq 1418), (8, sx_ci 1 0), (9, sx_rz), (10, sx_la 1), (11, sx_la 0), (12, sx_lk 1 3), (13, sx_ci 1 1), (14, sx_bo 0), (15, sx_ld 0)], [(0, sx_cl 58 2), (3, sx_la 2), (4, sx_la 0), (5, sx_lk 1 3), (6, sx_ci 1 1), (7, sx_bo 0), (8, sx_ld 0), (9, sx_cl 124 2), (12, sx_jt .eq 1418), (15, sx_ci 1 0)], [(0, sx_rz), (1, sx_la 1), (2, sx_la 0), (3, sx_lk 1 3), (4, sx_ci 1 1), (5, sx_bo 0), (6, sx_ld 0), (7, sx_cl 39 2), (10, sx_la 2), (11, sx_la 0), (12, sx_lk 1 3), (13, sx_ci 1 1), (14, sx_bo 0), (15, sx_ld 0)], [(0, sx_cl 100 2), (3, sx_jt .eq 1418), (6, sx_ci 1 0), (7, sx_rz), (8, sx_la 1), (9, sx_la 0), (10, sx_lk 1 3), (11, sx_ci 1 1), (12, sx_bo 0), (13, sx_ld 0), (14, sx_la 0), (15, sx_lk 1 3)], [(0, sx_ci 1 2), (1, sx_bo 0), (2, sx_ld 0), (3, sx_cl 16 3), (6, sx_la 2), (7, sx_la 0), (8, sx_lk 1 3), (9, sx_ci 1 1), (10, sx_bo 0), (11, sx_ld 0), (12, sx_la 0), (13, sx_lk 1 3), (14, sx_ci 1 2), (15, sx_bo 0)], [(0, sx_ld 0), (1, sx_cl 62 3), (4, sx_jt .eq 1418), (7, sx_ci 1 0), (8, sx_rz), (9, sx_la 1), (10, sx_la 0), (11, sx_lk 1 3), (12, sx_ci 1 1), (13, sx_bo 0), (14, sx_ld 0), (15, sx_la 0)], [(0, sx_lk 1 3), (1, sx_ci 1 2), (2, sx_bo 0), (3, sx_ld 0), (4, sx_la 0), (5, sx_lk 1 3), (6, sx_ci 1 3), (7, sx_bo 0), (8, sx_ld 0), (9, sx_cl 59 4), (12, sx_la 2), (13, sx_la 0), (14, sx_lk 1 3), (15, sx_ci 1 1)], [(0, sx_bo 0), (1, sx_ld 0), (2, sx_la 0), (3, sx_lk 1 3), (4, sx_ci 1 2), (5, sx_bo 0), (6, sx_ld 0), (7, sx_la 0), (8, sx_lk 1 3), (9, sx_ci 1 3), (10, sx_bo 0), (11, sx_ld 0), (12, sx_cl 125 4), (15, sx_jt .eq 1418)], [(2, sx_ci 1 0), (3, sx_rz), (4, sx_la 1), (5, sx_la 0), (6, sx_lk 1 3), (7, sx_ci 1 1), (8, sx_bo 0), (9, sx_ld 0), (10, sx_la 0), (11, sx_lk 1 3), (12, sx_ci 1 2), (13, sx_bo 0), (14, sx_ld 0), (15, sx_cl 55 3)], [(2, sx_la 2), (3, sx_la 0), (4, sx_lk 1 3), (5, sx_ci 1 1), (6, sx_bo 0), (7, sx_ld 0), (8, sx_la 0), (9, sx_lk 1 3), (10, sx_ci 1 2), (11, sx_bo 0), (12, sx_ld 0), (13, sx_cl 120 3)], [(0, sx_jt .eq 1418), (3, sx_ci 1 0), (4, sx_rz), (5, sx_la 1), (6, sx_la 0), (7, sx_lk 1 3), (8, sx_ci 1 1), (9, sx_bo 0), (10, sx_ld 0), (11, sx_cl 34 2), (14, sx_la 2), (15, sx_la 0)], [(0, sx_lk 1 3), (1, sx_ci 1 1), (2, sx_bo 0), (3, sx_ld 0), (4, sx_cl 87 2), (7, sx_jt .eq 1418), (10, sx_ci 1 0), (11, sx_rz), (12, sx_la 1), (13, sx_la 0), (14, sx_lk 1 3), (15, sx_ci 1 1)], [(0, sx_bo 0), (1, sx_ld 0), (2, sx_cl 17 2), (5, sx_la 2), (6, sx_la 0), (7, sx_lk 1 3), (8, sx_ci 1 1), (9, sx_bo 0), (10, sx_ld 0), (11, sx_cl 63 2), (14, sx_jt .eq 1418)], [(1, sx_ci 1 0), (2, sx_rz), (3, sx_la 1), (4, sx_la 0), (5, sx_lk 1 3), (6, sx_ci 1 1), (7, sx_bo 0), (8, sx_ld 0), (9, sx_cl 15 2), (12, sx_la 2), (13, sx_la 0), (14, sx_lk 1 3), (15, sx_ci 1 1)], [(0, sx_bo 0), (1, sx_ld 0), (2, sx_cl 60 2), (5, sx_jt .eq 1418), (8, sx_ci 1 0), (9, sx_rz), (10, sx_ik 3 6), (13, sx_gt 18)], [(0, sx_ci 1 1), (1, sx_rz)]]
noncomputable def sx_ml : List (List (Nat × List (List (Nat × sx_Q)))) := [[(0, sx_t_J6_bitCount_0f7a4), (1, sx_t_J7_fill_53178), (2, sx_t_X0_daysLost), (3, sx_t_X0_init), (4, sx_t_X0_mostFavoured), (5, sx_t_X0_passDay), (6, sx_t_X0_winner), (7, sx_t_X0_winnerOn), (8, sx_t_X10_copyFrom), (9, sx_t_X10_empty), (10, sx_t_X10_hasDeed), (11, sx_t_X10_hasHalf), (12, sx_t_X10_hasPerson), (13, sx_t_X10_init), (14, sx_t_X10_isMember), (15, sx_t_X11_about)], [(0, sx_t_X11_alibis), (1, sx_t_X11_back), (2, sx_t_X11_breaks), (3, sx_t_X11_canDo), (4, sx_t_X11_cares), (5, sx_t_X11_chooses), (6, sx_t_X11_days), (7, sx_t_X11_decree), (8, sx_t_X11_die), (9, sx_t_X11_elected), (10, sx_t_X11_end), (11, sx_t_X11_exchange), (12, sx_t_X11_fast), (13, sx_t_X11_fault), (14, sx_t_X11_feed), (15, sx_t_X11_guilt)], [(0, sx_t_X11_half), (1, sx_t_X11_hush), (2, sx_t_X11_image), (3, sx_t_X11_in), (4, sx_t_X11_init), (5, sx_t_X11_joy), (6, sx_t_X11_keeps), (7, sx_t_X11_later), (8, sx_t_X11_lies), (9, sx_t_X11_likes), (10, sx_t_X11_next), (11, sx_t_X11_pairing), (12, sx_t_X11_person), (13, sx_t_X11_played), (14, sx_t_X11_popular), (15, sx_t_X11_prank)], [(0, sx_t_X11_put), (1, sx_t_X11_record), (2, sx_t_X11_redo), (3, sx_t_X11_register), (4, sx_t_X11_shown), (5, sx_t_X11_sight), (6, sx_t_X11_stolen), (7, sx_t_X11_stranger), (8, sx_t_X11_together), (9, sx_t_X11_undo), (10, sx_t_X11_untell), (11, sx_t_X11_who), (12, sx_t_X12_about), (13, sx_t_X12_add), (14, sx_t_X12_alibis), (15, sx_t_X12_back)], [(0, sx_t_X12_bitsOf), (1, sx_t_X12_breaks), (2, sx_t_X12_canBargain), (3, sx_t_X12_cares), (4, sx_t_X12_chooses), (5, sx_t_X12_clearBank), (6, sx_t_X12_clearVotes), (7, sx_t_X12_days), (8, sx_t_X12_decree), (9, sx_t_X12_die), (10, sx_t_X12_elected), (11, sx_t_X12_electedOn), (12, sx_t_X12_end), (13, sx_t_X12_exchange), (14, sx_t_X12_fast), (15, sx_t_X12_fault)], [(0, sx_t_X12_feed), (1, sx_t_X12_firstFree), (2, sx_t_X12_goOn), (3, sx_t_X12_goThrough), (4, sx_t_X12_guilt), (5, sx_t_X12_half), (6, sx_t_X12_hush), (7, sx_t_X12_image), (8, sx_t_X12_in), (9, sx_t_X12_init), (10, sx_t_X12_isDeed), (11, sx_t_X12_isFast), (12, sx_t_X12_isGood), (13, sx_t_X12_isHalf), (14, sx_t_X12_isIn), (15, sx_t_X12_isPerson)], [(0, sx_t_X12_isStranger), (1, sx_t_X12_joy), (2, sx_t_X12_keepAct), (3, sx_t_X12_keeps), (4, sx_t_X12_later), (5, sx_t_X12_lies), (6, sx_t_X12_likedInAll), (7, sx_t_X12_likes), (8, sx_t_X12_mostVotes), (9, sx_t_X12_next), (10, sx_t_X12_pairing), (11, sx_t_X12_person), (12, sx_t_X12_played), (13, sx_t_X12_popular), (14, sx_t_X12_prank), (15, sx_t_X12_record)], [(0, sx_t_X12_redo), (1, sx_t_X12_register), (2, sx_t_X12_shown), (3, sx_t_X12_sight), (4, sx_t_X12_sign), (5, sx_t_X12_skillsSeen), (6, sx_t_X12_startAnew), (7, sx_t_X12_stolen), (8, sx_t_X12_stranger), (9, sx_t_X12_takes), (10, sx_t_X12_together), (11, sx_t_X12_undo), (12, sx_t_X12_untell), (13, sx_t_X12_who), (14, sx_t_X1_init), (15, sx_t_X2_emptyBoxes)], [(0, sx_t_X2_fillBox), (1, sx_t_X2_init), (2, sx_t_X2_keepAct), (3, sx_t_X2_keepAt), (4, sx_t_X2_restart), (5, sx_t_X2_stepBack), (6, sx_t_X2_stepForth), (7, sx_t_X2_takeFromBox), (8, sx_t_X3_extend), (9, sx_t_X3_init), (10, sx_t_X3_isFast), (11, sx_t_X3_judge), (12, sx_t_X3_search), (13, sx_t_X3_tellOthers), (14, sx_t_X4_advance), (15, sx_t_X4_init)], [(0, sx_t_X4_read), (1, sx_t_X5_at), (2, sx_t_X5_clear), (3, sx_t_X5_init), (4, sx_t_X7_clear), (5, sx_t_X7_explains), (6, sx_t_X7_init), (7, sx_t_X7_strangerDays), (8, sx_t_X7_strangerHalves), (9, sx_t_X7_takeBack), (10, sx_t_X7_tell), (11, sx_t_X8_begin), (12, sx_t_X8_copyFrom), (13, sx_t_X8_init)]]
noncomputable def sx_mt (y : Nat) : Option (Nat → Option sx_Q) := match sx_find sx_ml y with
  | some t => some (sx_find t)
  | none => none
def sx_cp : List (List (Nat × Nat × Nat)) := [[(3, (2, 33)), (13, (13, 826))], [(6, (6, 131))], [(2, (6, 131)), (4, (74, 15959))], [(3, (6, 131))], [], [(9, (48, 20490))], [], [(14, (6, 12022))], [(0, (6, 131)), (1, (3, 47)), (2, (6, 131)), (3, (6, 131)), (4, (6, 131)), (9, (3, 24)), (15, (18, 866))], [(3, (1, 20)), (6, (7, 173)), (13, (5, 124))]]
noncomputable def sx_caps (y : Nat) : Nat × Nat := match sx_find sx_cp y with
  | some c => c
  | none => (0, 0)
def sx_rcT : List (List (Nat × Nat)) := [[(2, 1), (3, 1), (4, 1), (5, 1), (6, 1), (7, 1), (8, 11), (9, 11), (10, 11), (11, 11), (12, 11), (13, 11), (14, 11), (15, 12)], [(0, 12), (1, 12), (2, 12), (3, 12), (4, 12), (5, 12), (6, 12), (7, 12), (8, 12), (9, 12), (10, 12), (11, 12), (12, 12), (13, 12), (14, 12), (15, 12)], [(0, 12), (1, 12), (2, 12), (3, 12), (4, 12), (5, 12), (6, 12), (7, 12), (8, 12), (9, 12), (10, 12), (11, 12), (12, 12), (13, 12), (14, 12), (15, 12)], [(0, 12), (1, 12), (2, 12), (3, 12), (4, 12), (5, 12), (6, 12), (7, 12), (8, 12), (9, 12), (10, 12), (11, 12), (12, 13), (13, 13), (14, 13), (15, 13)], [(1, 13), (2, 13), (3, 13), (4, 13), (5, 13), (6, 13), (7, 13), (8, 13), (9, 13), (10, 13), (11, 13), (12, 13), (13, 13), (14, 13), (15, 13)], [(0, 13), (1, 13), (2, 13), (3, 13), (4, 13), (5, 13), (6, 13), (7, 13), (8, 13), (9, 13), (10, 13), (11, 13), (12, 13), (13, 13), (15, 13)], [(0, 13), (1, 13), (2, 13), (3, 13), (4, 13), (5, 13), (6, 13), (7, 13), (8, 13), (9, 13), (10, 13), (11, 13), (12, 13), (13, 13), (14, 13), (15, 13)], [(0, 13), (1, 13), (2, 13), (3, 13), (4, 13), (5, 13), (6, 13), (7, 13), (8, 13), (9, 13), (10, 13), (11, 13), (12, 13), (13, 13), (14, 2), (15, 3)], [(0, 3), (1, 3), (2, 3), (3, 3), (4, 3), (5, 3), (6, 3), (7, 3), (8, 4), (9, 4), (10, 4), (11, 4), (12, 4), (13, 4), (14, 5), (15, 5)], [(0, 5), (1, 6), (2, 6), (3, 6), (4, 8), (5, 8), (6, 8), (7, 8), (8, 8), (9, 8), (10, 8), (11, 9), (12, 9), (13, 9)]]
noncomputable def sx_rc (y : Nat) : Nat := match sx_find sx_rcT y with
  | some c => c
  | none => 0
def sx_W0 : List sx_E := [.inl (11, [.inr (.inr (.inl 1)), .inl 0, .inr (.inr (.inl 2)), .inr (.inr (.inl 16)), .inr (.inr (.inl 35)), .inr (.inr (.inl 41)), .inr (.inr (.inl 45)), .inr (.inr (.inl 47)), .inr (.inr (.inl 50)), .inr (.inr (.inr 0)), .inr (.inr (.inr 0)), .inr (.inr (.inl 57)), .inr (.inr (.inl 61))]), .inr (0, 1600, []), .inl (10, [.inl 0, .inl 0, .inl 0, .inl 0, .inl 0, .inl 4294967295, .inr (.inr (.inl 3)), .inr (.inr (.inl 4)), .inr (.inr (.inl 5)), .inr (.inr (.inl 6)), .inr (.inr (.inl 7)), .inr (.inr (.inl 8)), .inr (.inr (.inl 9)), .inr (.inr (.inl 10)), .inr (.inr (.inl 11)), .inr (.inr (.inl 12)), .inr (.inr (.inl 13)), .inr (.inr (.inl 14)), .inr (.inr (.inl 15))]), .inr (0, 8, []), .inr (0, 8, []), .inr (0, 8, [(7, .inl 4294967295), (6, .inl 4294967295), (5, .inl 4294967295), (4, .inl 4294967295), (3, .inl 4294967295), (2, .inl 4294967295), (1, .inl 4294967295), (0, .inl 4294967295)]), .inr (0, 8, [(7, .inl 4294967295), (6, .inl 4294967295), (5, .inl 4294967295), (4, .inl 4294967295), (3, .inl 4294967295), (2, .inl 4294967295), (1, .inl 4294967295), (0, .inl 4294967295)]), .inr (0, 8, []), .inr (0, 64, [(63, .inl 4294967295), (62, .inl 4294967295), (61, .inl 4294967295), (60, .inl 4294967295), (59, .inl 4294967295), (58, .inl 4294967295), (57, .inl 4294967295), (56, .inl 4294967295), (55, .inl 4294967295), (54, .inl 4294967295), (53, .inl 4294967295), (52, .inl 4294967295), (51, .inl 4294967295), (50, .inl 4294967295), (49, .inl 4294967295), (48, .inl 4294967295), (47, .inl 4294967295), (46, .inl 4294967295), (45, .inl 4294967295), (44, .inl 4294967295), (43, .inl 4294967295), (42, .inl 4294967295), (41, .inl 4294967295), (40, .inl 4294967295), (39, .inl 4294967295), (38, .inl 4294967295), (37, .inl 4294967295), (36, .inl 4294967295), (35, .inl 4294967295), (34, .inl 4294967295), (33, .inl 4294967295), (32, .inl 4294967295), (31, .inl 4294967295), (30, .inl 4294967295), (29, .inl 4294967295), (28, .inl 4294967295), (27, .inl 4294967295), (26, .inl 4294967295), (25, .inl 4294967295), (24, .inl 4294967295), (23, .inl 4294967295), (22, .inl 4294967295), (21, .inl 4294967295), (20, .inl 4294967295), (19, .inl 4294967295), (18, .inl 4294967295), (17, .inl 4294967295), (16, .inl 4294967295), (15, .inl 4294967295), (14, .inl 4294967295), (13, .inl 4294967295), (12, .inl 4294967295), (11, .inl 4294967295), (10, .inl 4294967295), (9, .inl 4294967295), (8, .inl 4294967295), (7, .inl 4294967295), (6, .inl 4294967295), (5, .inl 4294967295), (4, .inl 4294967295), (3, .inl 4294967295), (2, .inl 4294967295), (1, .inl 4294967295), (0, .inl 4294967295)]), .inr (0, 4, []), .inr (0, 4, []), .inr (0, 56, []), .inr (0, 6, []), .inr (0, 6, []), .inr (0, 6, []), .inr (0, 640, []), .inl (4, [.inr (.inr (.inl 17)), .inr (.inr (.inl 31)), .inr (.inr (.inl 32)), .inr (.inr (.inl 33)), .inr (.inr (.inl 34)), .inr (.inr (.inl 1)), .inl 0, .inl 0, .inl 4294967295, .inl 0, .inl 0, .inr (.inr (.inr 1)), .inl 0, .inl 0, .inl 0, .inl 0, .inl 0]), .inl (10, [.inl 0, .inl 0, .inl 0, .inl 0, .inl 0, .inl 4294967295, .inr (.inr (.inl 18)), .inr (.inr (.inl 19)), .inr (.inr (.inl 20)), .inr (.inr (.inl 21)), .inr (.inr (.inl 22)), .inr (.inr (.inl 23)), .inr (.inr (.inl 24)), .inr (.inr (.inl 25)), .inr (.inr (.inl 26)), .inr (.inr (.inl 27)), .inr (.inr (.inl 28)), .inr (.inr (.inl 29)), .inr (.inr (.inl 30))]), .inr (0, 8, []), .inr (0, 8, []), .inr (0, 8, [(7, .inl 4294967295), (6, .inl 4294967295), (5, .inl 4294967295), (4, .inl 4294967295), (3, .inl 4294967295), (2, .inl 4294967295), (1, .inl 4294967295), (0, .inl 4294967295)]), .inr (0, 8, [(7, .inl 4294967295), (6, .inl 4294967295), (5, .inl 4294967295), (4, .inl 4294967295), (3, .inl 4294967295), (2, .inl 4294967295), (1, .inl 4294967295), (0, .inl 4294967295)]), .inr (0, 8, []), .inr (0, 64, [(63, .inl 4294967295), (62, .inl 4294967295), (61, .inl 4294967295), (60, .inl 4294967295), (59, .inl 4294967295), (58, .inl 4294967295), (57, .inl 4294967295), (56, .inl 4294967295), (55, .inl 4294967295), (54, .inl 4294967295), (53, .inl 4294967295), (52, .inl 4294967295), (51, .inl 4294967295), (50, .inl 4294967295), (49, .inl 4294967295), (48, .inl 4294967295), (47, .inl 4294967295), (46, .inl 4294967295), (45, .inl 4294967295), (44, .inl 4294967295), (43, .inl 4294967295), (42, .inl 4294967295), (41, .inl 4294967295), (40, .inl 4294967295), (39, .inl 4294967295), (38, .inl 4294967295), (37, .inl 4294967295), (36, .inl 4294967295), (35, .inl 4294967295), (34, .inl 4294967295), (33, .inl 4294967295), (32, .inl 4294967295), (31, .inl 4294967295), (30, .inl 4294967295), (29, .inl 4294967295), (28, .inl 4294967295), (27, .inl 4294967295), (26, .inl 4294967295), (25, .inl 4294967295), (24, .inl 4294967295), (23, .inl 4294967295), (22, .inl 4294967295), (21, .inl 4294967295), (20, .inl 4294967295), (19, .inl 4294967295), (18, .inl 4294967295), (17, .inl 4294967295), (16, .inl 4294967295), (15, .inl 4294967295), (14, .inl 4294967295), (13, .inl 4294967295), (12, .inl 4294967295), (11, .inl 4294967295), (10, .inl 4294967295), (9, .inl 4294967295), (8, .inl 4294967295), (7, .inl 4294967295), (6, .inl 4294967295), (5, .inl 4294967295), (4, .inl 4294967295), (3, .inl 4294967295), (2, .inl 4294967295), (1, .inl 4294967295), (0, .inl 4294967295)]), .inr (0, 4, []), .inr (0, 4, []), .inr (0, 56, []), .inr (0, 6, []), .inr (0, 6, []), .inr (0, 6, []), .inr (0, 640, []), .inr (1, 8, []), .inr (1, 4, []), .inr (1, 6, []), .inr (0, 3, []), .inl (8, [.inl 0, .inl 0, .inr (.inr (.inl 36)), .inr (.inr (.inl 37)), .inr (.inr (.inl 38)), .inr (.inr (.inl 39)), .inr (.inr (.inl 40))]), .inr (0, 4, []), .inr (0, 56, []), .inr (0, 8, [(7, .inl 1), (6, .inl 1), (5, .inl 1), (4, .inl 1), (3, .inl 1), (2, .inl 1), (1, .inl 1), (0, .inl 1)]), .inr (0, 48, []), .inr (0, 8, []), .inl (2, [.inr (.inr (.inl 42)), .inr (.inr (.inl 43)), .inr (.inr (.inl 44)), .inl 0, .inl 0, .inl 0]), .inr (4, 41, [(0, .inr (.inr (.inl 69)))]), .inr (4, 3, []), .inr (2, 3, []), .inl (5, [.inr (.inr (.inl 46)), .inl 0]), .inr (0, 20, []), .inl (0, [.inr (.inr (.inl 2)), .inr (.inr (.inl 35)), .inr (.inr (.inl 48)), .inr (.inr (.inl 49)), .inl 0, .inl 0, .inl 0, .inl 0]), .inr (0, 30, []), .inr (0, 3, []), .inl (1, [.inr (.inr (.inl 2)), .inr (.inr (.inl 35)), .inr (.inr (.inl 47)), .inr (.inr (.inl 51)), .inr (.inr (.inl 52)), .inr (.inr (.inl 53)), .inr (.inr (.inl 54)), .inr (.inr (.inl 55)), .inl 0, .inl 0]), .inr (0, 2000, []), .inr (0, 6000, []), .inr (1, 2000, []), .inr (1, 2000, []), .inl (5, [.inr (.inr (.inl 56)), .inl 0]), .inr (0, 14, []), .inl (3, [.inr (.inr (.inl 2)), .inr (.inr (.inl 35)), .inr (.inr (.inl 58)), .inr (.inr (.inl 59)), .inr (.inr (.inl 60)), .inl 0, .inl 0, .inl 0, .inl 0]), .inr (0, 8, []), .inr (0, 8, []), .inr (0, 8, []), .inl (7, [.inr (.inr (.inl 2)), .inr (.inr (.inl 62)), .inr (.inr (.inl 63)), .inr (.inr (.inl 64)), .inr (.inr (.inl 65)), .inr (.inr (.inl 66)), .inl 0, .inl 0, .inr (.inr (.inl 67)), .inr (.inr (.inl 68)), .inl 0, .inl 0, .inl 0, .inl 0, .inl 0]), .inr (0, 30, []), .inr (0, 30, []), .inr (0, 30, []), .inr (0, 30, []), .inr (0, 30, []), .inr (0, 14, []), .inr (0, 9, []), .inl (8, [.inl 0, .inl 0, .inr (.inr (.inl 70)), .inr (.inr (.inl 71)), .inr (.inr (.inl 72)), .inr (.inr (.inl 73)), .inr (.inr (.inl 74))]), .inr (0, 4, []), .inr (0, 56, []), .inr (0, 8, [(7, .inl 1), (6, .inl 1), (5, .inl 1), (4, .inl 1), (3, .inl 1), (2, .inl 1), (1, .inl 1), (0, .inl 1)]), .inr (0, 48, []), .inr (0, 8, []), .inl (12, [.inr (.inr (.inl 76)), .inr (.inr (.inl 77)), .inl 0, .inl 0, .inl 0, .inl 4294967295, .inl 0, .inl 0, .inl 0, .inl 0, .inr (.inr (.inr 1)), .inr (.inr (.inl 78)), .inr (.inr (.inl 79)), .inr (.inr (.inl 80)), .inr (.inr (.inl 81)), .inr (.inr (.inl 82)), .inr (.inr (.inl 83)), .inr (.inr (.inl 84)), .inr (.inr (.inl 85)), .inr (.inr (.inl 86)), .inr (.inr (.inl 87)), .inr (.inr (.inl 88)), .inr (.inr (.inl 89)), .inr (.inr (.inl 90)), .inr (.inr (.inl 91)), .inr (.inr (.inl 92)), .inr (.inr (.inl 93)), .inr (.inr (.inl 94)), .inr (.inr (.inl 95)), .inr (.inr (.inl 96)), .inr (.inr (.inl 97)), .inr (.inr (.inl 98)), .inr (.inr (.inl 99)), .inr (.inr (.inl 100)), .inr (.inr (.inl 101)), .inr (.inr (.inl 102)), .inr (.inr (.inl 103)), .inr (.inr (.inl 104)), .inr (.inr (.inl 105)), .inl 0, .inl 0, .inl 0, .inl 0, .inl 0, .inl 0, .inl 0, .inl 0, .inl 0, .inl 0, .inr (.inr (.inl 106)), .inr (.inr (.inl 107)), .inl 0, .inl 0, .inr (.inr (.inl 108)), .inr (.inr (.inl 109)), .inr (.inr (.inl 110)), .inl 0, .inr (.inr (.inl 111)), .inl 0, .inr (.inr (.inl 112)), .inr (.inr (.inl 113)), .inl 0, .inr (.inr (.inl 114)), .inl 0, .inr (.inr (.inl 115)), .inr (.inr (.inl 116)), .inr (.inr (.inl 117)), .inr (.inr (.inl 118)), .inr (.inr (.inl 119)), .inr (.inr (.inl 120)), .inr (.inr (.inl 121)), .inl 0, .inl 0, .inl 0, .inl 0, .inl 0, .inl 0, .inl 0, .inr (.inr (.inl 122)), .inr (.inr (.inl 123))]), .inr (3, 1620, []), .inr (3, 1600, []), .inr (0, 2, []), .inr (0, 2, []), .inr (0, 2, []), .inr (0, 2, []), .inr (0, 2, []), .inr (0, 2, []), .inr (0, 16, []), .inr (0, 16, []), .inr (0, 16, []), .inr (0, 16, []), .inr (0, 128, []), .inr (0, 8, []), .inr (0, 24, []), .inr (0, 8, []), .inr (0, 112, []), .inr (0, 24, []), .inr (0, 24, []), .inr (2, 2, []), .inr (2, 16, []), .inr (2, 128, []), .inr (1, 16, []), .inr (1, 8, []), .inr (1, 12, []), .inr (0, 1280, []), .inr (0, 1280, []), .inr (0, 90, []), .inr (0, 90, []), .inr (0, 60, []), .inr (0, 119, []), .inr (0, 4879, []), .inr (0, 6300, []), .inr (0, 2000, []), .inr (0, 20, []), .inr (0, 14, []), .inr (0, 8, []), .inr (0, 8, []), .inr (0, 9, []), .inr (0, 3, []), .inr (0, 30, []), .inr (0, 30, []), .inr (0, 30, []), .inr (0, 30, []), .inr (0, 30, []), .inr (0, 14, []), .inr (0, 357, []), .inr (2, 3, [])]
end
section
/-! equality of states, by a program -/
noncomputable def sx_eqV : sx_V → sx_V → Bool
  | .inl a, .inl b => Nat.beq a b
  | .inr (.inl a), .inr (.inl b) => Nat.beq a b
  | .inr (.inr (.inl a)), .inr (.inr (.inl b)) => Nat.beq a b
  | .inr (.inr (.inr a)), .inr (.inr (.inr b)) => Nat.beq a b
  | _, _ => false
theorem sx_eqV_ok : ∀ a b : sx_V, sx_eqV a b = true → a = b
  | .inl a, .inl b, h => by rw [Nat.eq_of_beq_eq_true h]
  | .inr (.inl a), .inr (.inl b), h => by rw [Nat.eq_of_beq_eq_true h]
  | .inr (.inr (.inl a)), .inr (.inr (.inl b)), h => by rw [Nat.eq_of_beq_eq_true h]
  | .inr (.inr (.inr a)), .inr (.inr (.inr b)), h => by rw [Nat.eq_of_beq_eq_true h]
  | .inl _, .inr _, h => by simp [sx_eqV] at h
  | .inr (.inl _), .inl _, h => by simp [sx_eqV] at h
  | .inr (.inl _), .inr (.inr _), h => by simp [sx_eqV] at h
  | .inr (.inr (.inl _)), .inl _, h => by simp [sx_eqV] at h
  | .inr (.inr (.inl _)), .inr (.inl _), h => by simp [sx_eqV] at h
  | .inr (.inr (.inl _)), .inr (.inr (.inr _)), h => by simp [sx_eqV] at h
  | .inr (.inr (.inr _)), .inl _, h => by simp [sx_eqV] at h
  | .inr (.inr (.inr _)), .inr (.inl _), h => by simp [sx_eqV] at h
  | .inr (.inr (.inr _)), .inr (.inr (.inl _)), h => by simp [sx_eqV] at h
noncomputable def sx_eqL {α : Type} (f : α → α → Bool) : List α → List α → Bool
  | [], [] => true
  | a :: l, b :: m => f a b && sx_eqL f l m
  | _, _ => false
theorem sx_eqL_ok {α : Type} {f : α → α → Bool} (hf : ∀ a b, f a b = true → a = b) : ∀ l m : List α, sx_eqL f l m = true → l = m
  | [], [], _ => rfl
  | a :: l, b :: m, h => by
    simp only [sx_eqL, Bool.and_eq_true] at h
    rw [hf a b h.1, sx_eqL_ok hf l m h.2]
  | [], _ :: _, h => by simp [sx_eqL] at h
  | _ :: _, [], h => by simp [sx_eqL] at h
noncomputable def sx_eqP (a b : Nat × sx_V) : Bool := Nat.beq a.1 b.1 && sx_eqV a.2 b.2
theorem sx_eqP_ok (a b : Nat × sx_V) (h : sx_eqP a b = true) : a = b := by
  simp only [sx_eqP, Bool.and_eq_true] at h
  exact Prod.ext (Nat.eq_of_beq_eq_true h.1) (sx_eqV_ok _ _ h.2)
noncomputable def sx_eqN (a b : Nat × Nat) : Bool := Nat.beq a.1 b.1 && Nat.beq a.2 b.2
theorem sx_eqN_ok (a b : Nat × Nat) (h : sx_eqN a b = true) : a = b := by
  simp only [sx_eqN, Bool.and_eq_true] at h
  exact Prod.ext (Nat.eq_of_beq_eq_true h.1) (Nat.eq_of_beq_eq_true h.2)
noncomputable def sx_eqE : sx_E → sx_E → Bool
  | .inl (a, l), .inl (b, m) => Nat.beq a b && sx_eqL sx_eqV l m
  | .inr (a, n, l), .inr (b, k, m) => Nat.beq a b && (Nat.beq n k && sx_eqL sx_eqP l m)
  | _, _ => false
theorem sx_eqE_ok : ∀ a b : sx_E, sx_eqE a b = true → a = b
  | .inl (a, l), .inl (b, m), h => by
    simp only [sx_eqE, Bool.and_eq_true] at h
    rw [Nat.eq_of_beq_eq_true h.1, sx_eqL_ok sx_eqV_ok l m h.2]
  | .inr (a, n, l), .inr (b, k, m), h => by
    simp only [sx_eqE, Bool.and_eq_true] at h
    rw [Nat.eq_of_beq_eq_true h.1, Nat.eq_of_beq_eq_true h.2.1, sx_eqL_ok sx_eqP_ok l m h.2.2]
  | .inl _, .inr _, h => by simp [sx_eqE] at h
  | .inr _, .inl _, h => by simp [sx_eqE] at h
noncomputable def sx_eqS (a b : sx_S) : Bool := Nat.beq a.1 b.1 && (sx_eqL sx_eqP a.2.1 b.2.1 && (sx_eqL sx_eqV a.2.2.1 b.2.2.1 && (sx_eqL sx_eqE a.2.2.2.1 b.2.2.2.1 && (sx_eqL sx_eqN a.2.2.2.2.1 b.2.2.2.2.1 && sx_eqN a.2.2.2.2.2 b.2.2.2.2.2))))
theorem sx_eqS_ok (a b : sx_S) (h : sx_eqS a b = true) : a = b := by
  simp only [sx_eqS, Bool.and_eq_true] at h
  exact Prod.ext (Nat.eq_of_beq_eq_true h.1) (Prod.ext (sx_eqL_ok sx_eqP_ok _ _ h.2.1) (Prod.ext (sx_eqL_ok sx_eqV_ok _ _ h.2.2.1) (Prod.ext (sx_eqL_ok sx_eqE_ok _ _ h.2.2.2.1) (Prod.ext (sx_eqL_ok sx_eqN_ok _ _ h.2.2.2.2.1) (sx_eqN_ok _ _ h.2.2.2.2.2)))))
noncomputable def sx_eqO : sx_N → List sx_S → Bool
  | some l, m => sx_eqL sx_eqS l m
  | none, _ => false
theorem sx_eqO_ok : ∀ (r : sx_N) (m : List sx_S), sx_eqO r m = true → r = some m
  | some l, m, h => by rw [sx_eqL_ok sx_eqS_ok l m h]
  | none, _, h => by simp [sx_eqO] at h
end
section
noncomputable def sx_iv0 (lo hi : Nat) : sx_Iv := [sx_full, sx_full, sx_full, sx_full, sx_full, sx_full, (lo, hi)]
noncomputable def sx_law (stop : Nat) (σ : sx_S) : sx_N := sx_run (sx_exec sx_mt sx_caps sx_rc 100000 6) sx_caps true (600000, 7302250) (sx_find sx_t_law) stop 100000 σ
set_option maxRecDepth 1000000 in
theorem sx_pre6 : sx_law 18 (0, [(0, (.inr (.inr (.inr 2))))], [], [], sx_iv0 2147483654 2147483654, 0, 0) = some [(18, [(3, (.inl 0)), (2, (.inr (.inr (.inl 75)))), (1, (.inr (.inr (.inl 0)))), (0, (.inr (.inr (.inr 2))))], [], sx_W0, sx_iv0 2147483654 2147483654, 124, 36542)] := sx_eqO_ok _ _ (by decide +kernel)
end
section
/-! numbers: an int by x + 2^31 -/
def sx_b (x : Int32) : Nat := (x.toInt + 2147483648).toNat
theorem sx_bd (x : Int32) : -2147483648 ≤ x.toInt ∧ x.toInt < 2147483648 := ⟨Int32.le_toInt x, Int32.toInt_lt x⟩
theorem sx_b_int (x : Int32) : (sx_b x : Int) = x.toInt + 2147483648 := by
  have h := sx_bd x
  unfold sx_b
  omega
theorem sx_b_lt (x : Int32) : sx_b x < 4294967296 := by
  have h := sx_bd x
  have h2 := sx_b_int x
  omega
theorem sx_b_inj {x y : Int32} (h : sx_b x = sx_b y) : x = y := by
  have h1 := sx_b_int x
  have h2 := sx_b_int y
  exact Int32.toInt_inj.mp (by omega)
theorem sx_b_of (n : Nat) : sx_b (Int32.ofNat n) = sx_bias n := by
  have h1 := sx_b_int (Int32.ofNat n)
  rw [Int32.toInt_ofNat'] at h1
  unfold sx_bias
  rw [Int.bmod_def] at h1
  have e : (Int32.size : Int) = 4294967296 := rfl
  simp only [Int32.size] at h1
  split at h1 <;> omega
theorem sx_bb {k : Nat} (h : k < 4294967296) : sx_bias (sx_bias k) = k := by
  unfold sx_bias
  omega
theorem sx_of_b (x : Int32) : Int32.ofNat (sx_bias (sx_b x)) = x := sx_b_inj (by rw [sx_b_of, sx_bb (sx_b_lt x)])
theorem sx_i_lt (x y : Int32) : x < y ↔ sx_b x < sx_b y := by
  have h1 := sx_b_int x
  have h2 := sx_b_int y
  rw [Int32.lt_iff_toInt_lt]
  omega
theorem sx_i_le (x y : Int32) : x ≤ y ↔ sx_b x ≤ sx_b y := by
  have h1 := sx_b_int x
  have h2 := sx_b_int y
  rw [Int32.le_iff_toInt_le]
  omega
theorem sx_i_eq (x y : Int32) : x = y ↔ sx_b x = sx_b y := ⟨fun h => by rw [h], sx_b_inj⟩
theorem sx_of_mod (n : Nat) : Int32.ofNat (n % 4294967296) = Int32.ofNat n := sx_b_inj (by
  rw [sx_b_of, sx_b_of]
  unfold sx_bias
  omega)
theorem sx_add (x y : Nat) : Int32.ofNat x + Int32.ofNat y = Int32.ofNat ((x + y) % 4294967296) := by
  rw [sx_of_mod]
  exact (Int32.ofNat_add x y).symm
theorem sx_mul (x y : Nat) : Int32.ofNat x * Int32.ofNat y = Int32.ofNat ((x * y) % 4294967296) := by
  rw [sx_of_mod]
  exact (Int32.ofNat_mul x y).symm
theorem sx_sub (x y : Nat) : Int32.ofNat x - Int32.ofNat y = Int32.ofNat ((x + (4294967296 - y % 4294967296)) % 4294967296) := by
  have h : Int32.ofNat ((x + (4294967296 - y % 4294967296)) % 4294967296) + Int32.ofNat y = Int32.ofNat x := by
    rw [sx_add]
    refine sx_b_inj ?_
    rw [sx_b_of, sx_b_of]
    unfold sx_bias
    omega
  rw [← h, Int32.add_sub_cancel]
theorem sx_clamp {n : Nat} (h : n < 2147483648) : (Int32.ofNat n).toNatClampNeg = n := nI_clamp (n := n) h
theorem sx_toInt {n : Nat} (h : n < 2147483648) : (Int32.ofNat n).toInt = (n : Int) := nI_toInt (n := n) h
theorem sx_zeroAdd (x : Int32) (n : Nat) (h : n = 0) : Int32.ofNat n + x = x := by
  subst h
  exact Int32.zero_add x
theorem sx_addZero (x : Int32) (n : Nat) (h : n = 0) : x + Int32.ofNat n = x := by
  subst h
  exact Int32.add_zero x
end
section
/-! what a state of the executor says of the machine -/
noncomputable def sx_cv (ρ : Nat → Int32) (ad : Nat → Nat) (b : Nat) : sx_V → Value
  | (.inl n) => .int (Int32.ofNat n)
  | (.inr (.inl k)) => .int (ρ k)
  | (.inr (.inr (.inl k))) => .ref (ad k)
  | (.inr (.inr (.inr 0))) => .null
  | (.inr (.inr (.inr 1))) => .long 0
  | _ => .ref b
noncomputable def sx_xi (ρ : Nat → Int32) : sx_V → Int32
  | (.inl n) => Int32.ofNat n
  | (.inr (.inl k)) => ρ k
  | _ => 0
noncomputable def sx_xr (ad : Nat → Nat) : sx_V → Option Nat
  | (.inr (.inr (.inl k))) => some (ad k)
  | _ => none
noncomputable def sx_cE (ρ : Nat → Int32) (ad : Nat → Nat) (b : Nat) (cA : Nat → ClassId) : sx_E → va_E
  | .inl (ci, fs) => .inr (ci, fs.map (sx_cv ρ ad b))
  | .inr (kd, n, up) => .inl (cA kd, n, match kd with
    | 1 => .inr (.inl (fun _ => 0))
    | 4 => .inr (.inr (.inr (.inr (fun j => sx_xr ad (sx_ald 4 up j)))))
    | _ => .inl (fun j => sx_xi ρ (sx_ald 0 up j)))
noncomputable def sx_cW (ρ : Nat → Int32) (ad : Nat → Nat) (b : Nat) (cA : Nat → ClassId) (w : List sx_E) : va_W := w.mapIdx (fun k e => (ad k, sx_cE ρ ad b cA e))
noncomputable def sx_cL (ρ : Nat → Int32) (ad : Nat → Nat) (b : Nat) (l : List (Nat × sx_V)) : List (Nat × Value) := l.map (fun q => (q.1, sx_cv ρ ad b q.2))
def sx_ivOk (ρ : Nat → Int32) (iv : sx_Iv) : Prop := ∀ (k lo hi : Nat), iv[k]? = some (lo, hi) → lo ≤ sx_b (ρ k) ∧ sx_b (ρ k) ≤ hi
def sx_tys (cA : Nat → ClassId) : List (ClassId × FieldType) := [(cA 0, .int), (cA 1, .long), (cA 2, .boolean), (cA 3, .byte), (cA 4, .object "TwoInOne$State")]
/-- the machine goes on from there, whatever the variables and the addresses are -/
def sx_Ok (p : Program) (l : Launch) (e : Env) (R : Room) (s : State) (m : MethodId) (args : Array Value) (below : List Frame) (meth : Method) (c : Code) (Q : State → Prop) (D : va_G) (cA : Nat → ClassId) (A : Nat → Prop) (b nL : Nat) (ρ0 : Nat → Int32) (ad0 : Nat → Nat) (n0 m0 : Nat) (σ : sx_S) : Prop :=
  ∀ (ρ : Nat → Int32) (ad : Nat → Nat) (H : Heap) (locs : List Loc) (ls : Array Slot), sx_ivOk ρ σ.2.2.2.2.1 → (∀ k, k < n0 → ρ k = ρ0 k) → (∀ k, k < m0 → ad k = ad0 k) → n0 ≤ σ.2.2.2.2.1.length → m0 ≤ σ.2.2.2.1.length →
    va_P D sx_clL (sx_cW ρ ad b cA σ.2.2.2.1) H → va_D A (sx_cW ρ ad b cA σ.2.2.2.1) → va_S A s.heap H locs → lv_has ls nL (sx_cL ρ ad b σ.2.1) →
    W p l e R s m args below meth c H locs σ.2.2.2.2.2.1 σ.2.2.2.2.2.2 Q (F0 m σ.1 ls (σ.2.2.1.map (sx_cv ρ ad b)))
theorem sx_cv_int {ρ : Nat → Int32} {ad : Nat → Nat} {b : Nat} : ∀ {v : sx_V}, sx_isInt v = true → sx_cv ρ ad b v = .int (sx_xi ρ v)
  | (.inl _), _ => rfl
  | (.inr (.inl _)), _ => rfl
  | .inr (.inr (.inl _)), h => by simp [sx_isInt] at h
  | .inr (.inr (.inr _)), h => by simp [sx_isInt] at h
theorem sx_cv_ref {ρ : Nat → Int32} {ad : Nat → Nat} {b : Nat} : ∀ {v : sx_V}, sx_isRef v = true → ∃ k, v = (.inr (.inr (.inl k))) ∧ sx_cv ρ ad b v = .ref (ad k)
  | .inr (.inr (.inl k)), _ => ⟨k, rfl, rfl⟩
  | .inl _, h => by simp [sx_isRef] at h
  | .inr (.inl _), h => by simp [sx_isRef] at h
  | .inr (.inr (.inr _)), h => by simp [sx_isRef] at h
theorem sx_cv_adr {ρ : Nat → Int32} {ad : Nat → Nat} {b : Nat} : ∀ {v : sx_V}, sx_isAdr v = true → ∃ a, sx_cv ρ ad b v = .ref a
  | .inr (.inr (.inl k)), _ => ⟨ad k, rfl⟩
  | .inr (.inr (.inr 2)), _ => ⟨b, rfl⟩
  | .inl _, h => by simp [sx_isAdr] at h
  | .inr (.inl _), h => by simp [sx_isAdr] at h
  | .inr (.inr (.inr 0)), h => by simp [sx_isAdr] at h
  | .inr (.inr (.inr 1)), h => by simp [sx_isAdr] at h
  | .inr (.inr (.inr (k + 3))), h => by simp [sx_isAdr] at h
theorem sx_cat_eq {ρ : Nat → Int32} {ad : Nat → Nat} {b : Nat} : ∀ (v : sx_V), ((sx_cv ρ ad b v).category == 2) = sx_cat v
  | .inl _ => rfl
  | .inr (.inl _) => rfl
  | .inr (.inr (.inl _)) => rfl
  | .inr (.inr (.inr 0)) => rfl
  | .inr (.inr (.inr 1)) => rfl
  | .inr (.inr (.inr (_ + 2))) => rfl
theorem sx_cat1 {ρ : Nat → Int32} {ad : Nat → Nat} {b : Nat} {v : sx_V} (h : sx_cat v = false) : (sx_cv ρ ad b v).category = 1 := by
  have h1 := sx_cat_eq (ρ := ρ) (ad := ad) (b := b) v
  rw [h] at h1
  rcases lv_cat (sx_cv ρ ad b v) with h2 | h2
  · exact h2
  · rw [h2] at h1; cases h1
theorem sx_look_mem {k : Nat} {v : sx_V} : ∀ {l : List (Nat × sx_V)}, sx_look k l = some v → (k, v) ∈ l
  | [], h => by simp [sx_look] at h
  | (j, u) :: l, h => by
    unfold sx_look at h
    split at h
    next hj =>
      cases h
      rw [Nat.eq_of_beq_eq_true hj]
      exact List.mem_cons_self
    next => exact List.mem_cons_of_mem _ (sx_look_mem h)
theorem sx_cL_at {ρ : Nat → Int32} {ad : Nat → Nat} {b nL k : Nat} {v : sx_V} {L : List (Nat × sx_V)} {ls : Array Slot} (hl : lv_has ls nL (sx_cL ρ ad b L)) (h : sx_look k L = some v) : ls[k]? = some (.val (sx_cv ρ ad b v)) :=
  hl.2.2 (k, sx_cv ρ ad b v) (List.mem_map.mpr ⟨(k, v), sx_look_mem h, rfl⟩)
theorem sx_beq (a b : Nat) : (a == b) = Nat.beq a b := by
  rw [Bool.eq_iff_iff, beq_iff_eq]
  exact ⟨fun h => by rw [h]; exact Nat.beq_refl b, Nat.eq_of_beq_eq_true⟩
theorem sx_cL_put {ρ : Nat → Int32} {ad : Nat → Nat} {b k : Nat} {v : sx_V} {L : List (Nat × sx_V)} : (k, sx_cv ρ ad b v) :: (sx_cL ρ ad b L).filter (fun q => !(q.1 == k) && !(q.1 + 1 == k && q.2.category == 2)) = sx_cL ρ ad b (sx_put k v L) := by
  have e : (fun q : Nat × sx_V => !(Nat.beq q.1 k) && !(Nat.beq (q.1 + 1) k && sx_cat q.2)) = (fun q : Nat × sx_V => !(q.1 == k) && !(q.1 + 1 == k && (sx_cv ρ ad b q.2).category == 2)) := by
    funext q
    rw [sx_cat_eq, sx_beq, sx_beq]
  unfold sx_put sx_cL
  rw [e, List.map_cons, List.filter_map]
  rfl
theorem sx_nm_eq {ρ : Nat → Int32} {ad : Nat → Nat} {b : Nat} {iv : sx_Iv} (h : sx_ivOk ρ iv) : ∀ (v : sx_V), sx_cv ρ ad b (sx_nm iv v) = sx_cv ρ ad b v
  | .inl _ => rfl
  | .inr (.inr (.inl _)) => rfl
  | .inr (.inr (.inr _)) => rfl
  | .inr (.inl k) => by
    simp only [sx_nm, sx_nth_eq]
    cases hk : iv[k]? with
    | none => rfl
    | some q =>
      obtain ⟨lo, hi⟩ := q
      dsimp only
      cases hb : Nat.beq lo hi with
      | false => rfl
      | true =>
        have h1 := h k lo hi hk
        have h2 := Nat.eq_of_beq_eq_true hb
        have h3 : sx_b (ρ k) = lo := by omega
        show Value.int (Int32.ofNat (sx_bias lo)) = Value.int (ρ k)
        rw [← h3, sx_of_b]
end
section
/-! one instruction: what changes no cell -/
section sxPure
variable {p : Program} {l : Launch} {e : Env} {R : Room} {s : State} {m : MethodId} {args : Array Value} {below : List Frame} {meth : Method} {c : Code} {Q : State → Prop} {D : va_G} {cA : Nat → ClassId} {A : Nat → Prop} {b nL : Nat} {ρ0 : Nat → Int32} {ad0 : Nat → Nat} {n0 m0 : Nat} {cc : ByteArray}
theorem sx_pure {pc pc' mc ms : Nat} {L : List (Nat × sx_V)} {st st' : List sx_V} {w : List sx_E} {iv : sx_Iv} (K : sx_Ok p l e R s m args below meth c Q D cA A b nL ρ0 ad0 n0 m0 (pc', L, st', w, iv, mc, ms))
    (h : ∀ (ρ : Nat → Int32) (ad : Nat → Nat) (H : Heap) (locs : List Loc) (ls : Array Slot), sx_ivOk ρ iv → lv_has ls nL (sx_cL ρ ad b L) → W p l e R s m args below meth c H locs mc ms Q (F0 m pc' ls (st'.map (sx_cv ρ ad b))) → W p l e R s m args below meth c H locs mc ms Q (F0 m pc ls (st.map (sx_cv ρ ad b)))) : sx_Ok p l e R s m args below meth c Q D cA A b nL ρ0 ad0 n0 m0 (pc, L, st, w, iv, mc, ms) :=
  fun ρ ad H locs ls h1 h2 h3 h4 h5 hP hD hS hl => h ρ ad H locs ls h1 hl (K ρ ad H locs ls h1 h2 h3 h4 h5 hP hD hS hl)
theorem sx_s_push {σ : sx_S} {n : Nat} {v : sx_V} {ss : List sx_S} (h : sx_push σ n v = some ss) (K : ∀ τ ∈ ss, sx_Ok p l e R s m args below meth c Q D cA A b nL ρ0 ad0 n0 m0 τ)
    (hw : ∀ (ρ : Nat → Int32) (ad : Nat → Nat) (H : Heap) (locs : List Loc) (mc ms : Nat) (ls : Array Slot) (rest : List Value), lv_has ls nL (sx_cL ρ ad b σ.2.1) → W p l e R s m args below meth c H locs mc ms Q (F0 m (σ.1 + n) ls (sx_cv ρ ad b v :: rest)) → W p l e R s m args below meth c H locs mc ms Q (F0 m σ.1 ls rest)) : sx_Ok p l e R s m args below meth c Q D cA A b nL ρ0 ad0 n0 m0 σ := by
  obtain ⟨pc, L, st, w, iv, mc, ms⟩ := σ
  cases h
  exact sx_pure (K _ List.mem_cons_self) (fun ρ ad H locs ls h1 hl k => hw ρ ad H locs mc ms ls _ hl k)
theorem sx_s_iconst (hx : p.tables.exec = Jvm.exec) (hb : c.code = cc) {σ : sx_S} {n : Int} {k : Nat} {ss : List sx_S} (hdg : decode cc σ.1 = .ok (.iconst n, 1)) (hk : Int32.ofInt n = Int32.ofNat k) (h : sx_push σ 1 (.inl k) = some ss) (K : ∀ τ ∈ ss, sx_Ok p l e R s m args below meth c Q D cA A b nL ρ0 ad0 n0 m0 τ) : sx_Ok p l e R s m args below meth c Q D cA A b nL ρ0 ad0 n0 m0 σ :=
  sx_s_push h K (fun ρ ad H locs mc ms ls rest hl k => lv_iconst hx hb hdg hk k)
theorem sx_s_bipush (hx : p.tables.exec = Jvm.exec) (hb : c.code = cc) {σ : sx_S} {n : Int} {k : Nat} {ss : List sx_S} (hdg : decode cc σ.1 = .ok (.bipush n, 2)) (hk : (Int8.ofInt n).toInt32 = Int32.ofNat k) (h : sx_push σ 2 (.inl k) = some ss) (K : ∀ τ ∈ ss, sx_Ok p l e R s m args below meth c Q D cA A b nL ρ0 ad0 n0 m0 τ) : sx_Ok p l e R s m args below meth c Q D cA A b nL ρ0 ad0 n0 m0 σ :=
  sx_s_push h K (fun ρ ad H locs mc ms ls rest hl k => lv_bipush hx hb hdg hk k)
theorem sx_s_sipush (hx : p.tables.exec = Jvm.exec) (hb : c.code = cc) {σ : sx_S} {n : Int} {k : Nat} {ss : List sx_S} (hdg : decode cc σ.1 = .ok (.sipush n, 3)) (hk : (Int16.ofInt n).toInt32 = Int32.ofNat k) (h : sx_push σ 3 (.inl k) = some ss) (K : ∀ τ ∈ ss, sx_Ok p l e R s m args below meth c Q D cA A b nL ρ0 ad0 n0 m0 τ) : sx_Ok p l e R s m args below meth c Q D cA A b nL ρ0 ad0 n0 m0 σ :=
  sx_s_push h K (fun ρ ad H locs mc ms ls rest hl k => lv_sipush hx hb hdg hk k)
theorem sx_s_ldc (hx : p.tables.exec = Jvm.exec) (hb : c.code = cc) {own : String} (hown : s.vm.findClass own = some m.cls) {σ : sx_S} {i k : Nat} {ss : List sx_S} (hdg : decode cc σ.1 = .ok (.ldc i, 2)) (hk : (Jvm.Cond.constant own i (Int32.ofNat k)).before args s = true) (h : sx_push σ 2 (.inl k) = some ss) (K : ∀ τ ∈ ss, sx_Ok p l e R s m args below meth c Q D cA A b nL ρ0 ad0 n0 m0 τ) : sx_Ok p l e R s m args below meth c Q D cA A b nL ρ0 ad0 n0 m0 σ :=
  sx_s_push h K (fun ρ ad H locs mc ms ls rest hl k => lv_ldc hx hb hown hk hdg k)
theorem sx_s_ldcw (hx : p.tables.exec = Jvm.exec) (hb : c.code = cc) {own : String} (hown : s.vm.findClass own = some m.cls) {σ : sx_S} {i k : Nat} {ss : List sx_S} (hdg : decode cc σ.1 = .ok (.ldc_w i, 3)) (hk : (Jvm.Cond.constant own i (Int32.ofNat k)).before args s = true) (h : sx_push σ 3 (.inl k) = some ss) (K : ∀ τ ∈ ss, sx_Ok p l e R s m args below meth c Q D cA A b nL ρ0 ad0 n0 m0 τ) : sx_Ok p l e R s m args below meth c Q D cA A b nL ρ0 ad0 n0 m0 σ :=
  sx_s_push h K (fun ρ ad H locs mc ms ls rest hl k => lv_ldcw hx hb hown hk hdg k)
theorem sx_s_null (hx : p.tables.exec = Jvm.exec) (hb : c.code = cc) {σ : sx_S} {ss : List sx_S} (hdg : decode cc σ.1 = .ok (.aconst_null, 1)) (h : sx_push σ 1 (.inr (.inr (.inr 0))) = some ss) (K : ∀ τ ∈ ss, sx_Ok p l e R s m args below meth c Q D cA A b nL ρ0 ad0 n0 m0 τ) : sx_Ok p l e R s m args below meth c Q D cA A b nL ρ0 ad0 n0 m0 σ :=
  sx_s_push h K (fun ρ ad H locs mc ms ls rest hl k => lv_null hx hb hdg k)
theorem sx_ldk_inv {ok : sx_V → Bool} {σ : sx_S} {n k : Nat} {ss : List sx_S} (h : sx_ldk ok σ n k = some ss) : ∃ v, sx_look k σ.2.1 = some v ∧ ok v = true ∧ sx_push σ n v = some ss := by
  unfold sx_ldk at h
  split at h
  next v hv =>
    split at h
    next ho => exact ⟨v, hv, ho, h⟩
    next => cases h
  next => cases h
theorem sx_s_iload_n (hx : p.tables.exec = Jvm.exec) (hb : c.code = cc) {σ : sx_S} {k : Fin 4} {ss : List sx_S} (hdg : decode cc σ.1 = .ok (.iload_n k, 1)) (h : sx_ldk sx_isInt σ 1 k.val = some ss) (K : ∀ τ ∈ ss, sx_Ok p l e R s m args below meth c Q D cA A b nL ρ0 ad0 n0 m0 τ) : sx_Ok p l e R s m args below meth c Q D cA A b nL ρ0 ad0 n0 m0 σ := by
  obtain ⟨v, hv, ho, h⟩ := sx_ldk_inv h
  exact sx_s_push h K (fun ρ ad H locs mc ms ls rest hl k => by
    have h1 := sx_cL_at hl hv
    rw [sx_cv_int ho] at h1 k
    exact lv_iload_n hx hb hdg rfl h1 k)
theorem sx_s_iload (hx : p.tables.exec = Jvm.exec) (hb : c.code = cc) {σ : sx_S} {k : Nat} {ss : List sx_S} (hdg : decode cc σ.1 = .ok (.iload k, 2)) (h : sx_ldk sx_isInt σ 2 k = some ss) (K : ∀ τ ∈ ss, sx_Ok p l e R s m args below meth c Q D cA A b nL ρ0 ad0 n0 m0 τ) : sx_Ok p l e R s m args below meth c Q D cA A b nL ρ0 ad0 n0 m0 σ := by
  obtain ⟨v, hv, ho, h⟩ := sx_ldk_inv h
  exact sx_s_push h K (fun ρ ad H locs mc ms ls rest hl k => by
    have h1 := sx_cL_at hl hv
    rw [sx_cv_int ho] at h1 k
    exact lv_iload hx hb hdg h1 k)
theorem sx_s_aload_n (hx : p.tables.exec = Jvm.exec) (hb : c.code = cc) {σ : sx_S} {k : Fin 4} {ss : List sx_S} (hdg : decode cc σ.1 = .ok (.aload_n k, 1)) (h : sx_ldk sx_isAdr σ 1 k.val = some ss) (K : ∀ τ ∈ ss, sx_Ok p l e R s m args below meth c Q D cA A b nL ρ0 ad0 n0 m0 τ) : sx_Ok p l e R s m args below meth c Q D cA A b nL ρ0 ad0 n0 m0 σ := by
  obtain ⟨v, hv, ho, h⟩ := sx_ldk_inv h
  exact sx_s_push h K (fun ρ ad H locs mc ms ls rest hl k => by
    have h1 := sx_cL_at hl hv
    obtain ⟨a, ha⟩ := sx_cv_adr (ρ := ρ) (ad := ad) (b := b) ho
    rw [ha] at h1 k
    exact lv_aload_n hx hb hdg rfl h1 k)
/-- a store into a place of the locals -/
theorem sx_s_st {ok : sx_V → Bool} {σ : sx_S} {n k : Nat} {ss : List sx_S} (h : sx_stk ok σ n k = some ss) (K : ∀ τ ∈ ss, sx_Ok p l e R s m args below meth c Q D cA A b nL ρ0 ad0 n0 m0 τ)
    (hw : ∀ (ρ : Nat → Int32) (ad : Nat → Nat) (H : Heap) (locs : List Loc) (mc ms : Nat) (ls : Array Slot) (v : sx_V) (L : List (Nat × sx_V)) (rest : List Value), ok v = true → lv_has ls nL (sx_cL ρ ad b L) → (∀ ls' : Array Slot, lv_has ls' nL (sx_cL ρ ad b (sx_put k v L)) → W p l e R s m args below meth c H locs mc ms Q (F0 m (σ.1 + n) ls' rest)) → W p l e R s m args below meth c H locs mc ms Q (F0 m σ.1 ls (sx_cv ρ ad b v :: rest))) : sx_Ok p l e R s m args below meth c Q D cA A b nL ρ0 ad0 n0 m0 σ := by
  obtain ⟨pc, L, st, w, iv, mc, ms⟩ := σ
  unfold sx_stk at h
  split at h
  next pc' L' v st' w' iv' mc' ms' heq =>
    cases heq
    split at h
    next ho =>
      rw [sx_lay_eq] at h
      cases h
      intro ρ ad H locs ls h1 h2 h3 h4 h5 hP hD hS hl
      exact hw ρ ad H locs mc ms ls v L _ ho hl (fun ls' hl' => K _ List.mem_cons_self ρ ad H locs ls' h1 h2 h3 h4 h5 hP hD hS hl')
    next => cases h
  next => cases h
theorem sx_s_istore_n (hx : p.tables.exec = Jvm.exec) (hb : c.code = cc) {σ : sx_S} {k : Fin 4} {ss : List sx_S} (hk : k.val < nL) (hdg : decode cc σ.1 = .ok (.istore_n k, 1)) (h : sx_stk sx_isInt σ 1 k.val = some ss) (K : ∀ τ ∈ ss, sx_Ok p l e R s m args below meth c Q D cA A b nL ρ0 ad0 n0 m0 τ) : sx_Ok p l e R s m args below meth c Q D cA A b nL ρ0 ad0 n0 m0 σ :=
  sx_s_st h K (fun ρ ad H locs mc ms ls v L rest ho hl kk => by
    have e := sx_cL_put (ρ := ρ) (ad := ad) (b := b) (k := k.val) (v := v) (L := L)
    rw [sx_cv_int ho] at e ⊢
    exact lv_istore_n hx hb hdg rfl hl hk e kk)
theorem sx_s_istore (hx : p.tables.exec = Jvm.exec) (hb : c.code = cc) {σ : sx_S} {k : Nat} {ss : List sx_S} (hk : k < nL) (hdg : decode cc σ.1 = .ok (.istore k, 2)) (h : sx_stk sx_isInt σ 2 k = some ss) (K : ∀ τ ∈ ss, sx_Ok p l e R s m args below meth c Q D cA A b nL ρ0 ad0 n0 m0 τ) : sx_Ok p l e R s m args below meth c Q D cA A b nL ρ0 ad0 n0 m0 σ :=
  sx_s_st h K (fun ρ ad H locs mc ms ls v L rest ho hl kk => by
    have e := sx_cL_put (ρ := ρ) (ad := ad) (b := b) (k := k) (v := v) (L := L)
    rw [sx_cv_int ho] at e ⊢
    exact lv_istore hx hb hdg hl hk e kk)
theorem sx_s_astore_n (hx : p.tables.exec = Jvm.exec) (hb : c.code = cc) {σ : sx_S} {k : Fin 4} {ss : List sx_S} (hk : k.val < nL) (hdg : decode cc σ.1 = .ok (.astore_n k, 1)) (h : sx_stk sx_isRef σ 1 k.val = some ss) (K : ∀ τ ∈ ss, sx_Ok p l e R s m args below meth c Q D cA A b nL ρ0 ad0 n0 m0 τ) : sx_Ok p l e R s m args below meth c Q D cA A b nL ρ0 ad0 n0 m0 σ :=
  sx_s_st h K (fun ρ ad H locs mc ms ls v L rest ho hl kk => by
    have e := sx_cL_put (ρ := ρ) (ad := ad) (b := b) (k := k.val) (v := v) (L := L)
    obtain ⟨q, rfl, ha⟩ := sx_cv_ref (ρ := ρ) (ad := ad) (b := b) ho
    rw [ha] at e ⊢
    exact lv_astore_n hx hb hdg rfl hl hk e kk)
theorem sx_s_dup (hx : p.tables.exec = Jvm.exec) (hb : c.code = cc) {σ : sx_S} {ss : List sx_S} (hdg : decode cc σ.1 = .ok (.dup, 1)) (h : sx_dup σ = some ss) (K : ∀ τ ∈ ss, sx_Ok p l e R s m args below meth c Q D cA A b nL ρ0 ad0 n0 m0 τ) : sx_Ok p l e R s m args below meth c Q D cA A b nL ρ0 ad0 n0 m0 σ := by
  obtain ⟨pc, L, st, w, iv, mc, ms⟩ := σ
  unfold sx_dup at h
  split at h
  next pc' L' v st' w' iv' mc' ms' heq =>
    cases heq
    split at h
    next ho =>
      cases h
      exact sx_pure (K _ List.mem_cons_self) (fun ρ ad H locs ls h1 hl k => lv_dup hx hb hdg (sx_cat1 ho) k)
    next => cases h
  next => cases h
theorem sx_s_dup2 (hx : p.tables.exec = Jvm.exec) (hb : c.code = cc) {σ : sx_S} {ss : List sx_S} (hdg : decode cc σ.1 = .ok (.dup2, 1)) (h : sx_dup2 σ = some ss) (K : ∀ τ ∈ ss, sx_Ok p l e R s m args below meth c Q D cA A b nL ρ0 ad0 n0 m0 τ) : sx_Ok p l e R s m args below meth c Q D cA A b nL ρ0 ad0 n0 m0 σ := by
  obtain ⟨pc, L, st, w, iv, mc, ms⟩ := σ
  unfold sx_dup2 at h
  split at h
  next pc' L' y x st' w' iv' mc' ms' heq =>
    cases heq
    split at h
    next ho =>
      cases h
      rw [Bool.or_eq_false_iff] at ho
      exact sx_pure (K _ List.mem_cons_self) (fun ρ ad H locs ls h1 hl k => lv_dup2_11 hx hb hdg (sx_cat1 ho.2) (sx_cat1 ho.1) k)
    next => cases h
  next => cases h
theorem sx_s_goto (hx : p.tables.exec = Jvm.exec) (hb : c.code = cc) {σ : sx_S} {off : Int} {t : Nat} {ss : List sx_S} (hdg : decode cc σ.1 = .ok (.goto off, 3)) (ht : (σ.1 : Int) + off = (t : Int)) (h : some [sx_at σ t] = some ss) (K : ∀ τ ∈ ss, sx_Ok p l e R s m args below meth c Q D cA A b nL ρ0 ad0 n0 m0 τ) : sx_Ok p l e R s m args below meth c Q D cA A b nL ρ0 ad0 n0 m0 σ := by
  obtain ⟨pc, L, st, w, iv, mc, ms⟩ := σ
  cases h
  exact sx_pure (K _ List.mem_cons_self) (fun ρ ad H locs ls h1 hl k => lv_goto hx hb hdg ht k)
theorem sx_s_nonnull (hx : p.tables.exec = Jvm.exec) (hb : c.code = cc) {σ : sx_S} {off : Int} {t : Nat} {ss : List sx_S} (hdg : decode cc σ.1 = .ok (.ifnonnull off, 3)) (ht : (σ.1 : Int) + off = (t : Int)) (h : sx_nonnull σ t = some ss) (K : ∀ τ ∈ ss, sx_Ok p l e R s m args below meth c Q D cA A b nL ρ0 ad0 n0 m0 τ) : sx_Ok p l e R s m args below meth c Q D cA A b nL ρ0 ad0 n0 m0 σ := by
  obtain ⟨pc, L, st, w, iv, mc, ms⟩ := σ
  unfold sx_nonnull at h
  split at h
  next pc' L' q st' w' iv' mc' ms' heq =>
    cases heq
    cases h
    exact sx_pure (K _ List.mem_cons_self) (fun ρ ad H locs ls h1 hl k => lv_ifnonnull hx hb hdg ht k)
  next pc' L' st' w' iv' mc' ms' heq =>
    cases heq
    cases h
    exact sx_pure (K _ List.mem_cons_self) (fun ρ ad H locs ls h1 hl k => lv_ifnonnullN hx hb hdg k)
  next => cases h
theorem sx_s_inc (hx : p.tables.exec = Jvm.exec) (hb : c.code = cc) {σ : sx_S} {k n : Nat} {i : Int} {ss : List sx_S} (hk : k < nL) (hi : Int32.ofInt i = Int32.ofNat n) (hdg : decode cc σ.1 = .ok (.iinc k i, 3)) (h : sx_inc σ k n = some ss) (K : ∀ τ ∈ ss, sx_Ok p l e R s m args below meth c Q D cA A b nL ρ0 ad0 n0 m0 τ) : sx_Ok p l e R s m args below meth c Q D cA A b nL ρ0 ad0 n0 m0 σ := by
  obtain ⟨pc, L, st, w, iv, mc, ms⟩ := σ
  simp only [sx_inc] at h
  split at h
  next x hxk =>
    split at h
    next a ha =>
      rw [sx_lay_eq] at h
      cases h
      intro ρ ad H locs ls h1 h2 h3 h4 h5 hP hD hS hl
      have hv := sx_nm_eq (ad := ad) (b := b) h1 x
      rw [ha] at hv
      have hm : (k, sx_cv ρ ad b x) ∈ sx_cL ρ ad b L := List.mem_map.mpr ⟨(k, x), sx_look_mem hxk, rfl⟩
      rw [← hv] at hm
      obtain ⟨j, hj⟩ := List.getElem?_of_mem hm
      refine lv_iinc (k := j) (x := Int32.ofNat a) (v := Int32.ofNat ((a + n) % 4294967296)) hx hb hdg hl hj (by rw [hi, sx_add]) hk (sx_cL_put (ρ := ρ) (ad := ad) (b := b) (k := k) (v := (.inl ((a + n) % 4294967296))) (L := L)) (fun ls' hl' => ?_)
      exact K _ List.mem_cons_self ρ ad H locs ls' h1 h2 h3 h4 h5 hP hD hS hl'
    next => cases h
  next => cases h
end sxPure
end
section
/-! new variables; int operations -/
theorem sx_and (a b : Nat) : Int32.ofNat a &&& Int32.ofNat b = Int32.ofNat (a &&& b) := by
  apply Int32.toBitVec_inj.1
  show BitVec.ofNat 32 a &&& BitVec.ofNat 32 b = BitVec.ofNat 32 (a &&& b)
  apply BitVec.eq_of_getLsbD_eq
  intro i hi
  simp [hi]
theorem sx_b_and (x : Int32) {b : Nat} (h : b < 2147483648) : 2147483648 ≤ sx_b (x &&& Int32.ofNat b) ∧ sx_b (x &&& Int32.ofNat b) ≤ 2147483648 + b := by
  rw [← sx_of_b x, sx_and, sx_b_of]
  have h1 : (sx_bias (sx_b x)) &&& b ≤ b := Nat.and_le_right
  generalize (sx_bias (sx_b x)) &&& b = n at h1
  unfold sx_bias
  omega
theorem sx_b_sub (x : Int32) {b : Nat} (h : b < 2147483648) (h2 : b ≤ sx_b x) : sx_b (x - Int32.ofNat b) = sx_b x - b := by
  have h3 := sx_b_lt x
  have e : x - Int32.ofNat b = Int32.ofNat (sx_bias (sx_b x)) - Int32.ofNat b := by rw [sx_of_b]
  rw [e, sx_sub, sx_b_of]
  generalize sx_b x = n at h2 h3
  unfold sx_bias
  omega
theorem sx_lim_cv {ρ ρ' : Nat → Int32} {ad ad' : Nat → Nat} {b nv nr : Nat} (hρ : ∀ k, k < nv → ρ k = ρ' k) (ha : ∀ k, k < nr → ad k = ad' k) : ∀ {v : sx_V}, sx_lim nv nr v = true → sx_cv ρ ad b v = sx_cv ρ' ad' b v
  | .inl _, _ => rfl
  | .inr (.inl k), h => by
    show Value.int (ρ k) = Value.int (ρ' k)
    rw [hρ k (Nat.le_of_ble_eq_true h)]
  | .inr (.inr (.inl k)), h => by
    show Value.ref (ad k) = Value.ref (ad' k)
    rw [ha k (Nat.le_of_ble_eq_true h)]
  | .inr (.inr (.inr 0)), _ => rfl
  | .inr (.inr (.inr 1)), _ => rfl
  | .inr (.inr (.inr (_ + 2))), _ => rfl
theorem sx_lim_xi {ρ ρ' : Nat → Int32} {nv nr : Nat} (hρ : ∀ k, k < nv → ρ k = ρ' k) : ∀ {v : sx_V}, sx_lim nv nr v = true → sx_xi ρ v = sx_xi ρ' v
  | .inl _, _ => rfl
  | .inr (.inl k), h => hρ k (Nat.le_of_ble_eq_true h)
  | .inr (.inr _), _ => rfl
theorem sx_lim_xr {ad ad' : Nat → Nat} {nv nr : Nat} (ha : ∀ k, k < nr → ad k = ad' k) : ∀ {v : sx_V}, sx_lim nv nr v = true → sx_xr ad v = sx_xr ad' v
  | .inl _, _ => rfl
  | .inr (.inl _), _ => rfl
  | .inr (.inr (.inl k)), h => by
    show some (ad k) = some (ad' k)
    rw [ha k (Nat.le_of_ble_eq_true h)]
  | .inr (.inr (.inr _)), _ => rfl
theorem sx_ald_lim {nv nr : Nat} {up : List (Nat × sx_V)} (h : sx_limP nv nr up = true) (kd j : Nat) : sx_lim nv nr (sx_ald kd up j) = true := by
  unfold sx_ald
  cases hl : sx_look j up with
  | none =>
    show sx_lim nv nr (sx_def kd) = true
    unfold sx_def
    split <;> rfl
  | some v => exact List.all_eq_true.mp h _ (sx_look_mem hl)
theorem sx_cE_lim {ρ ρ' : Nat → Int32} {ad ad' : Nat → Nat} {b nv nr : Nat} {cA : Nat → ClassId} (hρ : ∀ k, k < nv → ρ k = ρ' k) (ha : ∀ k, k < nr → ad k = ad' k) : ∀ {e : sx_E}, sx_limE nv nr e = true → sx_cE ρ ad b cA e = sx_cE ρ' ad' b cA e
  | .inl (ci, fs), h => by
    have h1 : fs.map (sx_cv ρ ad b) = fs.map (sx_cv ρ' ad' b) := List.map_congr_left (fun v hv => sx_lim_cv hρ ha (List.all_eq_true.mp h v hv))
    simp only [sx_cE, h1]
  | .inr (kd, n, up), h => by
    have h1 : (fun j => sx_xr ad (sx_ald 4 up j)) = (fun j => sx_xr ad' (sx_ald 4 up j)) := funext fun j => sx_lim_xr ha (sx_ald_lim h 4 j)
    have h2 : (fun j => sx_xi ρ (sx_ald 0 up j)) = (fun j => sx_xi ρ' (sx_ald 0 up j)) := funext fun j => sx_lim_xi hρ (sx_ald_lim h 0 j)
    simp only [sx_cE, h1, h2]
theorem sx_cW_at {ρ : Nat → Int32} {ad : Nat → Nat} {b : Nat} {cA : Nat → ClassId} (w : List sx_E) (k : Nat) : (sx_cW ρ ad b cA w)[k]? = (w[k]?).map (fun e => (ad k, sx_cE ρ ad b cA e)) := by
  unfold sx_cW
  rw [List.getElem?_mapIdx]
theorem sx_cW_lim {ρ ρ' : Nat → Int32} {ad ad' : Nat → Nat} {b nv nr : Nat} {cA : Nat → ClassId} {w : List sx_E} (hρ : ∀ k, k < nv → ρ k = ρ' k) (ha : ∀ k, k < nr → ad k = ad' k) (hr : w.length ≤ nr) (h : w.all (sx_limE nv nr) = true) : sx_cW ρ ad b cA w = sx_cW ρ' ad' b cA w := by
  apply List.ext_getElem?
  intro k
  rw [sx_cW_at, sx_cW_at]
  cases hk : w[k]? with
  | none => rfl
  | some e =>
    have hl : k < w.length := (List.getElem?_eq_some_iff.mp hk).1
    show some (ad k, sx_cE ρ ad b cA e) = some (ad' k, sx_cE ρ' ad' b cA e)
    rw [ha k (by omega), sx_cE_lim hρ ha (List.all_eq_true.mp h e (List.mem_of_getElem? hk))]
theorem sx_cL_lim {ρ ρ' : Nat → Int32} {ad ad' : Nat → Nat} {b nv nr : Nat} {L : List (Nat × sx_V)} (hρ : ∀ k, k < nv → ρ k = ρ' k) (ha : ∀ k, k < nr → ad k = ad' k) (h : sx_limP nv nr L = true) : sx_cL ρ ad b L = sx_cL ρ' ad' b L :=
  List.map_congr_left (fun q hq => by rw [sx_lim_cv hρ ha (List.all_eq_true.mp h q hq)])
theorem sx_cS_lim {ρ ρ' : Nat → Int32} {ad ad' : Nat → Nat} {b nv nr : Nat} {st : List sx_V} (hρ : ∀ k, k < nv → ρ k = ρ' k) (ha : ∀ k, k < nr → ad k = ad' k) (h : sx_limL nv nr st = true) : st.map (sx_cv ρ ad b) = st.map (sx_cv ρ' ad' b) :=
  List.map_congr_left (fun q hq => sx_lim_cv hρ ha (List.all_eq_true.mp h q hq))
section sxArith
variable {p : Program} {l : Launch} {e : Env} {R : Room} {s : State} {m : MethodId} {args : Array Value} {below : List Frame} {meth : Method} {c : Code} {Q : State → Prop} {D : va_G} {cA : Nat → ClassId} {A : Nat → Prop} {b nL : Nat} {ρ0 : Nat → Int32} {ad0 : Nat → Nat} {n0 m0 : Nat} {cc : ByteArray}
/-- a new variable: its value is x -/
theorem sx_newvar {pc mc ms lo hi : Nat} {L : List (Nat × sx_V)} {st : List sx_V} {w : List sx_E} {iv : sx_Iv} (hlim : sx_limS iv.length w.length L st w = true) (K : sx_Ok p l e R s m args below meth c Q D cA A b nL ρ0 ad0 n0 m0 (pc, L, (.inr (.inl iv.length)) :: st, w, iv ++ [(lo, hi)], mc, ms))
    {ρ : Nat → Int32} {ad : Nat → Nat} {H : Heap} {locs : List Loc} {ls : Array Slot} (x : Int32) (hlo : lo ≤ sx_b x) (hhi : sx_b x ≤ hi) (h1 : sx_ivOk ρ iv) (h2 : ∀ k, k < n0 → ρ k = ρ0 k) (h3 : ∀ k, k < m0 → ad k = ad0 k) (h4 : n0 ≤ iv.length) (h5 : m0 ≤ w.length)
    (hP : va_P D sx_clL (sx_cW ρ ad b cA w) H) (hD : va_D A (sx_cW ρ ad b cA w)) (hS : va_S A s.heap H locs) (hl : lv_has ls nL (sx_cL ρ ad b L)) : W p l e R s m args below meth c H locs mc ms Q (F0 m pc ls (.int x :: st.map (sx_cv ρ ad b))) := by
  simp only [sx_limS, Bool.and_eq_true] at hlim
  obtain ⟨g1, g2, g3⟩ := hlim
  let ρ' : Nat → Int32 := fun j => if j = iv.length then x else ρ j
  have hρ : ∀ k, k < iv.length → ρ k = ρ' k := fun k hk => (if_neg (Nat.ne_of_lt hk)).symm
  have ha : ∀ k, k < w.length → ad k = ad k := fun _ _ => rfl
  have hx : ρ' iv.length = x := if_pos rfl
  rw [sx_cW_lim hρ ha (Nat.le_refl _) g3] at hP hD
  rw [sx_cL_lim hρ ha g1] at hl
  rw [sx_cS_lim hρ ha g2]
  have k := K ρ' ad H locs ls (by
    intro k lo' hi' hk
    by_cases hkl : k < iv.length
    · have hk' : (iv ++ [(lo, hi)])[k]? = some (lo', hi') := hk
      rw [List.getElem?_append_left hkl] at hk'
      rw [← hρ k hkl]
      exact h1 k lo' hi' hk'
    · have hk' : (iv ++ [(lo, hi)])[k]? = some (lo', hi') := hk
      rw [List.getElem?_append_right (by omega)] at hk'
      have hz : k - iv.length < 1 := (List.getElem?_eq_some_iff.mp hk').1
      have hk0 : k = iv.length := by omega
      subst hk0
      rw [Nat.sub_self] at hk'
      cases hk'
      rw [hx]
      exact ⟨hlo, hhi⟩) (fun k hk => by rw [← hρ k (by omega)]; exact h2 k hk) h3 (by show n0 ≤ (iv ++ [(lo, hi)]).length; rw [List.length_append]; omega) h5 hP hD hS hl
  have e : ((.inr (.inl iv.length)) :: st).map (sx_cv ρ' ad b) = .int x :: st.map (sx_cv ρ' ad b) := by
    show Value.int (ρ' iv.length) :: _ = _
    rw [hx]
  rw [← e]
  exact k
theorem sx_full_ok (x : Int32) : sx_full.1 ≤ sx_b x ∧ sx_b x ≤ sx_full.2 := ⟨Nat.zero_le _, Nat.le_of_lt_succ (sx_b_lt x)⟩
theorem sx_fresh_inv {L : List (Nat × sx_V)} {st : List sx_V} {w : List sx_E} {iv : sx_Iv} {q : Nat × Nat} {f : sx_Iv → sx_N} {ss : List sx_S} (h : sx_fresh L st w iv q f = some ss) : sx_limS iv.length w.length L st w = true ∧ f (iv ++ [q]) = some ss := by
  unfold sx_fresh at h
  split at h
  next ho => rw [sx_appk_eq] at h; exact ⟨ho, h⟩
  next => cases h
theorem sx_s_i2b (hx : p.tables.exec = Jvm.exec) (hb : c.code = cc) {σ : sx_S} {ss : List sx_S} (hdg : decode cc σ.1 = .ok (.i2b, 1)) (h : sx_i2b σ = some ss) (K : ∀ τ ∈ ss, sx_Ok p l e R s m args below meth c Q D cA A b nL ρ0 ad0 n0 m0 τ) : sx_Ok p l e R s m args below meth c Q D cA A b nL ρ0 ad0 n0 m0 σ := by
  obtain ⟨pc, L, st, w, iv, mc, ms⟩ := σ
  unfold sx_i2b at h
  split at h
  next pc' L' v st' w' iv' mc' ms' heq =>
    cases heq
    split at h
    next ho =>
      obtain ⟨hlim, h⟩ := sx_fresh_inv h
      cases h
      intro ρ ad H locs ls h1 h2 h3 h4 h5 hP hD hS hl
      show W p l e R s m args below meth c H locs mc ms Q (F0 m pc ls (sx_cv ρ ad b v :: st'.map (sx_cv ρ ad b)))
      rw [sx_cv_int ho]
      exact lv_i2b hx hb hdg rfl (sx_newvar hlim (K _ List.mem_cons_self) _ (sx_full_ok _).1 (sx_full_ok _).2 h1 h2 h3 h4 h5 hP hD hS hl)
    next => cases h
  next => cases h
theorem sx_nm_c {ρ : Nat → Int32} {iv : sx_Iv} (h1 : sx_ivOk ρ iv) {v : sx_V} {n : Nat} (ad : Nat → Nat) (b : Nat) (h : sx_nm iv v = (.inl n)) : sx_cv ρ ad b v = .int (Int32.ofNat n) := by
  rw [← sx_nm_eq h1 v, h]
  rfl
theorem sx_nm_v {ρ : Nat → Int32} {iv : sx_Iv} (h1 : sx_ivOk ρ iv) {v : sx_V} {n : Nat} (ad : Nat → Nat) (b : Nat) (h : sx_nm iv v = (.inr (.inl n))) : sx_cv ρ ad b v = .int (ρ n) := by
  rw [← sx_nm_eq h1 v, h]
  rfl
theorem sx_s_bin {o : Nat} {op : Int32 → Int32 → Int32} {ok : Int32 → Int32 → Prop} {σ : sx_S} {ss : List sx_S}
    (hrow : ∀ (H : Heap) (locs : List Loc) (mc ms : Nat) (ls : Array Slot) (rest : List Value) (x y : Int32), ok x y → W p l e R s m args below meth c H locs mc ms Q (F0 m (σ.1 + 1) ls (.int (op x y) :: rest)) → W p l e R s m args below meth c H locs mc ms Q (F0 m σ.1 ls (.int y :: .int x :: rest)))
    (hcc : ∀ x y n, sx_bin o x y = some n → ok (Int32.ofNat x) (Int32.ofNat y) ∧ op (Int32.ofNat x) (Int32.ofNat y) = Int32.ofNat n)
    (h0 : o = 0 → ∀ x y, op x y = x + y) (h1' : o = 1 → ∀ x y, op x y = x - y) (h3' : o = 3 → ∀ x y, op x y = x &&& y) (hok : o ≠ 7 → ∀ x y, ok x y)
    (h : sx_binop σ o = some ss) (K : ∀ τ ∈ ss, sx_Ok p l e R s m args below meth c Q D cA A b nL ρ0 ad0 n0 m0 τ) : sx_Ok p l e R s m args below meth c Q D cA A b nL ρ0 ad0 n0 m0 σ := by
  obtain ⟨pc, L, st, w, iv, mc, ms⟩ := σ
  unfold sx_binop at h
  split at h
  next pc' L' y x st' w' iv' mc' ms' heq =>
    cases heq
    intro ρ ad H locs ls h1 h2 h3 h4 h5 hP hD hS hl
    show W p l e R s m args below meth c H locs mc ms Q (F0 m pc ls (sx_cv ρ ad b y :: sx_cv ρ ad b x :: st'.map (sx_cv ρ ad b)))
    split at h
    next a b' ha hb' =>
      rw [sx_nm_c h1 ad b ha, sx_nm_c h1 ad b hb']
      split at h
      next n hn =>
        cases h
        obtain ⟨g1, g2⟩ := hcc _ _ _ hn
        refine hrow H locs mc ms ls _ _ _ g1 ?_
        rw [g2]
        exact K _ List.mem_cons_self ρ ad H locs ls h1 h2 h3 h4 h5 hP hD hS hl
      next => cases h
    next a k ha hk =>
      rw [sx_nm_c h1 ad b ha, sx_nm_v h1 ad b hk]
      split at h
      next hz =>
        cases h
        refine hrow H locs mc ms ls _ _ _ (hok (by decide) _ _) ?_
        rw [h0 rfl, sx_zeroAdd _ _ (Nat.eq_of_beq_eq_true hz)]
        exact K _ List.mem_cons_self ρ ad H locs ls h1 h2 h3 h4 h5 hP hD hS hl
      next => cases h
    next k b' hk hb' =>
      rw [sx_nm_v h1 ad b hk, sx_nm_c h1 ad b hb']
      split at h
      next =>
        split at h
        next hz =>
          cases h
          refine hrow H locs mc ms ls _ _ _ (hok (by decide) _ _) ?_
          rw [h0 rfl, sx_addZero _ _ (Nat.eq_of_beq_eq_true hz)]
          exact K _ List.mem_cons_self ρ ad H locs ls h1 h2 h3 h4 h5 hP hD hS hl
        next =>
          obtain ⟨hlim, h⟩ := sx_fresh_inv h
          cases h
          exact hrow H locs mc ms ls _ _ _ (hok (by decide) _ _) (sx_newvar hlim (K _ List.mem_cons_self) _ (sx_full_ok _).1 (sx_full_ok _).2 h1 h2 h3 h4 h5 hP hD hS hl)
      next =>
        split at h
        next lo hi hlh =>
          split at h
          next hz =>
            obtain ⟨hlim, h⟩ := sx_fresh_inv h
            cases h
            rw [sx_nth_eq] at hlh
            have g := h1 k lo hi hlh
            simp only [Bool.and_eq_true] at hz
            have z1 : b' < 2147483648 := Nat.le_of_ble_eq_true hz.1
            have z2 : b' ≤ lo := Nat.le_of_ble_eq_true hz.2
            have e := sx_b_sub (ρ k) z1 (by omega)
            exact hrow H locs mc ms ls _ _ _ (hok (by decide) _ _) (sx_newvar hlim (K _ List.mem_cons_self) _ (by rw [h1' rfl, e]; omega) (by rw [h1' rfl, e]; omega) h1 h2 h3 h4 h5 hP hD hS hl)
          next => cases h
        next => cases h
      next =>
        split at h
        next hz =>
          obtain ⟨hlim, h⟩ := sx_fresh_inv h
          cases h
          have z1 : b' < 2147483648 := Nat.le_of_ble_eq_true hz
          have e := sx_b_and (ρ k) z1
          exact hrow H locs mc ms ls _ _ _ (hok (by decide) _ _) (sx_newvar hlim (K _ List.mem_cons_self) _ (by rw [h3' rfl]; exact e.1) (by rw [h3' rfl]; exact e.2) h1 h2 h3 h4 h5 hP hD hS hl)
        next => cases h
      next =>
        obtain ⟨hlim, h⟩ := sx_fresh_inv h
        cases h
        exact hrow H locs mc ms ls _ _ _ (hok (by decide) _ _) (sx_newvar hlim (K _ List.mem_cons_self) _ (sx_full_ok _).1 (sx_full_ok _).2 h1 h2 h3 h4 h5 hP hD hS hl)
      next =>
        obtain ⟨hlim, h⟩ := sx_fresh_inv h
        cases h
        exact hrow H locs mc ms ls _ _ _ (hok (by decide) _ _) (sx_newvar hlim (K _ List.mem_cons_self) _ (sx_full_ok _).1 (sx_full_ok _).2 h1 h2 h3 h4 h5 hP hD hS hl)
      next => cases h
    next => cases h
  next => cases h
end sxArith
end
section
/-! the int operations one by one -/
section sxOps
variable {p : Program} {l : Launch} {e : Env} {R : Room} {s : State} {m : MethodId} {args : Array Value} {below : List Frame} {meth : Method} {c : Code} {Q : State → Prop} {D : va_G} {cA : Nat → ClassId} {A : Nat → Prop} {b nL : Nat} {ρ0 : Nat → Int32} {ad0 : Nat → Nat} {n0 m0 : Nat} {cc : ByteArray}
theorem sx_s_iadd (hx : p.tables.exec = Jvm.exec) (hb : c.code = cc) {σ : sx_S} {ss : List sx_S} (hdg : decode cc σ.1 = .ok (.iadd, 1)) (h : sx_binop σ 0 = some ss) (K : ∀ τ ∈ ss, sx_Ok p l e R s m args below meth c Q D cA A b nL ρ0 ad0 n0 m0 τ) : sx_Ok p l e R s m args below meth c Q D cA A b nL ρ0 ad0 n0 m0 σ :=
  sx_s_bin (op := fun x y => x + y) (ok := fun _ _ => True) (fun H locs mc ms ls rest x y _ k => lv_iadd hx hb hdg k) (fun x y n h => by cases h; exact ⟨trivial, sx_add x y⟩) (fun _ _ _ => rfl) (fun h => by cases h) (fun h => by cases h) (fun _ _ _ => trivial) h K
theorem sx_s_isub (hx : p.tables.exec = Jvm.exec) (hb : c.code = cc) {σ : sx_S} {ss : List sx_S} (hdg : decode cc σ.1 = .ok (.isub, 1)) (h : sx_binop σ 1 = some ss) (K : ∀ τ ∈ ss, sx_Ok p l e R s m args below meth c Q D cA A b nL ρ0 ad0 n0 m0 τ) : sx_Ok p l e R s m args below meth c Q D cA A b nL ρ0 ad0 n0 m0 σ :=
  sx_s_bin (op := fun x y => x - y) (ok := fun _ _ => True) (fun H locs mc ms ls rest x y _ k => lv_isub hx hb hdg k) (fun x y n h => by cases h; exact ⟨trivial, sx_sub x y⟩) (fun h => by cases h) (fun _ _ _ => rfl) (fun h => by cases h) (fun _ _ _ => trivial) h K
theorem sx_s_imul (hx : p.tables.exec = Jvm.exec) (hb : c.code = cc) {σ : sx_S} {ss : List sx_S} (hdg : decode cc σ.1 = .ok (.imul, 1)) (h : sx_binop σ 2 = some ss) (K : ∀ τ ∈ ss, sx_Ok p l e R s m args below meth c Q D cA A b nL ρ0 ad0 n0 m0 τ) : sx_Ok p l e R s m args below meth c Q D cA A b nL ρ0 ad0 n0 m0 σ :=
  sx_s_bin (op := fun x y => x * y) (ok := fun _ _ => True) (fun H locs mc ms ls rest x y _ k => lv_imul hx hb hdg k) (fun x y n h => by cases h; exact ⟨trivial, sx_mul x y⟩) (fun h => by cases h) (fun h => by cases h) (fun h => by cases h) (fun _ _ _ => trivial) h K
theorem sx_s_iand (hx : p.tables.exec = Jvm.exec) (hb : c.code = cc) {σ : sx_S} {ss : List sx_S} (hdg : decode cc σ.1 = .ok (.iand, 1)) (h : sx_binop σ 3 = some ss) (K : ∀ τ ∈ ss, sx_Ok p l e R s m args below meth c Q D cA A b nL ρ0 ad0 n0 m0 τ) : sx_Ok p l e R s m args below meth c Q D cA A b nL ρ0 ad0 n0 m0 σ :=
  sx_s_bin (op := fun x y => x &&& y) (ok := fun _ _ => True) (fun H locs mc ms ls rest x y _ k => lv_iand hx hb hdg k) (fun x y n h => by cases h; exact ⟨trivial, sx_and x y⟩) (fun h => by cases h) (fun h => by cases h) (fun _ _ _ => rfl) (fun _ _ _ => trivial) h K
theorem sx_s_ishl (hx : p.tables.exec = Jvm.exec) (hb : c.code = cc) {σ : sx_S} {ss : List sx_S} (hdg : decode cc σ.1 = .ok (.ishl, 1)) (h : sx_binop σ 4 = some ss) (K : ∀ τ ∈ ss, sx_Ok p l e R s m args below meth c Q D cA A b nL ρ0 ad0 n0 m0 τ) : sx_Ok p l e R s m args below meth c Q D cA A b nL ρ0 ad0 n0 m0 σ :=
  sx_s_bin (op := fun x y => x <<< (y &&& 31)) (ok := fun _ _ => True) (fun H locs mc ms ls rest x y _ k => lv_ishl hx hb hdg k) (fun x y n h => by
    simp only [sx_bin] at h
    split at h
    next hy =>
      cases h
      rw [Nat.eq_of_beq_eq_true hy]
      refine ⟨trivial, ?_⟩
      have e : (Int32.ofNat 0 &&& 31) = 0 := by decide
      simp only [e]
      exact Int32.shiftLeft_zero
    next => cases h) (fun h => by cases h) (fun h => by cases h) (fun h => by cases h) (fun _ _ _ => trivial) h K
theorem sx_s_ishr (hx : p.tables.exec = Jvm.exec) (hb : c.code = cc) {σ : sx_S} {ss : List sx_S} (hdg : decode cc σ.1 = .ok (.ishr, 1)) (h : sx_binop σ 5 = some ss) (K : ∀ τ ∈ ss, sx_Ok p l e R s m args below meth c Q D cA A b nL ρ0 ad0 n0 m0 τ) : sx_Ok p l e R s m args below meth c Q D cA A b nL ρ0 ad0 n0 m0 σ :=
  sx_s_bin (op := fun x y => x >>> (y &&& 31)) (ok := fun _ _ => True) (fun H locs mc ms ls rest x y _ k => lv_ishr hx hb hdg k) (fun x y n h => by cases h) (fun h => by cases h) (fun h => by cases h) (fun h => by cases h) (fun _ _ _ => trivial) h K
theorem sx_s_iushr (hx : p.tables.exec = Jvm.exec) (hb : c.code = cc) {σ : sx_S} {ss : List sx_S} (hdg : decode cc σ.1 = .ok (.iushr, 1)) (h : sx_binop σ 6 = some ss) (K : ∀ τ ∈ ss, sx_Ok p l e R s m args below meth c Q D cA A b nL ρ0 ad0 n0 m0 τ) : sx_Ok p l e R s m args below meth c Q D cA A b nL ρ0 ad0 n0 m0 σ :=
  sx_s_bin (op := fun x y => (x.toUInt32 >>> (y.toUInt32 &&& Int32.toUInt32 31)).toInt32) (ok := fun _ _ => True) (fun H locs mc ms ls rest x y _ k => lv_iushr hx hb hdg rfl k) (fun x y n h => by
    simp only [sx_bin] at h
    split at h
    next hy =>
      cases h
      rw [Nat.eq_of_beq_eq_true hy]
      refine ⟨trivial, ?_⟩
      have e : (Int32.ofNat 0).toUInt32 = 0 := by decide
      simp only [e, UInt32.zero_shiftRight]
      decide
    next => cases h) (fun h => by cases h) (fun h => by cases h) (fun h => by cases h) (fun _ _ _ => trivial) h K
theorem sx_s_irem (hx : p.tables.exec = Jvm.exec) (hb : c.code = cc) {σ : sx_S} {ss : List sx_S} (hdg : decode cc σ.1 = .ok (.irem, 1)) (h : sx_binop σ 7 = some ss) (K : ∀ τ ∈ ss, sx_Ok p l e R s m args below meth c Q D cA A b nL ρ0 ad0 n0 m0 τ) : sx_Ok p l e R s m args below meth c Q D cA A b nL ρ0 ad0 n0 m0 σ :=
  sx_s_bin (op := fun x y => x - x / y * y) (ok := fun _ y => ¬ y = 0) (fun H locs mc ms ls rest x y hne k => lv_irem hx hb hdg hne k) (fun x y n h => by
    simp only [sx_bin] at h
    split at h
    next hy =>
      cases h
      simp only [Bool.and_eq_true] at hy
      have z1 : x < 2147483648 := Nat.le_of_ble_eq_true hy.1.1
      have z2 : y < 2147483648 := Nat.le_of_ble_eq_true hy.1.2
      have z3 : 0 < y := Nat.le_of_ble_eq_true hy.2
      exact ⟨nI_ne0 z3 z2, pk_rem z1 z3 z2⟩
    next => cases h) (fun h => by cases h) (fun h => by cases h) (fun h => by cases h) (fun h => absurd rfl h) h K
end sxOps
end
section
/-! comparisons -/
theorem sx_bltT {a b : Nat} (h : a < b) : Nat.blt a b = true := Nat.ble_eq_true_of_le h
theorem sx_bltF {a b : Nat} (h : b ≤ a) : Nat.blt a b = false := by
  cases hb : Nat.blt a b with
  | false => rfl
  | true => exact absurd (Nat.le_of_ble_eq_true hb) (by omega)
theorem sx_bleT {a b : Nat} (h : a ≤ b) : Nat.ble a b = true := Nat.ble_eq_true_of_le h
theorem sx_bleF {a b : Nat} (h : b < a) : Nat.ble a b = false := by
  cases hb : Nat.ble a b with
  | false => rfl
  | true => exact absurd (Nat.le_of_ble_eq_true hb) (by omega)
theorem sx_beqT {a b : Nat} (h : a = b) : Nat.beq a b = true := by rw [h]; exact Nat.beq_refl b
theorem sx_beqF {a b : Nat} (h : a ≠ b) : Nat.beq a b = false := by
  cases hb : Nat.beq a b with
  | false => rfl
  | true => exact absurd (Nat.eq_of_beq_eq_true hb) h
theorem sx_minI {x a b : Nat} (h1 : x ≤ a) (h2 : x ≤ b) : x ≤ Nat.min a b := Nat.le_min.mpr ⟨h1, h2⟩
theorem sx_maxI {x a b : Nat} (h1 : a ≤ x) (h2 : b ≤ x) : Nat.max a b ≤ x := Nat.max_le.mpr ⟨h1, h2⟩
theorem sx_parts_ok (o : ClassFile.Cond) {lo hi n x : Nat} (h1 : lo ≤ x) (h2 : x ≤ hi) : ∃ q ∈ sx_parts o lo hi n, q.1 ≤ x ∧ x ≤ q.2.1 ∧ sx_tru o x n = q.2.2 := by
  cases o with
  | lt =>
    by_cases h : x < n
    · exact ⟨_, List.mem_cons_self, h1, sx_minI h2 (by omega), (sx_bltT h).trans (sx_bltT (by omega)).symm⟩
    · exact ⟨_, List.mem_cons_of_mem _ List.mem_cons_self, sx_maxI h1 (by omega), h2, sx_bltF (by omega)⟩
  | ge =>
    by_cases h : x < n
    · exact ⟨_, List.mem_cons_self, h1, sx_minI h2 (by omega), (sx_bleF h).trans (by show false = !(Nat.blt 0 n); rw [sx_bltT (show 0 < n by omega)]; rfl)⟩
    · exact ⟨_, List.mem_cons_of_mem _ List.mem_cons_self, sx_maxI h1 (by omega), h2, sx_bleT (by omega)⟩
  | le =>
    by_cases h : x ≤ n
    · exact ⟨_, List.mem_cons_self, h1, sx_minI h2 h, sx_bleT h⟩
    · exact ⟨_, List.mem_cons_of_mem _ List.mem_cons_self, sx_maxI h1 (by omega), h2, sx_bleF (by omega)⟩
  | gt =>
    by_cases h : x ≤ n
    · exact ⟨_, List.mem_cons_self, h1, sx_minI h2 h, sx_bltF h⟩
    · exact ⟨_, List.mem_cons_of_mem _ List.mem_cons_self, sx_maxI h1 (by omega), h2, sx_bltT (by omega)⟩
  | eq =>
    by_cases h : x < n
    · exact ⟨_, List.mem_cons_self, h1, sx_minI h2 (by omega), (sx_beqF (by omega)).trans (by show false = !(Nat.blt 0 n); rw [sx_bltT (show 0 < n by omega)]; rfl)⟩
    · by_cases h' : x = n
      · exact ⟨_, List.mem_cons_of_mem _ List.mem_cons_self, sx_maxI h1 (by omega), sx_minI h2 (by omega), sx_beqT h'⟩
      · exact ⟨_, List.mem_cons_of_mem _ (List.mem_cons_of_mem _ List.mem_cons_self), sx_maxI h1 (by omega), h2, sx_beqF h'⟩
  | ne =>
    by_cases h : x < n
    · exact ⟨_, List.mem_cons_self, h1, sx_minI h2 (by omega), (by show (!(Nat.beq x n)) = Nat.blt 0 n; rw [sx_bltT (show 0 < n by omega), sx_beqF (by omega)]; rfl)⟩
    · by_cases h' : x = n
      · exact ⟨_, List.mem_cons_of_mem _ List.mem_cons_self, sx_maxI h1 (by omega), sx_minI h2 (by omega), by show (!(Nat.beq x n)) = false; rw [sx_beqT h']; rfl⟩
      · exact ⟨_, List.mem_cons_of_mem _ (List.mem_cons_of_mem _ List.mem_cons_self), sx_maxI h1 (by omega), h2, by show (!(Nat.beq x n)) = true; rw [sx_beqF h']; rfl⟩
theorem sx_tru_flip (o : ClassFile.Cond) (x y : Nat) : sx_tru (sx_flip o) y x = sx_tru o x y := by
  cases o with
  | eq => show Nat.beq y x = Nat.beq x y; rw [← sx_beq, ← sx_beq]; exact BEq.comm
  | ne => show (!(Nat.beq y x)) = !(Nat.beq x y); rw [← sx_beq, ← sx_beq, BEq.comm]
  | lt => rfl
  | ge => rfl
  | gt => rfl
  | le => rfl
theorem sx_fork_mem {σ : sx_S} {k t f : Nat} {q : Nat × Nat × Bool} (hq : q.1 ≤ q.2.1) : ∀ {ps : List (Nat × Nat × Bool)}, q ∈ ps → sx_nar σ k (sx_pick q.2.2 t f) q.1 q.2.1 ∈ sx_fork σ k t f ps
  | [], h => by cases h
  | (lo, hi, b) :: l, h => by
    unfold sx_fork
    rcases List.mem_cons.mp h with rfl | h
    · rw [show Nat.ble lo hi = true from sx_bleT hq]
      exact List.mem_cons_self
    · split
      · exact List.mem_cons_of_mem _ (sx_fork_mem hq h)
      · exact sx_fork_mem hq h
section sxBranch
variable {p : Program} {l : Launch} {e : Env} {R : Room} {s : State} {m : MethodId} {args : Array Value} {below : List Frame} {meth : Method} {c : Code} {Q : State → Prop} {D : va_G} {cA : Nat → ClassId} {A : Nat → Prop} {b nL : Nat} {ρ0 : Nat → Int32} {ad0 : Nat → Nat} {n0 m0 : Nat} {cc : ByteArray}
/-- a variable narrowed to an interval in which it lies -/
theorem sx_narrow {pc0 pc mc ms k lo hi : Nat} {L : List (Nat × sx_V)} {st : List sx_V} {w : List sx_E} {iv : sx_Iv} (K : sx_Ok p l e R s m args below meth c Q D cA A b nL ρ0 ad0 n0 m0 (sx_nar (pc0, L, st, w, iv, mc, ms) k pc lo hi))
    {ρ : Nat → Int32} {ad : Nat → Nat} {H : Heap} {locs : List Loc} {ls : Array Slot} (hlo : lo ≤ sx_b (ρ k)) (hhi : sx_b (ρ k) ≤ hi) (h1 : sx_ivOk ρ iv) (h2 : ∀ k, k < n0 → ρ k = ρ0 k) (h3 : ∀ k, k < m0 → ad k = ad0 k) (h4 : n0 ≤ iv.length) (h5 : m0 ≤ w.length)
    (hP : va_P D sx_clL (sx_cW ρ ad b cA w) H) (hD : va_D A (sx_cW ρ ad b cA w)) (hS : va_S A s.heap H locs) (hl : lv_has ls nL (sx_cL ρ ad b L)) : W p l e R s m args below meth c H locs mc ms Q (F0 m pc ls (st.map (sx_cv ρ ad b))) := by
  simp only [sx_nar, sx_setk_eq] at K
  refine K ρ ad H locs ls (fun j lo' hi' hj => ?_) h2 h3 (by show n0 ≤ (iv.set k (lo, hi)).length; rw [List.length_set]; exact h4) h5 hP hD hS hl
  have hj' : (iv.set k (lo, hi))[j]? = some (lo', hi') := hj
  by_cases hk : k = j
  · subst hk
    rw [List.getElem?_set_self'] at hj'
    cases hv : iv[k]? with
    | none => rw [hv] at hj'; cases hj'
    | some q =>
      rw [hv] at hj'
      cases hj'
      exact ⟨hlo, hhi⟩
  · rw [List.getElem?_set_ne hk] at hj'
    exact h1 j lo' hi' hj'
/-- a comparison of two values: where it goes -/
theorem sx_s_cmpG {o : ClassFile.Cond} {pc mc ms t f : Nat} {L : List (Nat × sx_V)} {st : List sx_V} {w : List sx_E} {iv : sx_Iv} {u v : sx_V} {ss : List sx_S} (h : sx_cmp (pc, L, st, w, iv, mc, ms) iv o (sx_nm iv u) (sx_nm iv v) t f = some ss) (K : ∀ τ ∈ ss, sx_Ok p l e R s m args below meth c Q D cA A b nL ρ0 ad0 n0 m0 τ)
    {ρ : Nat → Int32} {ad : Nat → Nat} {H : Heap} {locs : List Loc} {ls : Array Slot} (h1 : sx_ivOk ρ iv) (h2 : ∀ k, k < n0 → ρ k = ρ0 k) (h3 : ∀ k, k < m0 → ad k = ad0 k) (h4 : n0 ≤ iv.length) (h5 : m0 ≤ w.length)
    (hP : va_P D sx_clL (sx_cW ρ ad b cA w) H) (hD : va_D A (sx_cW ρ ad b cA w)) (hS : va_S A s.heap H locs) (hl : lv_has ls nL (sx_cL ρ ad b L)) :
    ∃ x y : Int32, sx_cv ρ ad b u = .int x ∧ sx_cv ρ ad b v = .int y ∧ W p l e R s m args below meth c H locs mc ms Q (F0 m (sx_pick (sx_tru o (sx_b x) (sx_b y)) t f) ls (st.map (sx_cv ρ ad b))) := by
  unfold sx_cmp at h
  split at h
  next x y ha hb =>
    cases h
    refine ⟨_, _, sx_nm_c h1 ad b ha, sx_nm_c h1 ad b hb, ?_⟩
    rw [sx_b_of, sx_b_of]
    exact K _ List.mem_cons_self ρ ad H locs ls h1 h2 h3 h4 h5 hP hD hS hl
  next k y ha hb =>
    split at h
    next lo hi hk =>
      cases h
      rw [sx_nth_eq] at hk
      refine ⟨_, _, sx_nm_v h1 ad b ha, sx_nm_c h1 ad b hb, ?_⟩
      rw [sx_b_of]
      obtain ⟨q, hq, g1, g2, g3⟩ := sx_parts_ok o (n := sx_bias y) (h1 k lo hi hk).1 (h1 k lo hi hk).2
      rw [g3]
      exact sx_narrow (K _ (sx_fork_mem (by omega) hq)) g1 g2 h1 h2 h3 h4 h5 hP hD hS hl
    next => cases h
  next x k ha hb =>
    split at h
    next lo hi hk =>
      cases h
      rw [sx_nth_eq] at hk
      refine ⟨_, _, sx_nm_c h1 ad b ha, sx_nm_v h1 ad b hb, ?_⟩
      rw [sx_b_of]
      obtain ⟨q, hq, g1, g2, g3⟩ := sx_parts_ok (sx_flip o) (n := sx_bias x) (h1 k lo hi hk).1 (h1 k lo hi hk).2
      rw [sx_tru_flip] at g3
      rw [g3]
      exact sx_narrow (K _ (sx_fork_mem (by omega) hq)) g1 g2 h1 h2 h3 h4 h5 hP hD hS hl
    next => cases h
  next j k ha hb =>
    refine ⟨_, _, sx_nm_v h1 ad b ha, sx_nm_v h1 ad b hb, ?_⟩
    split at h
    next hjk =>
      cases h
      rw [Nat.eq_of_beq_eq_true hjk]
      have e : ∀ n : Nat, sx_tru o n n = sx_tru o 0 0 := by
        intro n
        cases o with
        | eq => exact (sx_beqT rfl).trans (sx_beqT rfl).symm
        | ne => show (!(Nat.beq n n)) = !(Nat.beq 0 0); rw [sx_beqT rfl]; rfl
        | lt => exact (sx_bltF (Nat.le_refl _)).trans (sx_bltF (Nat.le_refl _)).symm
        | ge => exact (sx_bleT (Nat.le_refl _)).trans (sx_bleT (Nat.le_refl _)).symm
        | gt => exact (sx_bltF (Nat.le_refl _)).trans (sx_bltF (Nat.le_refl _)).symm
        | le => exact (sx_bleT (Nat.le_refl _)).trans (sx_bleT (Nat.le_refl _)).symm
      rw [e]
      exact K _ List.mem_cons_self ρ ad H locs ls h1 h2 h3 h4 h5 hP hD hS hl
    next =>
      cases h
      cases sx_tru o (sx_b (ρ j)) (sx_b (ρ k)) with
      | true => exact K _ List.mem_cons_self ρ ad H locs ls h1 h2 h3 h4 h5 hP hD hS hl
      | false => exact K _ (List.mem_cons_of_mem _ List.mem_cons_self) ρ ad H locs ls h1 h2 h3 h4 h5 hP hD hS hl
  next => cases h
/-- the machine's comparison, by the executor's truth -/
theorem sx_icmp (hx : p.tables.exec = Jvm.exec) (hb : c.code = cc) {H : Heap} {locs : List Loc} {mc ms pc t : Nat} {ls : Array Slot} {rest : List Value} {x y : Int32} {off : Int} (o : ClassFile.Cond) (hdg : decode cc pc = .ok (.if_icmp o off, 3)) (ht : (pc : Int) + off = (t : Int)) (k : W p l e R s m args below meth c H locs mc ms Q (F0 m (sx_pick (sx_tru o (sx_b x) (sx_b y)) t (pc + 3)) ls rest)) : W p l e R s m args below meth c H locs mc ms Q (F0 m pc ls (.int y :: .int x :: rest)) := by
  cases o with
  | eq => exact lv_icmp_eq hx hb hdg ht (fun h => by rw [show sx_tru .eq (sx_b x) (sx_b y) = true from sx_beqT ((sx_i_eq x y).mp h)] at k; exact k) (fun h => by rw [show sx_tru .eq (sx_b x) (sx_b y) = false from sx_beqF (fun q => h ((sx_i_eq x y).mpr q))] at k; exact k)
  | ne => exact lv_icmp_ne hx hb hdg ht (fun h => by rw [show sx_tru .ne (sx_b x) (sx_b y) = true from (by show (!(Nat.beq _ _)) = true; rw [sx_beqF (fun q => h ((sx_i_eq x y).mpr q))]; rfl)] at k; exact k) (fun h => by rw [show sx_tru .ne (sx_b x) (sx_b y) = false from (by show (!(Nat.beq _ _)) = false; rw [sx_beqT ((sx_i_eq x y).mp h)]; rfl)] at k; exact k)
  | lt => exact lv_icmp_lt hx hb hdg ht (fun h => by rw [show sx_tru .lt (sx_b x) (sx_b y) = true from sx_bltT ((sx_i_lt x y).mp h)] at k; exact k) (fun h => by rw [show sx_tru .lt (sx_b x) (sx_b y) = false from sx_bltF (Nat.not_lt.mp (fun q => h ((sx_i_lt x y).mpr q)))] at k; exact k)
  | ge => exact lv_icmp_ge hx hb hdg ht (fun h => by rw [show sx_tru .ge (sx_b x) (sx_b y) = true from sx_bleT ((sx_i_le y x).mp h)] at k; exact k) (fun h => by rw [show sx_tru .ge (sx_b x) (sx_b y) = false from sx_bleF (Nat.not_le.mp (fun q => h ((sx_i_le y x).mpr q)))] at k; exact k)
  | gt => exact lv_icmp_gt hx hb hdg ht (fun h => by rw [show sx_tru .gt (sx_b x) (sx_b y) = true from sx_bltT ((sx_i_lt y x).mp h)] at k; exact k) (fun h => by rw [show sx_tru .gt (sx_b x) (sx_b y) = false from sx_bltF (Nat.not_lt.mp (fun q => h ((sx_i_lt y x).mpr q)))] at k; exact k)
  | le => exact lv_icmp_le hx hb hdg ht (fun h => by rw [show sx_tru .le (sx_b x) (sx_b y) = true from sx_bleT ((sx_i_le x y).mp h)] at k; exact k) (fun h => by rw [show sx_tru .le (sx_b x) (sx_b y) = false from sx_bleF (Nat.not_le.mp (fun q => h ((sx_i_le x y).mpr q)))] at k; exact k)
theorem sx_if0 (hx : p.tables.exec = Jvm.exec) (hb : c.code = cc) {H : Heap} {locs : List Loc} {mc ms pc t : Nat} {ls : Array Slot} {rest : List Value} {x : Int32} {off : Int} (o : ClassFile.Cond) (hdg : decode cc pc = .ok (.ifCond o off, 3)) (ht : (pc : Int) + off = (t : Int)) (k : W p l e R s m args below meth c H locs mc ms Q (F0 m (sx_pick (sx_tru o (sx_b x) (sx_b 0)) t (pc + 3)) ls rest)) : W p l e R s m args below meth c H locs mc ms Q (F0 m pc ls (.int x :: rest)) := by
  cases o with
  | eq => exact lv_if_eq hx hb hdg ht (fun h => by rw [show sx_tru .eq (sx_b x) (sx_b 0) = true from sx_beqT ((sx_i_eq x 0).mp h)] at k; exact k) (fun h => by rw [show sx_tru .eq (sx_b x) (sx_b 0) = false from sx_beqF (fun q => h ((sx_i_eq x 0).mpr q))] at k; exact k)
  | ne => exact lv_if_ne hx hb hdg ht (fun h => by rw [show sx_tru .ne (sx_b x) (sx_b 0) = true from (by show (!(Nat.beq _ _)) = true; rw [sx_beqF (fun q => h ((sx_i_eq x 0).mpr q))]; rfl)] at k; exact k) (fun h => by rw [show sx_tru .ne (sx_b x) (sx_b 0) = false from (by show (!(Nat.beq _ _)) = false; rw [sx_beqT ((sx_i_eq x 0).mp h)]; rfl)] at k; exact k)
  | lt => exact lv_if_lt hx hb hdg ht (fun h => by rw [show sx_tru .lt (sx_b x) (sx_b 0) = true from sx_bltT ((sx_i_lt x 0).mp h)] at k; exact k) (fun h => by rw [show sx_tru .lt (sx_b x) (sx_b 0) = false from sx_bltF (Nat.not_lt.mp (fun q => h ((sx_i_lt x 0).mpr q)))] at k; exact k)
  | ge => exact lv_if_ge hx hb hdg ht (fun h => by rw [show sx_tru .ge (sx_b x) (sx_b 0) = true from sx_bleT ((sx_i_le 0 x).mp h)] at k; exact k) (fun h => by rw [show sx_tru .ge (sx_b x) (sx_b 0) = false from sx_bleF (Nat.not_le.mp (fun q => h ((sx_i_le 0 x).mpr q)))] at k; exact k)
  | gt => exact lv_if_gt hx hb hdg ht (fun h => by rw [show sx_tru .gt (sx_b x) (sx_b 0) = true from sx_bltT ((sx_i_lt 0 x).mp h)] at k; exact k) (fun h => by rw [show sx_tru .gt (sx_b x) (sx_b 0) = false from sx_bltF (Nat.not_lt.mp (fun q => h ((sx_i_lt 0 x).mpr q)))] at k; exact k)
  | le => exact lv_if_le hx hb hdg ht (fun h => by rw [show sx_tru .le (sx_b x) (sx_b 0) = true from sx_bleT ((sx_i_le x 0).mp h)] at k; exact k) (fun h => by rw [show sx_tru .le (sx_b x) (sx_b 0) = false from sx_bleF (Nat.not_le.mp (fun q => h ((sx_i_le x 0).mpr q)))] at k; exact k)
theorem sx_s_jmp (hx : p.tables.exec = Jvm.exec) (hb : c.code = cc) {σ : sx_S} {o : ClassFile.Cond} {off : Int} {t : Nat} {ss : List sx_S} (hdg : decode cc σ.1 = .ok (.if_icmp o off, 3)) (ht : (σ.1 : Int) + off = (t : Int)) (h : sx_jmp σ o t = some ss) (K : ∀ τ ∈ ss, sx_Ok p l e R s m args below meth c Q D cA A b nL ρ0 ad0 n0 m0 τ) : sx_Ok p l e R s m args below meth c Q D cA A b nL ρ0 ad0 n0 m0 σ := by
  obtain ⟨pc, L, st, w, iv, mc, ms⟩ := σ
  unfold sx_jmp at h
  split at h
  next pc' L' y x st' w' iv' mc' ms' heq =>
    cases heq
    intro ρ ad H locs ls h1 h2 h3 h4 h5 hP hD hS hl
    obtain ⟨x', y', e1, e2, k⟩ := sx_s_cmpG h K h1 h2 h3 h4 h5 hP hD hS hl
    show W p l e R s m args below meth c H locs mc ms Q (F0 m pc ls (sx_cv ρ ad b y :: sx_cv ρ ad b x :: st'.map (sx_cv ρ ad b)))
    rw [e1, e2]
    exact sx_icmp hx hb o hdg ht k
  next => cases h
theorem sx_s_jmp0 (hx : p.tables.exec = Jvm.exec) (hb : c.code = cc) {σ : sx_S} {o : ClassFile.Cond} {off : Int} {t : Nat} {ss : List sx_S} (hdg : decode cc σ.1 = .ok (.ifCond o off, 3)) (ht : (σ.1 : Int) + off = (t : Int)) (h : sx_jmp0 σ o t = some ss) (K : ∀ τ ∈ ss, sx_Ok p l e R s m args below meth c Q D cA A b nL ρ0 ad0 n0 m0 τ) : sx_Ok p l e R s m args below meth c Q D cA A b nL ρ0 ad0 n0 m0 σ := by
  obtain ⟨pc, L, st, w, iv, mc, ms⟩ := σ
  unfold sx_jmp0 at h
  split at h
  next pc' L' x st' w' iv' mc' ms' heq =>
    cases heq
    intro ρ ad H locs ls h1 h2 h3 h4 h5 hP hD hS hl
    obtain ⟨x', y', e1, e2, k⟩ := sx_s_cmpG (v := (.inl 0)) h K h1 h2 h3 h4 h5 hP hD hS hl
    cases e2
    show W p l e R s m args below meth c H locs mc ms Q (F0 m pc ls (sx_cv ρ ad b x :: st'.map (sx_cv ρ ad b)))
    rw [e1]
    exact sx_if0 hx hb o hdg ht k
  next => cases h
end sxBranch
end
section
/-! switches -/
theorem sx_swc_no {x d : Nat} : ∀ {l : List (Nat × Nat)}, (∀ q ∈ l, q.1 ≠ x) → sx_swc x d l = d
  | [], _ => rfl
  | (n, t) :: l, h => by
    unfold sx_swc
    rw [sx_beqF (h (n, t) List.mem_cons_self)]
    exact sx_swc_no (fun q hq => h q (List.mem_cons_of_mem _ hq))
theorem sx_sw_ok {σ : sx_S} {k d x hi : Nat} (h2 : x ≤ hi) : ∀ {l : List (Nat × Nat)} {lo : Nat}, l.Pairwise (fun a b => a.1 < b.1) → lo ≤ x → ∃ lo' hi', lo' ≤ x ∧ x ≤ hi' ∧ sx_nar σ k (sx_swc x d l) lo' hi' ∈ sx_sw σ k d lo hi l
  | [], lo, _, h1 => by
    unfold sx_sw
    rw [sx_bleT (show lo ≤ hi by omega)]
    exact ⟨lo, hi, h1, h2, List.mem_cons_self⟩
  | (n, t) :: l, lo, hp, h1 => by
    have hp' := List.pairwise_cons.mp hp
    by_cases hlt : x < n
    · have e : sx_swc x d ((n, t) :: l) = d := sx_swc_no (fun q hq => by
        rcases List.mem_cons.mp hq with rfl | hq
        · exact fun z => by have z' : n = x := z; omega
        · have := hp'.1 q hq
          exact fun z => by have z' : n < q.1 := this; omega)
      refine ⟨lo, Nat.min hi (n - 1), h1, sx_minI h2 (by omega), ?_⟩
      rw [e]
      unfold sx_sw
      rw [show (Nat.blt lo n && Nat.ble lo hi) = true by rw [sx_bltT (by omega), sx_bleT (by omega)]; rfl]
      exact List.mem_cons_self
    · by_cases heq : x = n
      · subst heq
        refine ⟨x, x, Nat.le_refl _, Nat.le_refl _, ?_⟩
        have e : sx_swc x d ((x, t) :: l) = t := by
          unfold sx_swc
          rw [sx_beqT rfl]
        rw [e]
        unfold sx_sw
        rw [show (Nat.ble lo x && Nat.ble x hi) = true by rw [sx_bleT h1, sx_bleT h2]; rfl]
        split
        · exact List.mem_cons_of_mem _ List.mem_cons_self
        · exact List.mem_cons_self
      · obtain ⟨lo', hi', g1, g2, g3⟩ := sx_sw_ok h2 (l := l) (lo := Nat.max lo (n + 1)) hp'.2 (sx_maxI h1 (by omega))
        refine ⟨lo', hi', g1, g2, ?_⟩
        have e : sx_swc x d ((n, t) :: l) = sx_swc x d l := by
          conv => lhs; unfold sx_swc
          rw [sx_beqF (fun z => heq z.symm)]
        rw [e]
        unfold sx_sw
        split <;> split <;> first | exact List.mem_cons_of_mem _ (List.mem_cons_of_mem _ g3) | exact List.mem_cons_of_mem _ g3 | exact g3
section sxSwitch
variable {p : Program} {l : Launch} {e : Env} {R : Room} {s : State} {m : MethodId} {args : Array Value} {below : List Frame} {meth : Method} {c : Code} {Q : State → Prop} {D : va_G} {cA : Nat → ClassId} {A : Nat → Prop} {b nL : Nat} {ρ0 : Nat → Int32} {ad0 : Nat → Nat} {n0 m0 : Nat} {cc : ByteArray}
theorem sx_s_switchG {pc mc ms d : Nat} {L : List (Nat × sx_V)} {st : List sx_V} {w : List sx_E} {iv : sx_Iv} {u : sx_V} {ts : List (Nat × Nat)} {ss : List sx_S} (hp : ts.Pairwise (fun a b => a.1 < b.1)) (h : sx_switch (pc, L, st, w, iv, mc, ms) iv (sx_nm iv u) d ts = some ss) (K : ∀ τ ∈ ss, sx_Ok p l e R s m args below meth c Q D cA A b nL ρ0 ad0 n0 m0 τ)
    {ρ : Nat → Int32} {ad : Nat → Nat} {H : Heap} {locs : List Loc} {ls : Array Slot} (h1 : sx_ivOk ρ iv) (h2 : ∀ k, k < n0 → ρ k = ρ0 k) (h3 : ∀ k, k < m0 → ad k = ad0 k) (h4 : n0 ≤ iv.length) (h5 : m0 ≤ w.length)
    (hP : va_P D sx_clL (sx_cW ρ ad b cA w) H) (hD : va_D A (sx_cW ρ ad b cA w)) (hS : va_S A s.heap H locs) (hl : lv_has ls nL (sx_cL ρ ad b L)) :
    ∃ x : Int32, sx_cv ρ ad b u = .int x ∧ W p l e R s m args below meth c H locs mc ms Q (F0 m (sx_swc (sx_b x) d ts) ls (st.map (sx_cv ρ ad b))) := by
  unfold sx_switch at h
  split at h
  next x ha =>
    cases h
    refine ⟨_, sx_nm_c h1 ad b ha, ?_⟩
    rw [sx_b_of]
    exact K _ List.mem_cons_self ρ ad H locs ls h1 h2 h3 h4 h5 hP hD hS hl
  next k ha =>
    split at h
    next lo hi hk =>
      cases h
      rw [sx_nth_eq] at hk
      refine ⟨_, sx_nm_v h1 ad b ha, ?_⟩
      obtain ⟨lo', hi', g1, g2, g3⟩ := sx_sw_ok (σ := (pc, L, st, w, iv, mc, ms)) (k := k) (d := d) (h1 k lo hi hk).2 hp (h1 k lo hi hk).1
      exact sx_narrow (K _ g3) g1 g2 h1 h2 h3 h4 h5 hP hD hS hl
    next => cases h
  next => cases h
theorem sx_s_swi {σ : sx_S} {d : Nat} {ts : List (Nat × Nat)} {ss : List sx_S} (hp : ts.Pairwise (fun a b => a.1 < b.1))
    (hrow : ∀ (H : Heap) (locs : List Loc) (mc ms : Nat) (ls : Array Slot) (rest : List Value) (x : Int32), W p l e R s m args below meth c H locs mc ms Q (F0 m (sx_swc (sx_b x) d ts) ls rest) → W p l e R s m args below meth c H locs mc ms Q (F0 m σ.1 ls (.int x :: rest)))
    (h : sx_swi σ d ts = some ss) (K : ∀ τ ∈ ss, sx_Ok p l e R s m args below meth c Q D cA A b nL ρ0 ad0 n0 m0 τ) : sx_Ok p l e R s m args below meth c Q D cA A b nL ρ0 ad0 n0 m0 σ := by
  obtain ⟨pc, L, st, w, iv, mc, ms⟩ := σ
  unfold sx_swi at h
  split at h
  next pc' L' x st' w' iv' mc' ms' heq =>
    cases heq
    intro ρ ad H locs ls h1 h2 h3 h4 h5 hP hD hS hl
    obtain ⟨x', e1, k⟩ := sx_s_switchG hp h K h1 h2 h3 h4 h5 hP hD hS hl
    show W p l e R s m args below meth c H locs mc ms Q (F0 m pc ls (sx_cv ρ ad b x :: st'.map (sx_cv ρ ad b)))
    rw [e1]
    exact hrow H locs mc ms ls _ x' k
  next => cases h
end sxSwitch
theorem sx_zip_at {y d : Nat} : ∀ (ts : List Nat) (n : Nat), sx_swc y d (sx_zip n ts) = if n ≤ y then (ts[y - n]?).getD d else d
  | [], n => by simp [sx_zip, sx_swc]
  | t :: ts, n => by
    unfold sx_zip sx_swc
    by_cases h : n = y
    · subst h
      rw [sx_beqT rfl]
      simp
    · rw [sx_beqF h]
      show sx_swc y d (sx_zip (n + 1) ts) = _
      rw [sx_zip_at ts (n + 1)]
      by_cases h2 : n ≤ y
      · rw [if_pos h2, if_pos (show n + 1 ≤ y by omega)]
        obtain ⟨k, hk⟩ : ∃ k, y - n = k + 1 := ⟨y - n - 1, by omega⟩
        rw [hk, show y - (n + 1) = k by omega]
        rfl
      · rw [if_neg h2, if_neg (show ¬ n + 1 ≤ y by omega)]
theorem sx_zip_pw : ∀ (ts : List Nat) (n : Nat), (∀ q ∈ sx_zip n ts, n ≤ q.1) ∧ (sx_zip n ts).Pairwise (fun a b => a.1 < b.1)
  | [], n => ⟨(fun q h => absurd h List.not_mem_nil), List.Pairwise.nil⟩
  | t :: ts, n => by
    obtain ⟨g1, g2⟩ := sx_zip_pw ts (n + 1)
    refine ⟨fun q hq => ?_, List.pairwise_cons.mpr ⟨fun q hq => g1 q hq, g2⟩⟩
    rcases List.mem_cons.mp hq with rfl | hq
    · exact Nat.le_refl _
    · have := g1 q hq
      omega
section sxSwitch2
variable {p : Program} {l : Launch} {e : Env} {R : Room} {s : State} {m : MethodId} {args : Array Value} {below : List Frame} {meth : Method} {c : Code} {Q : State → Prop} {D : va_G} {cA : Nat → ClassId} {A : Nat → Prop} {b nL : Nat} {ρ0 : Nat → Int32} {ad0 : Nat → Nat} {n0 m0 : Nat} {cc : ByteArray}
theorem sx_s_tsw (hx : p.tables.exec = Jvm.exec) (hb : c.code = cc) {σ : sx_S} {dflt lo hi : Int} {offs : Array Int} {len d lo' : Nat} {ts : List Nat} {ss : List sx_S} (hdg : decode cc σ.1 = .ok (.tableswitch dflt lo hi offs, len)) (hd : (σ.1 : Int) + dflt = (d : Int)) (hlo : (lo' : Int) = lo + 2147483648) (hhi : hi = lo + ts.length - 1) (hof : offs.toList.map (fun o => (σ.1 : Int) + o) = ts.map (fun t : Nat => (t : Int)))
    (h : sx_swi σ d (sx_zip lo' ts) = some ss) (K : ∀ τ ∈ ss, sx_Ok p l e R s m args below meth c Q D cA A b nL ρ0 ad0 n0 m0 τ) : sx_Ok p l e R s m args below meth c Q D cA A b nL ρ0 ad0 n0 m0 σ := by
  refine sx_s_swi (sx_zip_pw ts lo').2 (fun H locs mc ms ls rest x k => ?_) h K
  rw [sx_zip_at] at k
  have hx2 := sx_b_int x
  by_cases hlt : x.toInt < lo
  · rw [if_neg (show ¬ lo' ≤ sx_b x by omega)] at k
    exact lv_tableOut hx hb hdg (Or.inl hlt) hd k
  · rw [if_pos (show lo' ≤ sx_b x by omega)] at k
    by_cases hgt : hi < x.toInt
    · rw [List.getElem?_eq_none (by omega)] at k
      exact lv_tableOut hx hb hdg (Or.inr hgt) hd k
    · have hl : sx_b x - lo' < ts.length := by omega
      have e : (x.toInt - lo).toNat = sx_b x - lo' := by omega
      rw [List.getElem?_eq_getElem hl] at k
      have hlen : offs.toList.length = ts.length := by have := congrArg List.length hof; simpa using this
      have hl2 : sx_b x - lo' < offs.toList.length := by omega
      have hv : (σ.1 : Int) + offs.toList[sx_b x - lo'] = ((ts[sx_b x - lo'] : Nat) : Int) := by
        have := congrArg (fun l : List Int => l[sx_b x - lo']?) hof
        simp only [List.getElem?_map, List.getElem?_eq_getElem hl, List.getElem?_eq_getElem hl2, Option.map_some] at this
        exact Option.some.inj this
      refine lv_tableIn hx hb hdg hlt hgt (off := offs.toList[sx_b x - lo']) ?_ hv k
      rw [e, ← Array.getElem?_toList, List.getElem?_eq_getElem hl2]
/-- the machine's table of pairs, by the executor's -/
theorem sx_two_ok {pc d : Nat} {dflt : Int} (hd : (pc : Int) + dflt = (d : Int)) (x : Int32) : ∀ (ps : List (Int × Int)) (l : List (Nat × Nat)), ps.map (fun q => (q.1 + 2147483648, (pc : Int) + q.2)) = l.map (fun q : Nat × Nat => ((q.1 : Int), (q.2 : Int))) → (pc : Int) + Op.lookupswitch.offset ps dflt x.toInt = ((sx_swc (sx_b x) d l : Nat) : Int)
  | [], [], _ => hd
  | [], _ :: _, h => by simp at h
  | _ :: _, [], h => by simp at h
  | (a, o) :: ps, (n, t) :: l, h => by
    simp only [List.map_cons, List.cons.injEq, Prod.mk.injEq] at h
    have hx2 := sx_b_int x
    have ih := sx_two_ok hd x ps l h.2
    rw [Op.lookupswitch.offset_cons]
    unfold sx_swc
    by_cases hax : a = x.toInt
    · rw [if_pos hax, sx_beqT (show n = sx_b x by omega)]
      exact h.1.2
    · rw [if_neg hax, sx_beqF (show n ≠ sx_b x by omega)]
      exact ih
theorem sx_s_lsw (hx : p.tables.exec = Jvm.exec) (hb : c.code = cc) {σ : sx_S} {dflt : Int} {ps : Array (Int × Int)} {len d : Nat} {ql : List (Nat × Nat)} {ss : List sx_S} (hdg : decode cc σ.1 = .ok (.lookupswitch dflt ps, len)) (hps : (ps.toList.zip (ps.toList.drop 1)).all (fun (a, next) => a.1 < next.1) = true) (hd : (σ.1 : Int) + dflt = (d : Int)) (hpw : ql.Pairwise (fun a b => a.1 < b.1)) (hl : ps.toList.map (fun q => (q.1 + 2147483648, (σ.1 : Int) + q.2)) = ql.map (fun q : Nat × Nat => ((q.1 : Int), (q.2 : Int))))
    (h : sx_swi σ d ql = some ss) (K : ∀ τ ∈ ss, sx_Ok p l e R s m args below meth c Q D cA A b nL ρ0 ad0 n0 m0 τ) : sx_Ok p l e R s m args below meth c Q D cA A b nL ρ0 ad0 n0 m0 σ :=
  sx_s_swi hpw (fun H locs mc ms ls rest x k => lv_lookup hx hb hdg hps rfl (sx_two_ok hd x _ _ hl) k) h K
end sxSwitch2
end
section
/-! fields -/
theorem sx_cW_set {ρ : Nat → Int32} {ad : Nat → Nat} {b : Nat} {cA : Nat → ClassId} (w : List sx_E) (k : Nat) (x : sx_E) : sx_cW ρ ad b cA (w.set k x) = (sx_cW ρ ad b cA w).set k (ad k, sx_cE ρ ad b cA x) := by
  apply List.ext_getElem?
  intro j
  rw [sx_cW_at]
  by_cases hj : k = j
  · subst hj
    rw [List.getElem?_set_self', List.getElem?_set_self', sx_cW_at]
    cases w[k]? <;> rfl
  · rw [List.getElem?_set_ne hj, List.getElem?_set_ne hj, sx_cW_at]
theorem sx_cW_len {ρ : Nat → Int32} {ad : Nat → Nat} {b : Nat} {cA : Nat → ClassId} (w : List sx_E) : (sx_cW ρ ad b cA w).length = w.length := by
  unfold sx_cW
  rw [List.length_mapIdx]
theorem sx_cW_app {ρ : Nat → Int32} {ad : Nat → Nat} {b : Nat} {cA : Nat → ClassId} (w : List sx_E) (x : sx_E) : sx_cW ρ ad b cA (w ++ [x]) = sx_cW ρ ad b cA w ++ [(ad w.length, sx_cE ρ ad b cA x)] := by
  apply List.ext_getElem?
  intro j
  rw [sx_cW_at]
  by_cases hj : j < w.length
  · rw [List.getElem?_append_left hj, List.getElem?_append_left (by rw [sx_cW_len]; exact hj), sx_cW_at]
  · rw [List.getElem?_append_right (by omega), List.getElem?_append_right (by rw [sx_cW_len]; omega), sx_cW_len]
    by_cases h0 : j = w.length
    · subst h0
      rw [Nat.sub_self]
      rfl
    · obtain ⟨k, hk⟩ : ∃ k, j - w.length = k + 1 := ⟨j - w.length - 1, by omega⟩
      rw [hk]
      rfl
section sxHeap
variable {p : Program} {l : Launch} {e : Env} {R : Room} {s : State} {m : MethodId} {args : Array Value} {below : List Frame} {meth : Method} {c : Code} {Q : State → Prop} {D : va_G} {cA : Nat → ClassId} {A : Nat → Prop} {b nL : Nat} {ρ0 : Nat → Int32} {ad0 : Nat → Nat} {n0 m0 : Nat} {cc : ByteArray}
theorem sx_gf_inv {σ : sx_S} {ci k : Nat} {ss : List sx_S} (h : sx_gf σ ci k = some ss) : ∃ pc L q st w iv mc ms fs v, σ = (pc, L, (.inr (.inr (.inl q))) :: st, w, iv, mc, ms) ∧ w[q]? = some (.inl (ci, fs)) ∧ fs[k]? = some v ∧ ss = [(pc + 3, L, v :: st, w, iv, mc, ms)] := by
  unfold sx_gf at h
  split at h
  next pc L q st w iv mc ms =>
    split at h
    next ci' fs hq =>
      split at h
      next v hb hv =>
        cases h
        rw [sx_nth_eq] at hq hv
        rw [Nat.eq_of_beq_eq_true hb]
        exact ⟨pc, L, q, st, w, iv, mc, ms, fs, v, rfl, hq, hv, rfl⟩
      next => cases h
    next => cases h
  next => cases h
theorem sx_s_gf (hx : p.tables.exec = Jvm.exec) (hb : c.code = cc) {own C : String} {T : u_T} {N ci index : Nat} {Ts : List Cond} (hts : ∀ w ∈ Ts, w.before args s = true) (hin : ∀ w ∈ u_ws C T N, w ∈ Ts) (hown : s.vm.findClass own = some m.cls) (hK : va_K D sx_clL (sx_tys cA) s) (hc : sx_clL[ci]? = some (C, T, N)) (k : Nat) (hk : k < N) (hlink : (Cond.fieldLink own index (T k).1 (T k).2.1 (T k).2.2.1).before args s = true) {σ : sx_S} {ss : List sx_S} (hdg : decode cc σ.1 = .ok (.getfield index, 3)) (h : sx_gf σ ci k = some ss) (K : ∀ τ ∈ ss, sx_Ok p l e R s m args below meth c Q D cA A b nL ρ0 ad0 n0 m0 τ) : sx_Ok p l e R s m args below meth c Q D cA A b nL ρ0 ad0 n0 m0 σ := by
  obtain ⟨pc, L, q, st, w, iv, mc, ms, fs, v, rfl, hq, hv, rfl⟩ := sx_gf_inv h
  intro ρ ad H locs ls h1 h2 h3 h4 h5 hP hD hS hl
  have he : (sx_cW ρ ad b cA w)[q]? = some (ad q, .inr (ci, fs.map (sx_cv ρ ad b))) := by rw [sx_cW_at, hq]; rfl
  exact va_get hx hb hts hin hown hK hP q he hc k hk hlink (fun _ h => h) (v := sx_cv ρ ad b v) (by rw [List.getElem?_map, hv]; rfl) hdg (K _ List.mem_cons_self ρ ad H locs ls h1 h2 h3 h4 h5 hP hD hS hl)
theorem sx_s_gfN (hx : p.tables.exec = Jvm.exec) (hb : c.code = cc) {own C host : String} {T : u_T} {N ci index : Nat} {Ts : List Cond} (hts : ∀ w ∈ Ts, w.before args s = true) (hin : ∀ w ∈ u_ws C T N, w ∈ Ts) (hown : s.vm.findClass own = some m.cls) (hK : va_K D sx_clL (sx_tys cA) s) (hc : sx_clL[ci]? = some (C, T, N)) (k : Nat) (hk : k < N) (hlink : (Cond.fieldLinkNest own index (T k).1 (T k).2.1 (T k).2.2.1 host).before args s = true) {σ : sx_S} {ss : List sx_S} (hdg : decode cc σ.1 = .ok (.getfield index, 3)) (h : sx_gf σ ci k = some ss) (K : ∀ τ ∈ ss, sx_Ok p l e R s m args below meth c Q D cA A b nL ρ0 ad0 n0 m0 τ) : sx_Ok p l e R s m args below meth c Q D cA A b nL ρ0 ad0 n0 m0 σ := by
  obtain ⟨pc, L, q, st, w, iv, mc, ms, fs, v, rfl, hq, hv, rfl⟩ := sx_gf_inv h
  intro ρ ad H locs ls h1 h2 h3 h4 h5 hP hD hS hl
  have he : (sx_cW ρ ad b cA w)[q]? = some (ad q, .inr (ci, fs.map (sx_cv ρ ad b))) := by rw [sx_cW_at, hq]; rfl
  exact va_getN hx hb hts hin hown hK hP q he hc k hk hlink (fun _ h => h) (v := sx_cv ρ ad b v) (by rw [List.getElem?_map, hv]; rfl) hdg (K _ List.mem_cons_self ρ ad H locs ls h1 h2 h3 h4 h5 hP hD hS hl)
/-- which values lie in a field of a type -/
noncomputable def sx_fit (fit : Nat) (v : sx_V) : Bool := match fit with
  | 0 => sx_isInt v
  | 1 => sx_isRef v || sx_isNull v
  | _ => sx_bit v
theorem sx_pf_inv {σ : sx_S} {ci k fit : Nat} {ss : List sx_S} (h : sx_pf σ ci k fit = some ss) : ∃ pc L v q st w iv mc ms fs, σ = (pc, L, v :: (.inr (.inr (.inl q))) :: st, w, iv, mc, ms) ∧ w[q]? = some (.inl (ci, fs)) ∧ k < fs.length ∧ sx_fit fit v = true ∧ ss = [(pc + 3, L, st, w.set q (.inl (ci, (fs.set k v))), iv, mc, ms)] := by
  unfold sx_pf at h
  split at h
  next pc L v q st w iv mc ms =>
    split at h
    next ci' fs hq =>
      split at h
      next hz =>
        rw [sx_setk_eq, sx_setk_eq] at h
        cases h
        rw [sx_nth_eq] at hq
        simp only [Bool.and_eq_true] at hz
        have e := Nat.eq_of_beq_eq_true hz.1.1
        subst e
        exact ⟨pc, L, v, q, st, w, iv, mc, ms, fs, rfl, hq, Nat.le_of_ble_eq_true hz.1.2, hz.2, rfl⟩
      next => cases h
    next => cases h
  next => cases h
/-- the types that take such values -/
def sx_takes (fit : Nat) (ty : FieldType) : Prop := match fit with
  | 0 => ty = .int
  | 1 => (∃ n, ty = .object n) ∨ ∃ t, ty = .array t
  | _ => ty = .boolean
theorem sx_fit_ok {ρ : Nat → Int32} {ad : Nat → Nat} {b fit : Nat} {ty : FieldType} (ht : sx_takes fit ty) {v : sx_V} (h : sx_fit fit v = true) : narrow ty (sx_cv ρ ad b v) = sx_cv ρ ad b v ∧ fits ty (sx_cv ρ ad b v) = true := by
  match fit, ht, h with
  | 0, ht, h =>
    cases ht
    rw [sx_cv_int h]
    exact ⟨rfl, rfl⟩
  | 1, ht, h =>
    have h' : (sx_isRef v || sx_isNull v) = true := h
    rw [Bool.or_eq_true] at h'
    have hv : (∃ a, sx_cv ρ ad b v = .ref a) ∨ sx_cv ρ ad b v = .null := by
      rcases h' with h' | h'
      · obtain ⟨k, -, e⟩ := sx_cv_ref (ρ := ρ) (ad := ad) (b := b) h'
        exact Or.inl ⟨_, e⟩
      · right
        match v, h' with
        | .inr (.inr (.inr 0)), _ => rfl
        | .inl _, h' => simp [sx_isNull] at h'
        | .inr (.inl _), h' => simp [sx_isNull] at h'
        | .inr (.inr (.inl _)), h' => simp [sx_isNull] at h'
        | .inr (.inr (.inr (k + 1))), h' => simp [sx_isNull] at h'
    rcases ht with ⟨n, rfl⟩ | ⟨t, rfl⟩ <;> rcases hv with ⟨a, e⟩ | e <;> rw [e] <;> exact ⟨rfl, rfl⟩
  | n + 2, ht, h =>
    cases ht
    match v, h with
    | .inl 0, _ => exact ⟨rfl, rfl⟩
    | .inl 1, _ => exact ⟨rfl, rfl⟩
    | .inl (k + 2), h =>
      have h' : Nat.blt (k + 2) 2 = true := h
      exact absurd (Nat.le_of_ble_eq_true h') (by omega)
    | .inr (.inl _), h => cases h
    | .inr (.inr (.inl _)), h => cases h
    | .inr (.inr (.inr _)), h => cases h
theorem sx_s_pf (hx : p.tables.exec = Jvm.exec) (hb : c.code = cc) {own C : String} {T : u_T} {N ci index : Nat} {Ts : List Cond} (hts : ∀ w ∈ Ts, w.before args s = true) (hin : ∀ w ∈ u_ws C T N, w ∈ Ts) (ty0 : Nat → FieldType) (hty : ∀ k, k < N → parseFieldDescriptor (T k).2.2.1 = some (ty0 k)) (hnm : ∀ a, a < N → ∀ b, b < N → a ≠ b → (T a).2.1 ≠ (T b).2.1) (hown : s.vm.findClass own = some m.cls) (hK : va_K D sx_clL (sx_tys cA) s) (hc : sx_clL[ci]? = some (C, T, N)) (k : Nat) (hk : k < N) (hlink : (Cond.fieldLink own index (T k).1 (T k).2.1 (T k).2.2.1).before args s = true) (hfin : (T k).2.2.2 = false) {fit : Nat} (ht : sx_takes fit (ty0 k)) {σ : sx_S} {ss : List sx_S} (hdg : decode cc σ.1 = .ok (.putfield index, 3)) (h : sx_pf σ ci k fit = some ss) (K : ∀ τ ∈ ss, sx_Ok p l e R s m args below meth c Q D cA A b nL ρ0 ad0 n0 m0 τ) : sx_Ok p l e R s m args below meth c Q D cA A b nL ρ0 ad0 n0 m0 σ := by
  obtain ⟨pc, L, v, q, st, w, iv, mc, ms, fs, rfl, hq, hkl, hf, rfl⟩ := sx_pf_inv h
  intro ρ ad H locs ls h1 h2 h3 h4 h5 hP hD hS hl
  have he : (sx_cW ρ ad b cA w)[q]? = some (ad q, .inr (ci, fs.map (sx_cv ρ ad b))) := by rw [sx_cW_at, hq]; rfl
  have hv := sx_fit_ok (ρ := ρ) (ad := ad) (b := b) ht hf
  refine va_put hx hb hts hin ty0 hty hnm hown hK hP hD hS q he hc k hk hlink (fun _ h => h) hfin (hty k hk) hv.1 hv.2 (by rw [List.length_map]; exact hkl) hdg (fun H1 locs1 hP1 hD1 hS1 => ?_)
  have e : (sx_cW ρ ad b cA w).set q (ad q, .inr (ci, (fs.map (sx_cv ρ ad b)).set k (sx_cv ρ ad b v))) = sx_cW ρ ad b cA (w.set q (.inl (ci, (fs.set k v)))) := by
    rw [sx_cW_set, ← List.map_set]
    rfl
  rw [e] at hP1 hD1
  exact K _ List.mem_cons_self ρ ad H1 locs1 ls h1 h2 h3 h4 (by show m0 ≤ (w.set q _).length; rw [List.length_set]; exact h5) hP1 hD1 hS1 hl
theorem sx_s_pfN (hx : p.tables.exec = Jvm.exec) (hb : c.code = cc) {own C host : String} {T : u_T} {N ci index : Nat} {Ts : List Cond} (hts : ∀ w ∈ Ts, w.before args s = true) (hin : ∀ w ∈ u_ws C T N, w ∈ Ts) (ty0 : Nat → FieldType) (hty : ∀ k, k < N → parseFieldDescriptor (T k).2.2.1 = some (ty0 k)) (hnm : ∀ a, a < N → ∀ b, b < N → a ≠ b → (T a).2.1 ≠ (T b).2.1) (hown : s.vm.findClass own = some m.cls) (hK : va_K D sx_clL (sx_tys cA) s) (hc : sx_clL[ci]? = some (C, T, N)) (k : Nat) (hk : k < N) (hlink : (Cond.fieldLinkNest own index (T k).1 (T k).2.1 (T k).2.2.1 host).before args s = true) (hfin : (T k).2.2.2 = false) {fit : Nat} (ht : sx_takes fit (ty0 k)) {σ : sx_S} {ss : List sx_S} (hdg : decode cc σ.1 = .ok (.putfield index, 3)) (h : sx_pf σ ci k fit = some ss) (K : ∀ τ ∈ ss, sx_Ok p l e R s m args below meth c Q D cA A b nL ρ0 ad0 n0 m0 τ) : sx_Ok p l e R s m args below meth c Q D cA A b nL ρ0 ad0 n0 m0 σ := by
  obtain ⟨pc, L, v, q, st, w, iv, mc, ms, fs, rfl, hq, hkl, hf, rfl⟩ := sx_pf_inv h
  intro ρ ad H locs ls h1 h2 h3 h4 h5 hP hD hS hl
  have he : (sx_cW ρ ad b cA w)[q]? = some (ad q, .inr (ci, fs.map (sx_cv ρ ad b))) := by rw [sx_cW_at, hq]; rfl
  have hv := sx_fit_ok (ρ := ρ) (ad := ad) (b := b) ht hf
  refine va_putN hx hb hts hin ty0 hty hnm hown hK hP hD hS q he hc k hk hlink (fun _ h => h) hfin (hty k hk) hv.1 hv.2 (by rw [List.length_map]; exact hkl) hdg (fun H1 locs1 hP1 hD1 hS1 => ?_)
  have e : (sx_cW ρ ad b cA w).set q (ad q, .inr (ci, (fs.map (sx_cv ρ ad b)).set k (sx_cv ρ ad b v))) = sx_cW ρ ad b cA (w.set q (.inl (ci, (fs.set k v)))) := by
    rw [sx_cW_set, ← List.map_set]
    rfl
  rw [e] at hP1 hD1
  exact K _ List.mem_cons_self ρ ad H1 locs1 ls h1 h2 h3 h4 (by show m0 ≤ (w.set q _).length; rw [List.length_set]; exact h5) hP1 hD1 hS1 hl
theorem sx_s_pfF (hx : p.tables.exec = Jvm.exec) (hb : c.code = cc) {own C : String} {T : u_T} {N ci index : Nat} {Ts : List Cond} (hts : ∀ w ∈ Ts, w.before args s = true) (hin : ∀ w ∈ u_ws C T N, w ∈ Ts) (ty0 : Nat → FieldType) (hty : ∀ k, k < N → parseFieldDescriptor (T k).2.2.1 = some (ty0 k)) (hnm : ∀ a, a < N → ∀ b, b < N → a ≠ b → (T a).2.1 ≠ (T b).2.1) (hown : s.vm.findClass own = some m.cls) (hK : va_K D sx_clL (sx_tys cA) s) (hc : sx_clL[ci]? = some (C, T, N)) (k : Nat) (hk : k < N) (hlink : (Cond.fieldLink own index (T k).1 (T k).2.1 (T k).2.2.1).before args s = true) (hfin : (T k).2.2.2 = true) (hin2 : meth.name = "<init>") (hdecl : (T k).1 = own) {fit : Nat} (ht : sx_takes fit (ty0 k)) {σ : sx_S} {ss : List sx_S} (hdg : decode cc σ.1 = .ok (.putfield index, 3)) (h : sx_pf σ ci k fit = some ss) (K : ∀ τ ∈ ss, sx_Ok p l e R s m args below meth c Q D cA A b nL ρ0 ad0 n0 m0 τ) : sx_Ok p l e R s m args below meth c Q D cA A b nL ρ0 ad0 n0 m0 σ := by
  obtain ⟨pc, L, v, q, st, w, iv, mc, ms, fs, rfl, hq, hkl, hf, rfl⟩ := sx_pf_inv h
  intro ρ ad H locs ls h1 h2 h3 h4 h5 hP hD hS hl
  have he : (sx_cW ρ ad b cA w)[q]? = some (ad q, .inr (ci, fs.map (sx_cv ρ ad b))) := by rw [sx_cW_at, hq]; rfl
  have hv := sx_fit_ok (ρ := ρ) (ad := ad) (b := b) ht hf
  refine va_putF hx hb hts hin ty0 hty hnm hown hK hP hD hS q he hc k hk hlink (fun _ h => h) hfin hin2 hdecl (hty k hk) hv.1 hv.2 (by rw [List.length_map]; exact hkl) hdg (fun H1 locs1 hP1 hD1 hS1 => ?_)
  have e : (sx_cW ρ ad b cA w).set q (ad q, .inr (ci, (fs.map (sx_cv ρ ad b)).set k (sx_cv ρ ad b v))) = sx_cW ρ ad b cA (w.set q (.inl (ci, (fs.set k v)))) := by
    rw [sx_cW_set, ← List.map_set]
    rfl
  rw [e] at hP1 hD1
  exact K _ List.mem_cons_self ρ ad H1 locs1 ls h1 h2 h3 h4 (by show m0 ≤ (w.set q _).length; rw [List.length_set]; exact h5) hP1 hD1 hS1 hl
end sxHeap
end
section
/-! new cells -/
noncomputable def sx_dfl : sx_V → Bool
  | .inl n => Nat.beq n 0
  | .inr (.inr (.inr n)) => Nat.blt n 2
  | _ => false
noncomputable def sx_cv0 (v : sx_V) : Value := sx_cv (fun _ => 0) (fun _ => 0) 0 v
theorem sx_dfl_cv {ρ : Nat → Int32} {ad : Nat → Nat} {b : Nat} : ∀ {v : sx_V}, sx_dfl v = true → sx_cv ρ ad b v = sx_cv0 v
  | .inl _, _ => rfl
  | .inr (.inl _), h => by cases h
  | .inr (.inr (.inl _)), h => by cases h
  | .inr (.inr (.inr 0)), _ => rfl
  | .inr (.inr (.inr 1)), _ => rfl
  | .inr (.inr (.inr (n + 2))), h => by
    have h' : Nat.blt (n + 2) 2 = true := h
    exact absurd (Nat.le_of_ble_eq_true h') (by omega)
theorem sx_dfl_map {ρ : Nat → Int32} {ad : Nat → Nat} {b : Nat} {fs : List sx_V} (h : fs.all sx_dfl = true) : fs.map (sx_cv ρ ad b) = fs.map sx_cv0 :=
  List.map_congr_left (fun v hv => sx_dfl_cv (List.all_eq_true.mp h v hv))
theorem sx_grow_inv {L : List (Nat × sx_V)} {st : List sx_V} {w : List sx_E} {iv : sx_Iv} {x : sx_E} {f : List sx_E → sx_N} {ss : List sx_S} (h : sx_grow L st w iv x f = some ss) : sx_limS iv.length w.length L st w = true ∧ f (w ++ [x]) = some ss := by
  unfold sx_grow at h
  split at h
  next ho => rw [sx_appk_eq] at h; exact ⟨ho, h⟩
  next => cases h
section sxCells
variable {p : Program} {l : Launch} {e : Env} {R : Room} {s : State} {m : MethodId} {args : Array Value} {below : List Frame} {meth : Method} {c : Code} {Q : State → Prop} {D : va_G} {cA : Nat → ClassId} {A : Nat → Prop} {b nL : Nat} {ρ0 : Nat → Int32} {ad0 : Nat → Nat} {n0 m0 : Nat} {cc : ByteArray}
/-- a new cell: its address is q -/
theorem sx_newcell {pc mc ms : Nat} {L : List (Nat × sx_V)} {st : List sx_V} {w : List sx_E} {iv : sx_Iv} {x : sx_E} {xe : va_E} (hlim : sx_limS iv.length w.length L st w = true) (K : sx_Ok p l e R s m args below meth c Q D cA A b nL ρ0 ad0 n0 m0 (pc, L, (.inr (.inr (.inl w.length))) :: st, w ++ [x], iv, mc, ms))
    {ρ : Nat → Int32} {ad : Nat → Nat} {H : Heap} {locs : List Loc} {ls : Array Slot} (q : Nat) (hxe : ∀ ad' : Nat → Nat, sx_cE ρ ad' b cA x = xe) (h1 : sx_ivOk ρ iv) (h2 : ∀ k, k < n0 → ρ k = ρ0 k) (h3 : ∀ k, k < m0 → ad k = ad0 k) (h4 : n0 ≤ iv.length) (h5 : m0 ≤ w.length)
    (hP : va_P D sx_clL (sx_cW ρ ad b cA w ++ [(q, xe)]) H) (hD : va_D A (sx_cW ρ ad b cA w ++ [(q, xe)])) (hS : va_S A s.heap H locs) (hl : lv_has ls nL (sx_cL ρ ad b L)) : W p l e R s m args below meth c H locs mc ms Q (F0 m pc ls (.ref q :: st.map (sx_cv ρ ad b))) := by
  simp only [sx_limS, Bool.and_eq_true] at hlim
  obtain ⟨g1, g2, g3⟩ := hlim
  let ad' : Nat → Nat := fun j => if j = w.length then q else ad j
  have ha : ∀ k, k < w.length → ad k = ad' k := fun k hk => (if_neg (Nat.ne_of_lt hk)).symm
  have hρ : ∀ k, k < iv.length → ρ k = ρ k := fun _ _ => rfl
  have hq : ad' w.length = q := if_pos rfl
  rw [sx_cW_lim hρ ha (Nat.le_refl _) g3, ← hxe ad', ← hq, ← sx_cW_app] at hP hD
  rw [sx_cL_lim hρ ha g1] at hl
  rw [sx_cS_lim hρ ha g2]
  have k := K ρ ad' H locs ls h1 h2 (fun k hk => by rw [← ha k (by omega)]; exact h3 k hk) h4 (by show m0 ≤ (w ++ [x]).length; rw [List.length_append]; omega) hP hD hS hl
  have e : ((.inr (.inr (.inl w.length))) :: st).map (sx_cv ρ ad' b) = .ref q :: st.map (sx_cv ρ ad' b) := by
    show Value.ref (ad' w.length) :: _ = _
    rw [hq]
  rw [← e]
  exact k
theorem sx_s_new (hx : p.tables.exec = Jvm.exec) (hb : c.code = cc) {own C : String} {T : u_T} {N ci index : Nat} {Ts : List Cond} (hts : ∀ w ∈ Ts, w.before args s = true) (hin : ∀ w ∈ u_ws C T N, w ∈ Ts) (ty : Nat → FieldType) (hty : ∀ k, k < N → parseFieldDescriptor (T k).2.2.1 = some (ty k)) (hown : s.vm.findClass own = some m.cls) (hcl : (Cond.classLink own index C).before args s = true) (hinst : (Cond.instantiable C N).before args s = true) (hini : (Cond.initialized C).before args s = true) (hK : va_K D sx_clL (sx_tys cA) s) (hA : ∀ q, s.heap.size ≤ q → A q) (hc : sx_clL[ci]? = some (C, T, N))
    {fs : List sx_V} (hfl : fs.length = N) (hdf : fs.all sx_dfl = true) (hfs : ∀ j, j < N → defaultValue (ty j) = vp_V (fs.map sx_cv0) j) {cap : Nat × Nat} (hR : cap.1 ≤ R.cells ∧ cap.2 ≤ R.slots) {σ : sx_S} {ss : List sx_S} (hdg : decode cc σ.1 = .ok (.new index, 3)) (h : sx_new cap σ ci fs = some ss) (K : ∀ τ ∈ ss, sx_Ok p l e R s m args below meth c Q D cA A b nL ρ0 ad0 n0 m0 τ) : sx_Ok p l e R s m args below meth c Q D cA A b nL ρ0 ad0 n0 m0 σ := by
  obtain ⟨pc, L, st, w, iv, mc, ms⟩ := σ
  simp only [sx_new] at h
  split at h
  next hz =>
    obtain ⟨hlim, h⟩ := sx_grow_inv h
    cases h
    simp only [Bool.and_eq_true] at hz
    have z1 : mc + 1 ≤ cap.1 := Nat.le_of_ble_eq_true hz.1
    have z2 : ms + fs.length ≤ cap.2 := Nat.le_of_ble_eq_true hz.2
    intro ρ ad H locs ls h1 h2 h3 h4 h5 hP hD hS hl
    have k0 := K _ List.mem_cons_self
    refine va_new (ci := ci) (fs := fs.map sx_cv0) hx hb hts hin ty hty hown hcl hinst hini hK hP hD hS hA hc hfs (by show mc + 1 ≤ R.cells; omega) (by show ms + N ≤ R.slots; omega) hdg (fun q H1 hP1 hD1 hS1 => ?_)
    rw [← hfl]
    exact sx_newcell hlim k0 q (fun ad' => by show Sum.inr (ci, fs.map (sx_cv ρ ad' b)) = _; rw [sx_dfl_map hdf]) h1 h2 h3 h4 h5 hP1 hD1 hS1 hl
  next => cases h
theorem sx_newa_inv {cap : Nat × Nat} {σ : sx_S} {len kd : Nat} {ss : List sx_S} (h : sx_newa cap σ len kd = some ss) : ∃ pc L x st w iv mc ms n, σ = (pc, L, x :: st, w, iv, mc, ms) ∧ sx_nm iv x = (.inl n) ∧ n < 65536 ∧ mc + 1 ≤ cap.1 ∧ ms + n ≤ cap.2 ∧ sx_limS iv.length w.length L st w = true ∧ ss = [(pc + len, L, (.inr (.inr (.inl w.length))) :: st, w ++ [(.inr (kd, n, []))], iv, mc + 1, ms + n)] := by
  unfold sx_newa at h
  split at h
  next pc L x st w iv mc ms =>
    split at h
    next n hn =>
      split at h
      next hz =>
        obtain ⟨hlim, h⟩ := sx_grow_inv h
        cases h
        simp only [Bool.and_eq_true] at hz
        exact ⟨pc, L, x, st, w, iv, mc, ms, n, rfl, hn, Nat.le_of_ble_eq_true hz.1.1, Nat.le_of_ble_eq_true hz.1.2, Nat.le_of_ble_eq_true hz.2, hlim, rfl⟩
      next => cases h
    next => cases h
  next => cases h
theorem sx_tys_at {kd : Nat} {ty : FieldType} (h : (sx_tys cA)[kd]? = some (cA kd, ty)) (hK : va_K D sx_clL (sx_tys cA) s) {cA' : ClassId} (hK' : va_K D sx_clL (sx_tys cA ++ [(cA', ty)]) s) (hf : ∀ c1 c2 : ClassId, va_RA s c1 ty → va_RA s c2 ty → c1 = c2) : cA' = cA kd :=
  hf _ _ (hK'.2 (sx_tys cA).length (cA', ty) (by rw [List.getElem?_append_right (Nat.le_refl _), Nat.sub_self]; rfl)).2 (hK.2 kd _ h).2
theorem sx_s_newa (hx : p.tables.exec = Jvm.exec) (hb : c.code = cc) {atype : ArrayType} {ty : FieldType} {kd : Nat} (hty : newarray.typeOf atype = ty) (harr : (Cond.arrayClass (newarray.typeOf atype)).before args s = true) (hbt : componentBytes ty ≤ 8) (hkd : (sx_tys cA)[kd]? = some (cA kd, ty)) (hf : ∀ c1 c2 : ClassId, va_RA s c1 ty → va_RA s c2 ty → c1 = c2) {a0 : Nat → vp_A} (ha0 : ∀ (n : Nat) (c1 : ClassId), vp_cell c1 (a0 n) = arrV c1 n (fun _ => defaultValue ty)) (hcE : ∀ (ρ : Nat → Int32) (ad : Nat → Nat) (n : Nat), sx_cE ρ ad b cA (.inr (kd, n, [])) = .inl (cA kd, a0 n))
    (hK : va_K D sx_clL (sx_tys cA) s) (hA : ∀ q, s.heap.size ≤ q → A q) {cap : Nat × Nat} (hR : cap.1 ≤ R.cells ∧ cap.2 ≤ R.slots) {σ : sx_S} {ss : List sx_S} (hdg : decode cc σ.1 = .ok (.newarray atype, 2)) (h : sx_newa cap σ 2 kd = some ss) (K : ∀ τ ∈ ss, sx_Ok p l e R s m args below meth c Q D cA A b nL ρ0 ad0 n0 m0 τ) : sx_Ok p l e R s m args below meth c Q D cA A b nL ρ0 ad0 n0 m0 σ := by
  obtain ⟨pc, L, x, st, w, iv, mc, ms, n, rfl, hn, z0, z1, z2, hlim, rfl⟩ := sx_newa_inv h
  intro ρ ad H locs ls h1 h2 h3 h4 h5 hP hD hS hl
  show W p l e R s m args below meth c H locs mc ms Q (F0 m pc ls (sx_cv ρ ad b x :: st.map (sx_cv ρ ad b)))
  rw [sx_nm_c h1 ad b hn]
  have hb8 : n * componentBytes ty ≤ 65536 * 8 := Nat.mul_le_mul (by omega) hbt
  refine va_newa (atype := atype) (a0 := a0 n) hx hb harr hty hK hP hD hS hA (ha0 n) (nI_pos (n := n) (by omega)) (sx_clamp (by omega)) (by omega) (by omega) (by omega) hdg (fun q c1 H1 hK1 hP1 hD1 hS1 => ?_)
  have e := sx_tys_at hkd hK hK1 hf
  subst e
  exact sx_newcell hlim (K _ List.mem_cons_self) q (fun ad' => hcE ρ ad' n) h1 h2 h3 h4 h5 hP1 hD1 hS1 hl
theorem sx_s_anewa (hx : p.tables.exec = Jvm.exec) (hb : c.code = cc) {own : String} {index : Nat} (hown : s.vm.findClass own = some m.cls) (hcl : (Cond.classLink own index "TwoInOne$State").before args s = true) (hover : va_AO "TwoInOne$State" s)
    (hK : va_K D sx_clL (sx_tys cA) s) (hA : ∀ q, s.heap.size ≤ q → A q) {cap : Nat × Nat} (hR : cap.1 ≤ R.cells ∧ cap.2 ≤ R.slots) {σ : sx_S} {ss : List sx_S} (hdg : decode cc σ.1 = .ok (.anewarray index, 3)) (h : sx_newa cap σ 3 4 = some ss) (K : ∀ τ ∈ ss, sx_Ok p l e R s m args below meth c Q D cA A b nL ρ0 ad0 n0 m0 τ) : sx_Ok p l e R s m args below meth c Q D cA A b nL ρ0 ad0 n0 m0 σ := by
  obtain ⟨pc, L, x, st, w, iv, mc, ms, n, rfl, hn, z0, z1, z2, hlim, rfl⟩ := sx_newa_inv h
  intro ρ ad H locs ls h1 h2 h3 h4 h5 hP hD hS hl
  show W p l e R s m args below meth c H locs mc ms Q (F0 m pc ls (sx_cv ρ ad b x :: st.map (sx_cv ρ ad b)))
  rw [sx_nm_c h1 ad b hn]
  refine va_newq hx hb hown hcl hover hK hP hD hS hA (nI_pos (n := n) (by omega)) (sx_clamp (by omega)) (by omega) (by omega) (by omega) hdg (fun q c1 H1 hK1 hP1 hD1 hS1 => ?_)
  have e := sx_tys_at (kd := 4) rfl hK hK1 (fun c1 c2 g1 g2 => by
    obtain ⟨_, _, _, _, _, f1⟩ := g1
    obtain ⟨_, _, _, _, _, f2⟩ := g2
    exact Option.some.inj (f1.symm.trans f2))
  subst e
  exact sx_newcell hlim (K _ List.mem_cons_self) q (fun ad' => rfl) h1 h2 h3 h4 h5 hP1 hD1 hS1 hl
theorem sx_s_obj (hx : p.tables.exec = Jvm.exec) (hb : c.code = cc) {own : String} {index : Nat} (hown : s.vm.findClass own = some m.cls) (hml : c.maxLocals = nL) (hlink : (Cond.methodLink own index Lib.objectInit).before args s = true) (hinst : (Cond.instanceMethod Lib.objectInit).before args s = true) (hcode : (Cond.code Lib.objectInit ⟨#[0xb1]⟩ 1 none).before args s = true) (hfr : 1 ≤ R.frames) (hlo : 24 ≤ R.locals) {σ : sx_S} {ss : List sx_S} (hdg : decode cc σ.1 = .ok (.invokespecial index, 3)) (h : sx_obj σ = some ss) (K : ∀ τ ∈ ss, sx_Ok p l e R s m args below meth c Q D cA A b nL ρ0 ad0 n0 m0 τ) : sx_Ok p l e R s m args below meth c Q D cA A b nL ρ0 ad0 n0 m0 σ := by
  obtain ⟨pc, L, st, w, iv, mc, ms⟩ := σ
  unfold sx_obj at h
  split at h
  next pc' L' q st' w' iv' mc' ms' heq =>
    cases heq
    split at h
    next hz =>
      cases h
      have z : st'.length ≤ 4 := Nat.le_of_ble_eq_true hz
      refine sx_pure (K _ List.mem_cons_self) (fun ρ ad H locs ls h1 hl k => ?_)
      have hsum : ∀ l : List Value, (l.map fun v => v.category).sum ≤ 2 * l.length := by
        intro l
        induction l with
        | nil => exact Nat.le_refl _
        | cons v l ih =>
          rw [List.map_cons, List.sum_cons, List.length_cons]
          rcases lv_cat v with e | e <;> rw [e] <;> omega
      have h8 := hsum (st'.map (sx_cv ρ ad b))
      rw [List.length_map] at h8
      refine W.objInit hx hb hown hlink hinst hcode rfl (hl.1.trans hml.symm) rfl hdg hfr ?_ k
      have h9 := lv_room (m := m) (pc := pc) (ls := ls) (rest := (sx_cv ρ ad b (.inr (.inr (.inl q))) :: st'.map (sx_cv ρ ad b))) (st := st'.map (sx_cv ρ ad b)) (by omega)
      have : 2 * (F0 m pc ls (sx_cv ρ ad b (.inr (.inr (.inl q))) :: st'.map (sx_cv ρ ad b))).monitorRoom + ((st'.map (sx_cv ρ ad b)).map fun v => v.category).sum ≤ 8 := h9
      exact Nat.le_trans (Nat.add_le_add_right this 12) (by omega)
    next => cases h
  next => cases h
end sxCells
end
section
/-! arrays -/
theorem sx_mapO_mem {α β : Type} {f : α → Option β} : ∀ {l : List α} {m : List β}, sx_mapO f l = some m → ∀ a ∈ l, ∃ t ∈ m, f a = some t
  | [], _, _, a, ha => absurd ha List.not_mem_nil
  | x :: l, m, h, a, ha => by
    unfold sx_mapO at h
    split at h
    next => cases h
    next y hy =>
      split at h
      next => cases h
      next m' hm =>
        cases h
        rcases List.mem_cons.mp ha with rfl | ha
        · exact ⟨y, List.mem_cons_self, hy⟩
        · obtain ⟨t, ht, e⟩ := sx_mapO_mem hm a ha
          exact ⟨t, List.mem_cons_of_mem _ ht, e⟩
theorem sx_iv_set {ρ : Nat → Int32} {iv : sx_Iv} (h : sx_ivOk ρ iv) (k : Nat) {lo hi : Nat} (h1 : lo ≤ sx_b (ρ k)) (h2 : sx_b (ρ k) ≤ hi) : sx_ivOk ρ (iv.set k (lo, hi)) := by
  intro j lo' hi' hj'
  by_cases hk : k = j
  · subst hk
    rw [List.getElem?_set_self'] at hj'
    cases hv : iv[k]? with
    | none => rw [hv] at hj'; cases hj'
    | some q =>
      rw [hv] at hj'
      cases hj'
      exact ⟨h1, h2⟩
  · rw [List.getElem?_set_ne hk] at hj'
    exact h j lo' hi' hj'
theorem sx_each_mem {iv : sx_Iv} {k x : Nat} : ∀ {n lo : Nat}, lo ≤ x → x < lo + n → (iv.set k (x, x), sx_bias x) ∈ sx_each iv k lo n
  | 0, lo, h1, h2 => by omega
  | n + 1, lo, h1, h2 => by
    unfold sx_each
    by_cases h : x = lo
    · subst h; exact List.mem_cons_self
    · exact List.mem_cons_of_mem _ (sx_each_mem (by omega) (by omega))
theorem sx_conc_ok {ρ : Nat → Int32} {iv : sx_Iv} (h1 : sx_ivOk ρ iv) {v : sx_V} {qs : List (sx_Iv × Nat)} (h : sx_conc iv (sx_nm iv v) = some qs) : ∃ q ∈ qs, sx_ivOk ρ q.1 ∧ q.1.length = iv.length ∧ ∀ (ad : Nat → Nat) (b : Nat), sx_cv ρ ad b v = .int (Int32.ofNat q.2) := by
  unfold sx_conc at h
  split at h
  next x hx =>
    cases h
    exact ⟨_, List.mem_cons_self, h1, rfl, fun ad b => sx_nm_c h1 ad b hx⟩
  next k hk =>
    split at h
    next lo hi hv =>
      split at h
      next =>
        cases h
        rw [sx_nth_eq] at hv
        have g := h1 k lo hi hv
        refine ⟨_, sx_each_mem (x := sx_b (ρ k)) g.1 (by omega), sx_iv_set h1 k (Nat.le_refl _) (Nat.le_refl _), by show (iv.set _ _).length = _; rw [List.length_set], fun ad b => ?_⟩
        rw [sx_nm_v h1 ad b hk]
        show Value.int (ρ k) = Value.int (Int32.ofNat (sx_bias (sx_b (ρ k))))
        rw [sx_of_b]
      next => cases h
    next => cases h
  next => cases h
theorem sx_look_del {k j : Nat} : ∀ (l : List (Nat × sx_V)), sx_look j (sx_del k l) = if j = k then none else sx_look j l
  | [] => by simp [sx_del, sx_look]
  | (i, v) :: l => by
    have ih := sx_look_del (k := k) (j := j) l
    unfold sx_del
    by_cases hik : i = k
    · rw [sx_beqT hik]
      show sx_look j (sx_del k l) = _
      rw [ih]
      by_cases hjk : j = k
      · rw [if_pos hjk, if_pos hjk]
      · rw [if_neg hjk, if_neg hjk]
        conv => rhs; unfold sx_look
        rw [sx_beqF (show i ≠ j by omega)]
    · rw [sx_beqF hik]
      show sx_look j ((i, v) :: sx_del k l) = _
      unfold sx_look
      by_cases hij : i = j
      · rw [sx_beqT hij, if_neg (show ¬ j = k by omega)]
      · rw [sx_beqF hij]
        exact ih
theorem sx_look_upd {k j : Nat} {v : sx_V} (l : List (Nat × sx_V)) : sx_look j (sx_upd k v l) = if j = k then (if sx_zero v = true then none else some v) else sx_look j l := by
  unfold sx_upd
  cases hz : sx_zero v with
  | true =>
    show sx_look j (sx_del k l) = _
    rw [sx_look_del]
    simp
  | false =>
    show sx_look j ((k, v) :: sx_del k l) = _
    conv => lhs; unfold sx_look
    by_cases hjk : j = k
    · rw [sx_beqT hjk.symm, if_pos hjk]
      simp
    · rw [sx_beqF (fun z => hjk z.symm), if_neg hjk]
      show sx_look j (sx_del k l) = _
      rw [sx_look_del, if_neg hjk]
theorem sx_upd_i {ρ : Nat → Int32} {k : Nat} {v : sx_V} (hv : sx_isInt v = true) (l : List (Nat × sx_V)) : (fun j => sx_xi ρ (sx_ald 0 (sx_upd k v l) j)) = upd (fun j => sx_xi ρ (sx_ald 0 l j)) k (sx_xi ρ v) := by
  funext j
  unfold sx_ald upd
  rw [sx_look_upd]
  by_cases hj : j = k
  · rw [if_pos hj, if_pos hj]
    cases hz : sx_zero v with
    | true =>
      match v, hv, hz with
      | .inl n, _, hz => rw [show n = 0 from Nat.eq_of_beq_eq_true hz]; rfl
      | .inr (.inl _), _, hz => cases hz
      | .inr (.inr (.inl _)), hv, _ => cases hv
      | .inr (.inr (.inr _)), hv, _ => cases hv
    | false => rfl
  · rw [if_neg hj, if_neg hj]
theorem sx_upd_r {ad : Nat → Nat} {k q : Nat} (l : List (Nat × sx_V)) : (fun j => sx_xr ad (sx_ald 4 (sx_upd k (.inr (.inr (.inl q))) l) j)) = va_up (fun j => sx_xr ad (sx_ald 4 l j)) k (some (ad q)) := by
  funext j
  unfold sx_ald va_up
  rw [sx_look_upd]
  by_cases hj : j = k
  · rw [if_pos hj, if_pos hj]
    rfl
  · rw [if_neg hj, if_neg hj]
theorem sx_vin {j n : Nat} (h : j < n) (h2 : j < 65536) : vp_in (Int32.ofNat j) n := by
  unfold vp_in
  rw [sx_clamp (by omega)]
  intro z
  rcases z with z | z
  · exact nI_pos (n := j) (by omega) z
  · omega
section sxArrays
variable {p : Program} {l : Launch} {e : Env} {R : Room} {s : State} {m : MethodId} {args : Array Value} {below : List Frame} {meth : Method} {c : Code} {Q : State → Prop} {D : va_G} {cA : Nat → ClassId} {A : Nat → Prop} {b nL : Nat} {ρ0 : Nat → Int32} {ad0 : Nat → Nat} {n0 m0 : Nat} {cc : ByteArray}
theorem sx_load_inv {sc : Bool} {pc mc ms k kd : Nat} {L : List (Nat × sx_V)} {i : sx_V} {st : List sx_V} {w : List sx_E} {iv : sx_Iv} {ss : List sx_S} (h : sx_load sc (pc, L, i :: (.inr (.inr (.inl k))) :: st, w, iv, mc, ms) kd = some ss) : ∃ n up, w[k]? = some (.inr (kd, n, up)) ∧ ∀ ρ, sx_ivOk ρ iv → ∃ iv' j, sx_ivOk ρ iv' ∧ iv'.length = iv.length ∧ (∀ (ad : Nat → Nat) (b : Nat), sx_cv ρ ad b i = .int (Int32.ofNat j)) ∧ j < n ∧ j < 65536 ∧ sx_lok kd (sx_ald kd up j) = true ∧ (pc + 1, L, sx_ald kd up j :: st, w, iv', mc, ms) ∈ ss := by
  simp only [sx_load] at h
  split at h
  next kd' n up hk =>
    split at h
    next qs hb hq =>
      rw [sx_nth_eq] at hk
      have e := Nat.eq_of_beq_eq_true hb
      subst e
      refine ⟨n, up, hk, fun ρ h1 => ?_⟩
      obtain ⟨q, hqm, g1, g2, g3⟩ := sx_conc_ok h1 hq
      obtain ⟨t, ht, he⟩ := sx_mapO_mem h q hqm
      split at he
      next hz =>
        cases he
        simp only [Bool.and_eq_true] at hz
        exact ⟨q.1, q.2, g1, g2, g3, Nat.le_of_ble_eq_true hz.1.1, Nat.le_of_ble_eq_true hz.1.2, hz.2, ht⟩
      next => cases he
    next => cases h
  next => cases h
theorem sx_store_inv {σ : sx_S} {kd : Nat} {ok : sx_V → Bool} {ss : List sx_S} (h : sx_store σ kd ok = some ss) : ∃ pc L x i k st w iv mc ms n up, σ = (pc, L, x :: i :: (.inr (.inr (.inl k))) :: st, w, iv, mc, ms) ∧ w[k]? = some (.inr (kd, n, up)) ∧ ok x = true ∧ ∀ ρ, sx_ivOk ρ iv → ∃ iv' j, sx_ivOk ρ iv' ∧ iv'.length = iv.length ∧ (∀ (ad : Nat → Nat) (b : Nat), sx_cv ρ ad b i = .int (Int32.ofNat j)) ∧ j < n ∧ j < 65536 ∧ (pc + 1, L, st, w.set k (.inr (kd, n, (sx_upd j x up))), iv', mc, ms) ∈ ss := by
  unfold sx_store at h
  split at h
  next pc L x i k st w iv mc ms =>
    split at h
    next kd' n up hk =>
      split at h
      next qs hb hq =>
        rw [sx_nth_eq] at hk
        rw [Bool.and_eq_true] at hb
        have e := Nat.eq_of_beq_eq_true hb.1
        subst e
        refine ⟨pc, L, x, i, k, st, w, iv, mc, ms, n, up, rfl, hk, hb.2, fun ρ h1 => ?_⟩
        obtain ⟨q, hqm, g1, g2, g3⟩ := sx_conc_ok h1 hq
        obtain ⟨t, ht, he⟩ := sx_mapO_mem h q hqm
        split at he
        next hz =>
          rw [sx_lay_eq, sx_setk_eq] at he
          cases he
          simp only [Bool.and_eq_true] at hz
          exact ⟨q.1, q.2, g1, g2, g3, Nat.le_of_ble_eq_true hz.1, Nat.le_of_ble_eq_true hz.2, ht⟩
        next => cases he
      next => cases h
    next => cases h
  next => cases h
theorem sx_s_iast (hx : p.tables.exec = Jvm.exec) (hb : c.code = cc) (hK : va_K D sx_clL (sx_tys cA) s) {σ : sx_S} {ss : List sx_S} (hdg : decode cc σ.1 = .ok (.iastore, 1)) (h : sx_store σ 0 sx_isInt = some ss) (K : ∀ τ ∈ ss, sx_Ok p l e R s m args below meth c Q D cA A b nL ρ0 ad0 n0 m0 τ) : sx_Ok p l e R s m args below meth c Q D cA A b nL ρ0 ad0 n0 m0 σ := by
  obtain ⟨pc, L, x, i, k, st, w, iv, mc, ms, n, up, rfl, hk, ho, hq⟩ := sx_store_inv h
  intro ρ ad H locs ls h1 h2 h3 h4 h5 hP hD hS hl
  obtain ⟨iv', j, g1, g2, g3, g4, g5, g6⟩ := hq ρ h1
  show W p l e R s m args below meth c H locs mc ms Q (F0 m pc ls (sx_cv ρ ad b x :: sx_cv ρ ad b i :: .ref (ad k) :: st.map (sx_cv ρ ad b)))
  rw [g3, sx_cv_int ho]
  have he : (sx_cW ρ ad b cA w)[k]? = some (ad k, .inl (cA 0, n, .inl (fun j => sx_xi ρ (sx_ald 0 up j)))) := by rw [sx_cW_at, hk]; rfl
  refine va_iast hx hb hK hP hD hS k 0 he rfl (sx_vin g4 g5) hdg (fun H1 locs1 hP1 hD1 hS1 => ?_)
  rw [sx_clamp (by omega), ← sx_upd_i ho] at hP1 hD1
  have e := sx_cW_set (ρ := ρ) (ad := ad) (b := b) (cA := cA) w k (.inr (0, n, (sx_upd j x up)))
  exact K _ g6 ρ ad H1 locs1 ls g1 h2 h3 (by show n0 ≤ iv'.length; rw [g2]; exact h4) (by show m0 ≤ (w.set k _).length; rw [List.length_set]; exact h5) (by show va_P D sx_clL (sx_cW ρ ad b cA (w.set k _)) H1; rw [e]; exact hP1) (by show va_D A (sx_cW ρ ad b cA (w.set k _)); rw [e]; exact hD1) hS1 hl
end sxArrays
end
section
/-! arrays: the other stores, the loads, lengths -/
section sxArrays2
variable {p : Program} {l : Launch} {e : Env} {R : Room} {s : State} {m : MethodId} {args : Array Value} {below : List Frame} {meth : Method} {c : Code} {Q : State → Prop} {D : va_G} {cA : Nat → ClassId} {A : Nat → Prop} {b nL : Nat} {ρ0 : Nat → Int32} {ad0 : Nat → Nat} {n0 m0 : Nat} {cc : ByteArray}
theorem sx_bit_nar {ρ : Nat → Int32} : ∀ {v : sx_V}, sx_bit v = true → sx_isInt v = true ∧ vp_nar .boolean (sx_xi ρ v) = sx_xi ρ v
  | .inl 0, _ => ⟨rfl, by show vp_nar .boolean (Int32.ofNat 0) = Int32.ofNat 0; decide⟩
  | .inl 1, _ => ⟨rfl, by show vp_nar .boolean (Int32.ofNat 1) = Int32.ofNat 1; decide⟩
  | .inl (k + 2), h => by
    have h' : Nat.blt (k + 2) 2 = true := h
    exact absurd (Nat.le_of_ble_eq_true h') (by omega)
  | .inr (.inl _), h => by cases h
  | .inr (.inr (.inl _)), h => by cases h
  | .inr (.inr (.inr _)), h => by cases h
theorem sx_s_zast (hx : p.tables.exec = Jvm.exec) (hb : c.code = cc) (hK : va_K D sx_clL (sx_tys cA) s) {σ : sx_S} {ss : List sx_S} (hdg : decode cc σ.1 = .ok (.bastore, 1)) (h : sx_store σ 2 sx_bit = some ss) (K : ∀ τ ∈ ss, sx_Ok p l e R s m args below meth c Q D cA A b nL ρ0 ad0 n0 m0 τ) : sx_Ok p l e R s m args below meth c Q D cA A b nL ρ0 ad0 n0 m0 σ := by
  obtain ⟨pc, L, x, i, k, st, w, iv, mc, ms, n, up, rfl, hk, ho, hq⟩ := sx_store_inv h
  intro ρ ad H locs ls h1 h2 h3 h4 h5 hP hD hS hl
  obtain ⟨iv', j, g1, g2, g3, g4, g5, g6⟩ := hq ρ h1
  obtain ⟨o1, o2⟩ := sx_bit_nar (ρ := ρ) ho
  show W p l e R s m args below meth c H locs mc ms Q (F0 m pc ls (sx_cv ρ ad b x :: sx_cv ρ ad b i :: .ref (ad k) :: st.map (sx_cv ρ ad b)))
  rw [g3, sx_cv_int o1]
  have he : (sx_cW ρ ad b cA w)[k]? = some (ad k, .inl (cA 2, n, .inl (fun j => sx_xi ρ (sx_ald 0 up j)))) := by rw [sx_cW_at, hk]; rfl
  refine va_zast hx hb hK hP hD hS k 2 he rfl (sx_vin g4 g5) hdg (fun H1 locs1 hP1 hD1 hS1 => ?_)
  rw [sx_clamp (by omega), o2, ← sx_upd_i o1] at hP1 hD1
  have e := sx_cW_set (ρ := ρ) (ad := ad) (b := b) (cA := cA) w k (.inr (2, n, (sx_upd j x up)))
  exact K _ g6 ρ ad H1 locs1 ls g1 h2 h3 (by show n0 ≤ iv'.length; rw [g2]; exact h4) (by show m0 ≤ (w.set k _).length; rw [List.length_set]; exact h5) (by show va_P D sx_clL (sx_cW ρ ad b cA (w.set k _)) H1; rw [e]; exact hP1) (by show va_D A (sx_cW ρ ad b cA (w.set k _)); rw [e]; exact hD1) hS1 hl
theorem sx_s_bast (hx : p.tables.exec = Jvm.exec) (hb : c.code = cc) (hK : va_K D sx_clL (sx_tys cA) s) {σ : sx_S} {ss : List sx_S} (hdg : decode cc σ.1 = .ok (.bastore, 1)) (h : sx_storeB σ = some ss) (K : ∀ τ ∈ ss, sx_Ok p l e R s m args below meth c Q D cA A b nL ρ0 ad0 n0 m0 τ) : sx_Ok p l e R s m args below meth c Q D cA A b nL ρ0 ad0 n0 m0 σ := by
  obtain ⟨pc, L, st0, w, iv, mc, ms⟩ := σ
  unfold sx_storeB at h
  split at h
  next pc' L' x st1 w' iv0 mc' ms' heq =>
    cases heq
    split at h
    next ho =>
      obtain ⟨hlim, h⟩ := sx_fresh_inv h
      obtain ⟨pc2, L2, x2, i, k, st, w2, iv2, mc2, ms2, n, up, heq2, hk, -, hq⟩ := sx_store_inv h
      cases heq2
      intro ρ ad H locs ls h1 h2 h3 h4 h5 hP hD hS hl
      show W p l e R s m args below meth c H locs mc ms Q (F0 m pc ls (sx_cv ρ ad b x :: (i :: (.inr (.inr (.inl k))) :: st).map (sx_cv ρ ad b)))
      simp only [sx_limS, Bool.and_eq_true] at hlim
      obtain ⟨l1, l2, l3⟩ := hlim
      rw [sx_cv_int ho]
      generalize hy : sx_xi ρ x = y
      let ρ' : Nat → Int32 := fun j => if j = iv.length then vp_nar .byte y else ρ j
      have hρ : ∀ k, k < iv.length → ρ k = ρ' k := fun k hk => (if_neg (Nat.ne_of_lt hk)).symm
      have ha : ∀ k, k < w.length → ad k = ad k := fun _ _ => rfl
      have hx' : ρ' iv.length = vp_nar .byte y := if_pos rfl
      have h1' : sx_ivOk ρ' (iv ++ [sx_full]) := by
        intro k lo' hi' hk'
        by_cases hkl : k < iv.length
        · rw [List.getElem?_append_left hkl] at hk'
          rw [← hρ k hkl]
          exact h1 k lo' hi' hk'
        · rw [List.getElem?_append_right (by omega)] at hk'
          have hz : k - iv.length < 1 := (List.getElem?_eq_some_iff.mp hk').1
          have hk0 : k = iv.length := by omega
          subst hk0
          rw [Nat.sub_self] at hk'
          cases hk'
          exact sx_full_ok _
      obtain ⟨iv', j, g1, g2, g3, g4, g5, g6⟩ := hq ρ' h1'
      rw [sx_cW_lim hρ ha (Nat.le_refl _) l3] at hP hD
      rw [sx_cL_lim hρ ha l1] at hl
      rw [sx_cS_lim hρ ha l2]
      show W p l e R s m args below meth c H locs mc ms Q (F0 m pc ls (.int y :: sx_cv ρ' ad b i :: .ref (ad k) :: st.map (sx_cv ρ' ad b)))
      rw [g3]
      have he : (sx_cW ρ' ad b cA w)[k]? = some (ad k, .inl (cA 3, n, .inl (fun j => sx_xi ρ' (sx_ald 0 up j)))) := by rw [sx_cW_at, hk]; rfl
      refine va_bast hx hb hK hP hD hS k 3 he rfl (sx_vin g4 g5) hdg (fun H1 locs1 hP1 hD1 hS1 => ?_)
      have e2 := sx_upd_i (ρ := ρ') (k := j) (v := (.inr (.inl iv.length))) rfl up
      have e3 : sx_xi ρ' (.inr (.inl iv.length)) = vp_nar .byte y := hx'
      rw [e3] at e2
      rw [sx_clamp (by omega), ← e2] at hP1 hD1
      have e := sx_cW_set (ρ := ρ') (ad := ad) (b := b) (cA := cA) w k (.inr (3, n, (sx_upd j (.inr (.inl iv.length)) up)))
      exact K _ g6 ρ' ad H1 locs1 ls g1 (fun k hk => by rw [← hρ k (Nat.lt_of_lt_of_le hk h4)]; exact h2 k hk) h3 (by show n0 ≤ iv'.length; rw [g2, List.length_append]; exact Nat.le_trans h4 (Nat.le_add_right _ _)) (by show m0 ≤ (w.set k _).length; rw [List.length_set]; exact h5) (by show va_P D sx_clL (sx_cW ρ' ad b cA (w.set k _)) H1; rw [e]; exact hP1) (by show va_D A (sx_cW ρ' ad b cA (w.set k _)); rw [e]; exact hD1) hS1 hl
    next => cases h
  next => cases h
/-! loads -/
theorem sx_s_iald (hx : p.tables.exec = Jvm.exec) (hb : c.code = cc) (hK : va_K D sx_clL (sx_tys cA) s) {pc mc ms k : Nat} {L : List (Nat × sx_V)} {i : sx_V} {st : List sx_V} {w : List sx_E} {iv : sx_Iv} {sc : Bool} {ss : List sx_S} (hdg : decode cc pc = .ok (.iaload, 1)) (h : sx_load sc (pc, L, i :: (.inr (.inr (.inl k))) :: st, w, iv, mc, ms) 0 = some ss) (K : ∀ τ ∈ ss, sx_Ok p l e R s m args below meth c Q D cA A b nL ρ0 ad0 n0 m0 τ) : sx_Ok p l e R s m args below meth c Q D cA A b nL ρ0 ad0 n0 m0 (pc, L, i :: (.inr (.inr (.inl k))) :: st, w, iv, mc, ms) := by
  obtain ⟨n, up, hk, hq⟩ := sx_load_inv h
  intro ρ ad H locs ls h1 h2 h3 h4 h5 hP hD hS hl
  obtain ⟨iv', j, g1, g2, g3, g4, g5, g7, g6⟩ := hq ρ h1
  show W p l e R s m args below meth c H locs mc ms Q (F0 m pc ls (sx_cv ρ ad b i :: .ref (ad k) :: st.map (sx_cv ρ ad b)))
  rw [g3]
  have he : (sx_cW ρ ad b cA w)[k]? = some (ad k, .inl (cA 0, n, .inl (fun j => sx_xi ρ (sx_ald 0 up j)))) := by rw [sx_cW_at, hk]; rfl
  refine va_iald hx hb hK hP k 0 he rfl (sx_vin g4 g5) hdg ?_
  rw [sx_clamp (by omega), show sx_ald 0 up j = sx_ald 0 up j from rfl, ← sx_cv_int (ad := ad) (b := b) (v := sx_ald 0 up j) g7]
  exact K _ g6 ρ ad H locs ls g1 h2 h3 (by show n0 ≤ iv'.length; rw [g2]; exact h4) h5 hP hD hS hl
theorem sx_s_zald (hx : p.tables.exec = Jvm.exec) (hb : c.code = cc) (hK : va_K D sx_clL (sx_tys cA) s) {pc mc ms k : Nat} {L : List (Nat × sx_V)} {i : sx_V} {st : List sx_V} {w : List sx_E} {iv : sx_Iv} {sc : Bool} {ss : List sx_S} (hdg : decode cc pc = .ok (.baload, 1)) (h : sx_load sc (pc, L, i :: (.inr (.inr (.inl k))) :: st, w, iv, mc, ms) 2 = some ss) (K : ∀ τ ∈ ss, sx_Ok p l e R s m args below meth c Q D cA A b nL ρ0 ad0 n0 m0 τ) : sx_Ok p l e R s m args below meth c Q D cA A b nL ρ0 ad0 n0 m0 (pc, L, i :: (.inr (.inr (.inl k))) :: st, w, iv, mc, ms) := by
  obtain ⟨n, up, hk, hq⟩ := sx_load_inv h
  intro ρ ad H locs ls h1 h2 h3 h4 h5 hP hD hS hl
  obtain ⟨iv', j, g1, g2, g3, g4, g5, g7, g6⟩ := hq ρ h1
  show W p l e R s m args below meth c H locs mc ms Q (F0 m pc ls (sx_cv ρ ad b i :: .ref (ad k) :: st.map (sx_cv ρ ad b)))
  rw [g3]
  have he : (sx_cW ρ ad b cA w)[k]? = some (ad k, .inl (cA 2, n, .inl (fun j => sx_xi ρ (sx_ald 0 up j)))) := by rw [sx_cW_at, hk]; rfl
  refine va_zald hx hb hK hP k 2 he rfl (sx_vin g4 g5) hdg ?_
  rw [sx_clamp (by omega), show sx_ald 0 up j = sx_ald 2 up j from rfl, ← sx_cv_int (ad := ad) (b := b) (v := sx_ald 2 up j) g7]
  exact K _ g6 ρ ad H locs ls g1 h2 h3 (by show n0 ≤ iv'.length; rw [g2]; exact h4) h5 hP hD hS hl
theorem sx_s_bald (hx : p.tables.exec = Jvm.exec) (hb : c.code = cc) (hK : va_K D sx_clL (sx_tys cA) s) {pc mc ms k : Nat} {L : List (Nat × sx_V)} {i : sx_V} {st : List sx_V} {w : List sx_E} {iv : sx_Iv} {sc : Bool} {ss : List sx_S} (hdg : decode cc pc = .ok (.baload, 1)) (h : sx_load sc (pc, L, i :: (.inr (.inr (.inl k))) :: st, w, iv, mc, ms) 3 = some ss) (K : ∀ τ ∈ ss, sx_Ok p l e R s m args below meth c Q D cA A b nL ρ0 ad0 n0 m0 τ) : sx_Ok p l e R s m args below meth c Q D cA A b nL ρ0 ad0 n0 m0 (pc, L, i :: (.inr (.inr (.inl k))) :: st, w, iv, mc, ms) := by
  obtain ⟨n, up, hk, hq⟩ := sx_load_inv h
  intro ρ ad H locs ls h1 h2 h3 h4 h5 hP hD hS hl
  obtain ⟨iv', j, g1, g2, g3, g4, g5, g7, g6⟩ := hq ρ h1
  show W p l e R s m args below meth c H locs mc ms Q (F0 m pc ls (sx_cv ρ ad b i :: .ref (ad k) :: st.map (sx_cv ρ ad b)))
  rw [g3]
  have he : (sx_cW ρ ad b cA w)[k]? = some (ad k, .inl (cA 3, n, .inl (fun j => sx_xi ρ (sx_ald 0 up j)))) := by rw [sx_cW_at, hk]; rfl
  refine va_bald hx hb hK hP k 3 he rfl (sx_vin g4 g5) hdg ?_
  rw [sx_clamp (by omega), show sx_ald 0 up j = sx_ald 3 up j from rfl, ← sx_cv_int (ad := ad) (b := b) (v := sx_ald 3 up j) g7]
  exact K _ g6 ρ ad H locs ls g1 h2 h3 (by show n0 ≤ iv'.length; rw [g2]; exact h4) h5 hP hD hS hl
theorem sx_xr_cv {ρ : Nat → Int32} {ad : Nat → Nat} {b : Nat} : ∀ {v : sx_V}, sx_lok 4 v = true → va_rf (sx_xr ad v) = sx_cv ρ ad b v
  | .inr (.inr (.inl _)), _ => rfl
  | .inr (.inr (.inr 0)), _ => rfl
  | .inl _, h => by cases h
  | .inr (.inl _), h => by cases h
  | .inr (.inr (.inr (k + 1))), h => by simp [sx_lok, sx_isRef, sx_isNull] at h
theorem sx_s_aald (hx : p.tables.exec = Jvm.exec) (hb : c.code = cc) (hK : va_K D sx_clL (sx_tys cA) s) {pc mc ms k : Nat} {L : List (Nat × sx_V)} {i : sx_V} {st : List sx_V} {w : List sx_E} {iv : sx_Iv} {sc : Bool} {ss : List sx_S} (hdg : decode cc pc = .ok (.aaload, 1)) (h : sx_load sc (pc, L, i :: (.inr (.inr (.inl k))) :: st, w, iv, mc, ms) 4 = some ss) (K : ∀ τ ∈ ss, sx_Ok p l e R s m args below meth c Q D cA A b nL ρ0 ad0 n0 m0 τ) : sx_Ok p l e R s m args below meth c Q D cA A b nL ρ0 ad0 n0 m0 (pc, L, i :: (.inr (.inr (.inl k))) :: st, w, iv, mc, ms) := by
  obtain ⟨n, up, hk, hq⟩ := sx_load_inv h
  intro ρ ad H locs ls h1 h2 h3 h4 h5 hP hD hS hl
  obtain ⟨iv', j, g1, g2, g3, g4, g5, g7, g6⟩ := hq ρ h1
  show W p l e R s m args below meth c H locs mc ms Q (F0 m pc ls (sx_cv ρ ad b i :: .ref (ad k) :: st.map (sx_cv ρ ad b)))
  rw [g3]
  have he : (sx_cW ρ ad b cA w)[k]? = some (ad k, .inl (cA 4, n, .inr (.inr (.inr (.inr (fun j => sx_xr ad (sx_ald 4 up j))))))) := by rw [sx_cW_at, hk]; rfl
  refine va_aldq hx hb hK hP k 4 he rfl (sx_vin g4 g5) hdg ?_
  rw [sx_clamp (by omega), sx_xr_cv (ρ := ρ) (b := b) g7]
  exact K _ g6 ρ ad H locs ls g1 h2 h3 (by show n0 ≤ iv'.length; rw [g2]; exact h4) h5 hP hD hS hl
end sxArrays2
end
section
/-! arrays: references, lengths, the script, copies -/
section sxArrays3
variable {p : Program} {l : Launch} {e : Env} {R : Room} {s : State} {m : MethodId} {args : Array Value} {below : List Frame} {meth : Method} {c : Code} {Q : State → Prop} {D : va_G} {cA : Nat → ClassId} {A : Nat → Prop} {b nL : Nat} {ρ0 : Nat → Int32} {ad0 : Nat → Nat} {n0 m0 : Nat} {cc : ByteArray}
theorem sx_storeQ_inv {σ : sx_S} {ss : List sx_S} (h : sx_storeQ σ = some ss) : (∀ pc L q i k st w iv mc ms, σ = (pc, L, (.inr (.inr (.inl q))) :: i :: (.inr (.inr (.inl k))) :: st, w, iv, mc, ms) → ∃ vs, w[q]? = some (.inl (8, vs))) ∧ sx_store σ 4 sx_isRef = some ss := by
  unfold sx_storeQ at h
  split at h
  next q st0 w iv mc ms =>
    split at h
    next ci fs hq =>
      split at h
      next hz =>
        refine ⟨fun pc L q' i k st w' iv' mc' ms' he => ?_, h⟩
        cases he
        rw [sx_nth_eq, Nat.eq_of_beq_eq_true hz] at hq
        exact ⟨fs, hq⟩
      next => cases h
    next => cases h
  next => cases h
theorem sx_s_aast (hx : p.tables.exec = Jvm.exec) (hb : c.code = cc) (hK : va_K D sx_clL (sx_tys cA) s) {σ : sx_S} {ss : List sx_S} (hdg : decode cc σ.1 = .ok (.aastore, 1)) (h : sx_storeQ σ = some ss) (K : ∀ τ ∈ ss, sx_Ok p l e R s m args below meth c Q D cA A b nL ρ0 ad0 n0 m0 τ) : sx_Ok p l e R s m args below meth c Q D cA A b nL ρ0 ad0 n0 m0 σ := by
  obtain ⟨hobj, h⟩ := sx_storeQ_inv h
  obtain ⟨pc, L, x, i, k, st, w, iv, mc, ms, n, up, rfl, hk, ho, hq⟩ := sx_store_inv h
  intro ρ ad H locs ls h1 h2 h3 h4 h5 hP hD hS hl
  obtain ⟨iv', j, g1, g2, g3, g4, g5, g6⟩ := hq ρ h1
  obtain ⟨q, rfl, hxv⟩ := sx_cv_ref (ρ := ρ) (ad := ad) (b := b) ho
  obtain ⟨vs, hvs⟩ := hobj _ _ _ _ _ _ _ _ _ _ rfl
  show W p l e R s m args below meth c H locs mc ms Q (F0 m pc ls (.ref (ad q) :: sx_cv ρ ad b i :: .ref (ad k) :: st.map (sx_cv ρ ad b)))
  rw [g3]
  have he : (sx_cW ρ ad b cA w)[k]? = some (ad k, .inl (cA 4, n, .inr (.inr (.inr (.inr (fun j => sx_xr ad (sx_ald 4 up j))))))) := by rw [sx_cW_at, hk]; rfl
  have hv : (sx_cW ρ ad b cA w)[q]? = some (ad q, .inr (8, vs.map (sx_cv ρ ad b))) := by rw [sx_cW_at, hvs]; rfl
  refine va_astq (r := (RX8, TX8, 7)) hx hb hK hP hD hS k 4 q 8 he rfl hv rfl (sx_vin g4 g5) hdg (fun H1 locs1 hP1 hD1 hS1 => ?_)
  rw [sx_clamp (by omega), ← sx_upd_r] at hP1 hD1
  have e := sx_cW_set (ρ := ρ) (ad := ad) (b := b) (cA := cA) w k (.inr (4, n, (sx_upd j (.inr (.inr (.inl q))) up)))
  exact K _ g6 ρ ad H1 locs1 ls g1 h2 h3 (by show n0 ≤ iv'.length; rw [g2]; exact h4) (by show m0 ≤ (w.set k _).length; rw [List.length_set]; exact h5) (by show va_P D sx_clL (sx_cW ρ ad b cA (w.set k _)) H1; rw [e]; exact hP1) (by show va_D A (sx_cW ρ ad b cA (w.set k _)); rw [e]; exact hD1) hS1 hl
/-- lengths of arrays that the world holds -/
theorem sx_s_alen (hx : p.tables.exec = Jvm.exec) (hb : c.code = cc) (hK : va_K D sx_clL (sx_tys cA) s) {pc mc ms k : Nat} {L : List (Nat × sx_V)} {st : List sx_V} {w : List sx_E} {iv : sx_Iv} {sc : Bool} {ss : List sx_S} (hdg : decode cc pc = .ok (.arraylength, 1)) (h : sx_alen sc (pc, L, (.inr (.inr (.inl k))) :: st, w, iv, mc, ms) = some ss) (K : ∀ τ ∈ ss, sx_Ok p l e R s m args below meth c Q D cA A b nL ρ0 ad0 n0 m0 τ) : sx_Ok p l e R s m args below meth c Q D cA A b nL ρ0 ad0 n0 m0 (pc, L, (.inr (.inr (.inl k))) :: st, w, iv, mc, ms) := by
  simp only [sx_alen] at h
  split at h
  next kd n up hk =>
    split at h
    case h_2 => cases h
    rename_i hz
    cases h
    rw [sx_nth_eq] at hk
    have hlt : kd < 5 := Nat.le_of_ble_eq_true hz
    intro ρ ad H locs ls h1 h2 h3 h4 h5 hP hD hS hl
    obtain ⟨xa, hxa, hxn⟩ : ∃ xa : vp_A, sx_cE ρ ad b cA (.inr (kd, n, up)) = .inl (cA kd, xa) ∧ xa.1 = n := ⟨_, rfl, rfl⟩
    have he : (sx_cW ρ ad b cA w)[k]? = some (ad k, .inl (cA kd, xa)) := by rw [sx_cW_at, hk, ← hxa]; rfl
    obtain ⟨ty, hty⟩ : ∃ ty, (sx_tys cA)[kd]? = some (cA kd, ty) := by
      match kd, hlt with
      | 0, _ => exact ⟨_, rfl⟩
      | 1, _ => exact ⟨_, rfl⟩
      | 2, _ => exact ⟨_, rfl⟩
      | 3, _ => exact ⟨_, rfl⟩
      | 4, _ => exact ⟨_, rfl⟩
    exact va_alen hx hb hK hP k kd he hty (v := Int32.ofNat n) (by rw [hxn]) hdg (K _ List.mem_cons_self ρ ad H locs ls h1 h2 h3 h4 h5 hP hD hS hl)
  next => cases h
theorem sx_copy_at {ρ : Nat → Int32} {src : List (Nat × sx_V)} {j : Nat} : ∀ (n sp dp : Nat) (up : List (Nat × sx_V)), sx_xi ρ (sx_ald 0 (sx_copyW src sp dp n up) j) = if dp ≤ j ∧ j < dp + n then sx_xi ρ (sx_ald 0 src (sp + (j - dp))) else sx_xi ρ (sx_ald 0 up j)
  | 0, sp, dp, up => by
    rw [if_neg (by omega)]
    rfl
  | n + 1, sp, dp, up => by
    have e : ∀ i, sx_xi ρ (sx_ald 0 (match sx_look sp src with | some v => sx_upd dp v up | none => sx_del dp up) i) = if i = dp then sx_xi ρ (sx_ald 0 src sp) else sx_xi ρ (sx_ald 0 up i) := by
      intro i
      cases hs : sx_look sp src with
      | none =>
        show sx_xi ρ ((sx_look i (sx_del dp up)).getD (sx_def 0)) = _
        rw [sx_look_del]
        by_cases hi : i = dp
        · rw [if_pos hi, if_pos hi]
          unfold sx_ald
          rw [hs]
        · rw [if_neg hi, if_neg hi]
          rfl
      | some v =>
        show sx_xi ρ ((sx_look i (sx_upd dp v up)).getD (sx_def 0)) = _
        rw [sx_look_upd]
        by_cases hi : i = dp
        · rw [if_pos hi, if_pos hi]
          unfold sx_ald
          rw [hs]
          cases hz : sx_zero v with
          | true =>
            match v, hz with
            | .inl n, hz => rw [show n = 0 from Nat.eq_of_beq_eq_true hz]; rfl
            | .inr (.inl _), hz => cases hz
            | .inr (.inr (.inl _)), hz => cases hz
            | .inr (.inr (.inr _)), _ => rfl
          | false => rfl
        · rw [if_neg hi, if_neg hi]
          rfl
    show sx_xi ρ (sx_ald 0 (sx_copyW src (sp + 1) (dp + 1) n _) j) = _
    rw [sx_copy_at n (sp + 1) (dp + 1)]
    refine (congrArg (fun z => if dp + 1 ≤ j ∧ j < dp + 1 + n then sx_xi ρ (sx_ald 0 src (sp + 1 + (j - (dp + 1)))) else z) (e j)).trans ?_
    show (if dp + 1 ≤ j ∧ j < dp + 1 + n then sx_xi ρ (sx_ald 0 src (sp + 1 + (j - (dp + 1)))) else if j = dp then sx_xi ρ (sx_ald 0 src sp) else sx_xi ρ (sx_ald 0 up j)) = _
    by_cases h1 : dp + 1 ≤ j ∧ j < dp + 1 + n
    · rw [if_pos h1, if_pos (show dp ≤ j ∧ j < dp + (n + 1) by omega), show sp + 1 + (j - (dp + 1)) = sp + (j - dp) by omega]
    · rw [if_neg h1]
      by_cases h2 : j = dp
      · rw [if_pos h2, if_pos (show dp ≤ j ∧ j < dp + (n + 1) by omega), show sp + (j - dp) = sp by omega]
      · rw [if_neg h2, if_neg (show ¬ (dp ≤ j ∧ j < dp + (n + 1)) by omega)]
end sxArrays3
end
section
/-! arraycopy; the script -/
section sxCopy
variable {p : Program} {l : Launch} {e : Env} {R : Room} {s : State} {m : MethodId} {args : Array Value} {below : List Frame} {meth : Method} {c : Code} {Q : State → Prop} {D : va_G} {cA : Nat → ClassId} {A : Nat → Prop} {b nL : Nat} {ρ0 : Nat → Int32} {ad0 : Nat → Nat} {n0 m0 : Nat} {cc : ByteArray}
theorem sx_copy_cpy {ρ : Nat → Int32} (src up : List (Nat × sx_V)) (sp dp n : Nat) : (fun j => sx_xi ρ (sx_ald 0 (sx_copyW src sp dp n up) j)) = va_cpy (fun j => sx_xi ρ (sx_ald 0 src j)) (fun j => sx_xi ρ (sx_ald 0 up j)) sp dp n := by
  funext j
  rw [sx_copy_at]
  rfl
theorem sx_s_copy (hx : p.tables.exec = Jvm.exec) (hb : c.code = cc) (hK : va_K D sx_clL (sx_tys cA) s) (hml : c.maxLocals = nL) {own : String} {index : Nat} (hown : s.vm.findClass own = some m.cls) (hlink : (Cond.methodLink own index arraycopyName).before args s = true) (hnat : (Cond.native arraycopyName).before args s = true) (hstat : (Cond.static arraycopyName).before args s = true) (hini : (Cond.initialized "java/lang/System").before args s = true) (hfr : 1 ≤ R.frames) (hlo : 8 + (nativeFrameWords "java/lang/System" "arraycopy" 5 + 11) ≤ R.locals) {σ : sx_S} {ss : List sx_S} (hdg : decode cc σ.1 = .ok (.invokestatic index, 3)) (h : sx_copy σ = some ss) (K : ∀ τ ∈ ss, sx_Ok p l e R s m args below meth c Q D cA A b nL ρ0 ad0 n0 m0 τ) : sx_Ok p l e R s m args below meth c Q D cA A b nL ρ0 ad0 n0 m0 σ := by
  obtain ⟨pc, L, st0, w, iv, mc, ms⟩ := σ
  unfold sx_copy at h
  split at h
  next pc' L' nv dv q sv pp st w' iv' mc' ms' heq =>
    cases heq
    split at h
    next kp np up kq nq uq hp hq =>
      split at h
      next n dp sp hn hdp hsp =>
        split at h
        next hz =>
          rw [sx_lay_eq, sx_setk_eq] at h
          cases h
          rw [sx_nth_eq] at hp hq
          simp only [Bool.and_eq_true] at hz
          obtain ⟨⟨⟨⟨⟨⟨⟨z1, z2⟩, z3⟩, z4⟩, z5⟩, z6⟩, z7⟩, z8⟩ := hz
          have e1 := Nat.eq_of_beq_eq_true z1
          have e2 := Nat.eq_of_beq_eq_true z2
          subst e1
          subst e2
          have y3 : sp + n ≤ np := Nat.le_of_ble_eq_true z3
          have y4 : dp + n ≤ nq := Nat.le_of_ble_eq_true z4
          have y6 : np < 65536 := Nat.le_of_ble_eq_true z6
          have y7 : nq < 65536 := Nat.le_of_ble_eq_true z7
          have y8 : st.length ≤ 4 := Nat.le_of_ble_eq_true z8
          intro ρ ad H locs ls h1 h2 h3 h4 h5 hP hD hS hl
          show W p l e R s m args below meth c H locs mc ms Q (F0 m pc ls (sx_cv ρ ad b nv :: sx_cv ρ ad b dv :: .ref (ad q) :: sx_cv ρ ad b sv :: .ref (ad pp) :: st.map (sx_cv ρ ad b)))
          rw [sx_nm_c h1 ad b hn, sx_nm_c h1 ad b hdp, sx_nm_c h1 ad b hsp]
          have hsum : ∀ l : List Value, (l.map fun v => v.category).sum ≤ 2 * l.length := by
            intro l
            induction l with
            | nil => exact Nat.le_refl _
            | cons v l ih =>
              rw [List.map_cons, List.sum_cons, List.length_cons]
              rcases lv_cat v with e | e <;> rw [e] <;> omega
          have h8 := hsum (st.map (sx_cv ρ ad b))
          rw [List.length_map] at h8
          have he0 : (sx_cW ρ ad b cA w)[pp]? = some (ad pp, .inl (cA 0, np, .inl (fun j => sx_xi ρ (sx_ald 0 up j)))) := by rw [sx_cW_at, hp]; rfl
          have he1 : (sx_cW ρ ad b cA w)[q]? = some (ad q, .inl (cA 0, nq, .inl (fun j => sx_xi ρ (sx_ald 0 uq j)))) := by rw [sx_cW_at, hq]; rfl
          have c1 : (Int32.ofNat sp).toNatClampNeg = sp := sx_clamp (by omega)
          have c2 : (Int32.ofNat dp).toNatClampNeg = dp := sx_clamp (by omega)
          have c3 : (Int32.ofNat n).toNatClampNeg = n := sx_clamp (by omega)
          refine va_copyi (ty := .int) hx hb (hml.trans hl.1.symm) hown hlink hnat hstat hini hK hP hD hS pp q 0 0 he0 he1 rfl rfl rfl (nI_pos (n := sp) (by omega)) (nI_pos (n := dp) (by omega)) (nI_pos (n := n) (by omega)) (by rw [c1, c3]; exact y3) (by rw [c2, c3]; exact y4) (fun _ _ => rfl) hfr (by omega) hdg (fun H1 locs1 hP1 hD1 hS1 => ?_)
          rw [c1, c2, c3, ← sx_copy_cpy] at hP1 hD1
          have e := sx_cW_set (ρ := ρ) (ad := ad) (b := b) (cA := cA) w q (.inr (0, nq, (sx_copyW up sp dp n uq)))
          exact K _ List.mem_cons_self ρ ad H1 locs1 ls h1 h2 h3 h4 (by show m0 ≤ (w.set q _).length; rw [List.length_set]; exact h5) (by show va_P D sx_clL (sx_cW ρ ad b cA (w.set q _)) H1; rw [e]; exact hP1) (by show va_D A (sx_cW ρ ad b cA (w.set q _)); rw [e]; exact hD1) hS1 hl
        next => cases h
      next => cases h
    next => cases h
  next => cases h
end sxCopy
end
section
/-! the script -/
section sxScript
variable {p : Program} {l : Launch} {e : Env} {R : Room} {s : State} {m : MethodId} {args : Array Value} {below : List Frame} {meth : Method} {c : Code} {Q : State → Prop} {D : va_G} {cA : Nat → ClassId} {A : Nat → Prop} {b nL : Nat} {ρ0 : Nat → Int32} {ad0 : Nat → Nat} {n0 m0 : Nat} {cc : ByteArray}
/-- what the executor knows of the script: its ints are the variables 0 to 5, its length is variable 6 -/
def sx_Scr (s : State) (A : Nat → Prop) (b : Nat) (ρ0 : Nat → Int32) (n0 LL : Nat) (xs : Nat → Int32) : Prop := va_X b LL xs s s.heap ∧ b < s.heap.size ∧ ¬ A b ∧ 7 ≤ n0 ∧ (∀ j, j < 6 → ρ0 j = xs j) ∧ ρ0 6 = Int32.ofNat LL ∧ LL < 65536
theorem sx_s_sld (hx : p.tables.exec = Jvm.exec) (hb : c.code = cc) {LL : Nat} {xs : Nat → Int32} {sc : Bool} (hsc : sc = true → sx_Scr s A b ρ0 n0 LL xs) {pc mc ms : Nat} {L : List (Nat × sx_V)} {i : sx_V} {st : List sx_V} {w : List sx_E} {iv : sx_Iv} {ss : List sx_S} (hdg : decode cc pc = .ok (.iaload, 1)) (h : sx_load sc (pc, L, i :: (.inr (.inr (.inr 2))) :: st, w, iv, mc, ms) 0 = some ss) (K : ∀ τ ∈ ss, sx_Ok p l e R s m args below meth c Q D cA A b nL ρ0 ad0 n0 m0 τ) : sx_Ok p l e R s m args below meth c Q D cA A b nL ρ0 ad0 n0 m0 (pc, L, i :: (.inr (.inr (.inr 2))) :: st, w, iv, mc, ms) := by
  simp only [sx_load] at h
  split at h
  next j hb0 hj =>
    split at h
    next lo hi h6 =>
      split at h
      next hz =>
        cases h
        rw [sx_nth_eq] at h6
        simp only [Bool.and_eq_true] at hz
        obtain ⟨hX, hbl, hbA, hn7, hρ, hρ6, hLL⟩ := hsc hz.1.1
        have z1 : j < 6 := Nat.le_of_ble_eq_true hz.1.2
        have z2 : j + 2147483648 < lo := Nat.le_of_ble_eq_true hz.2
        intro ρ ad H locs ls h1 h2 h3 h4 h5 hP hD hS hl
        have g := h1 6 lo hi h6
        rw [h2 6 (by omega), hρ6, sx_b_of] at g
        have hjL : j < LL := by
          have g1 := g.1
          unfold sx_bias at g1
          omega
        show W p l e R s m args below meth c H locs mc ms Q (F0 m pc ls (sx_cv ρ ad b i :: .ref b :: st.map (sx_cv ρ ad b)))
        rw [sx_nm_c h1 ad b hj]
        refine va_sld hx hb hX hbl hbA hS (sx_vin hjL (by omega)) hdg ?_
        rw [sx_clamp (by omega), ← hρ j z1, ← h2 j (by omega)]
        exact K _ List.mem_cons_self ρ ad H locs ls h1 h2 h3 h4 h5 hP hD hS hl
      next => cases h
    next => cases h
  next => cases h
theorem sx_s_slen (hx : p.tables.exec = Jvm.exec) (hb : c.code = cc) {LL : Nat} {xs : Nat → Int32} {sc : Bool} (hsc : sc = true → sx_Scr s A b ρ0 n0 LL xs) {pc mc ms : Nat} {L : List (Nat × sx_V)} {st : List sx_V} {w : List sx_E} {iv : sx_Iv} {ss : List sx_S} (hdg : decode cc pc = .ok (.arraylength, 1)) (h : sx_alen sc (pc, L, (.inr (.inr (.inr 2))) :: st, w, iv, mc, ms) = some ss) (K : ∀ τ ∈ ss, sx_Ok p l e R s m args below meth c Q D cA A b nL ρ0 ad0 n0 m0 τ) : sx_Ok p l e R s m args below meth c Q D cA A b nL ρ0 ad0 n0 m0 (pc, L, (.inr (.inr (.inr 2))) :: st, w, iv, mc, ms) := by
  simp only [sx_alen] at h
  split at h
  next =>
    cases h
    obtain ⟨hX, hbl, hbA, hn7, hρ, hρ6, hLL⟩ := hsc rfl
    intro ρ ad H locs ls h1 h2 h3 h4 h5 hP hD hS hl
    show W p l e R s m args below meth c H locs mc ms Q (F0 m pc ls (.ref b :: st.map (sx_cv ρ ad b)))
    refine va_slen hx hb hX hbl hbA hS hdg ?_
    rw [← hρ6, ← h2 6 (by omega)]
    exact K _ List.mem_cons_self ρ ad H locs ls h1 h2 h3 h4 h5 hP hD hS hl
  next => cases h
end sxScript
end
section
/-! words: those that hold at every call, the nest's; classes -/
def sx_TS : List Cond := lw_tbl.filter goodWord
theorem sx_in_TS {w : Cond} (h : w ∈ lw_tbl) (g : goodWord w = true) : w ∈ sx_TS := List.mem_filter.mpr ⟨h, g⟩
theorem sx_goodTS : GoodIn sx_TS sx_TS := fun _ h => ⟨h, good_of_word (List.mem_filter.mp h).2⟩
def sx_isNest : Cond → Bool
  | .fieldLinkNest .. => true
  | .methodLinkNest .. => true
  | _ => false
def sx_Nest (U : State) : Prop := ∀ w ∈ lw_tbl, sx_isNest w = true → va_Nw w U
theorem sx_Nest.warm {s U : State} (hW : s.WarmedH U.vm) (h : sx_Nest s) : sx_Nest U := by
  intro w hw hn
  have h1 := h w hw hn
  cases w <;> first | (exact va_Nw.warmF hW h1) | (exact va_Nw.warmM hW h1) | (cases hn)
theorem sx_Nest.same {s U : State} (e : s.vm = U.vm) (h : sx_Nest s) : sx_Nest U := by
  intro w hw hn
  have h1 := h w hw hn
  cases w <;> first | (cases hn; done) | (exact va_Nw.same rfl e h1)
def sx_wd (i : Nat) (w : Cond) : Bool := decide (lw_tbl[i]? = some w) && goodWord w
theorem sx_wd_ok {i : Nat} {w : Cond} (h : sx_wd i w = true) : w ∈ sx_TS := by
  unfold sx_wd at h
  rw [Bool.and_eq_true] at h
  exact sx_in_TS (List.mem_of_getElem? (of_decide_eq_true h.1)) h.2
def sx_wn (i : Nat) (w : Cond) : Bool := decide (lw_tbl[i]? = some w) && sx_isNest w
theorem sx_wn_ok {i : Nat} {w : Cond} {s : State} (hN : sx_Nest s) (h : sx_wn i w = true) : va_Nw w s := by
  unfold sx_wn at h
  rw [Bool.and_eq_true] at h
  exact hN w (List.mem_of_getElem? (of_decide_eq_true h.1)) h.2
theorem sx_allIn {l : List Cond} (h : l.all (fun w => decide (w ∈ lw_tbl) && goodWord w) = true) : ∀ w ∈ l, w ∈ sx_TS := by
  intro w hw
  have h1 := List.all_eq_true.mp h w hw
  rw [Bool.and_eq_true] at h1
  exact sx_in_TS (of_decide_eq_true h1.1) h1.2
noncomputable def sx_ty : Nat → Nat → FieldType
  | 0 => tyX0
  | 1 => tyX1
  | 2 => tyX2
  | 3 => tyX3
  | 4 => tyX4
  | 5 => tyX5
  | 6 => tyX6
  | 7 => tyX7
  | 8 => tyX8
  | 9 => tyX9
  | 10 => tyX10
  | 11 => tyX11
  | _ => tyX12
def sx_ClP (ci : Nat) (C : String) (T : u_T) (N : Nat) : Prop := (∀ w ∈ u_ws C T N, w ∈ sx_TS) ∧ (∀ k, k < N → parseFieldDescriptor (T k).2.2.1 = some (sx_ty ci k)) ∧ (∀ a, a < N → ∀ b, b < N → a ≠ b → (T a).2.1 ≠ (T b).2.1) ∧ Cond.instantiable C N ∈ sx_TS ∧ Cond.initialized C ∈ sx_TS ∧ (sx_cls ci).length = N ∧ (sx_cls ci).all sx_dfl = true ∧ ∀ j, j < N → defaultValue (sx_ty ci j) = vp_V ((sx_cls ci).map sx_cv0) j
theorem sx_cl0 : sx_ClP 0 RX0 TX0 8 := ⟨sx_allIn (by decide +kernel), tyX0_ok, nmX0, sx_wd_ok (i := 472) (by decide +kernel), sx_wd_ok (i := 175) (by decide +kernel), rfl, rfl, by decide +kernel⟩
theorem sx_cl1 : sx_ClP 1 RX1 TX1 10 := ⟨sx_allIn (by decide +kernel), tyX1_ok, nmX1, sx_wd_ok (i := 503) (by decide +kernel), sx_wd_ok (i := 176) (by decide +kernel), rfl, rfl, by decide +kernel⟩
theorem sx_cl2 : sx_ClP 2 RX2 TX2 6 := ⟨sx_allIn (by decide +kernel), tyX2_ok, nmX2, sx_wd_ok (i := 424) (by decide +kernel), sx_wd_ok (i := 172) (by decide +kernel), rfl, rfl, by decide +kernel⟩
theorem sx_cl3 : sx_ClP 3 RX3 TX3 9 := ⟨sx_allIn (by decide +kernel), tyX3_ok, nmX3, sx_wd_ok (i := 550) (by decide +kernel), sx_wd_ok (i := 177) (by decide +kernel), rfl, rfl, by decide +kernel⟩
theorem sx_cl4 : sx_ClP 4 RX4 TX4 17 := ⟨sx_allIn (by decide +kernel), tyX4_ok, nmX4, sx_wd_ok (i := 317) (by decide +kernel), sx_wd_ok (i := 170) (by decide +kernel), rfl, rfl, by decide +kernel⟩
theorem sx_cl5 : sx_ClP 5 RX5 TX5 2 := ⟨sx_allIn (by decide +kernel), tyX5_ok, nmX5, sx_wd_ok (i := 454) (by decide +kernel), sx_wd_ok (i := 173) (by decide +kernel), rfl, rfl, by decide +kernel⟩
theorem sx_cl6 : sx_ClP 6 RX6 TX6 19 := ⟨sx_allIn (by decide +kernel), tyX6_ok, nmX6, sx_wd_ok (i := 1322) (by decide +kernel), sx_wd_ok (i := 186) (by decide +kernel), rfl, rfl, by decide +kernel⟩
theorem sx_cl7 : sx_ClP 7 RX7 TX7 15 := ⟨sx_allIn (by decide +kernel), tyX7_ok, nmX7, sx_wd_ok (i := 589) (by decide +kernel), sx_wd_ok (i := 178) (by decide +kernel), rfl, rfl, by decide +kernel⟩
theorem sx_cl8 : sx_ClP 8 RX8 TX8 7 := ⟨sx_allIn (by decide +kernel), tyX8_ok, nmX8, sx_wd_ok (i := 381) (by decide +kernel), sx_wd_ok (i := 171) (by decide +kernel), rfl, rfl, by decide +kernel⟩
theorem sx_cl9 : sx_ClP 9 RX9 TX9 17 := ⟨sx_allIn (by decide +kernel), tyX9_ok, nmX9, sx_wd_ok (i := 1171) (by decide +kernel), sx_wd_ok (i := 185) (by decide +kernel), rfl, rfl, by decide +kernel⟩
theorem sx_cl10 : sx_ClP 10 RX10 TX10 19 := ⟨sx_allIn (by decide +kernel), tyX10_ok, nmX10, sx_wd_ok (i := 197) (by decide +kernel), sx_wd_ok (i := 168) (by decide +kernel), rfl, rfl, by decide +kernel⟩
theorem sx_cl11 : sx_ClP 11 RX11 TX11 13 := ⟨sx_allIn (by decide +kernel), tyX11_ok, nmX11, sx_wd_ok (i := 189) (by decide +kernel), sx_wd_ok (i := 167) (by decide +kernel), rfl, rfl, by decide +kernel⟩
theorem sx_cl12 : sx_ClP 12 RX12 TX12 80 := ⟨sx_allIn (by decide +kernel), tyX12_ok, nmX12, sx_wd_ok (i := 1792) (by decide +kernel), sx_wd_ok (i := 180) (by decide +kernel), rfl, rfl, by decide +kernel⟩
theorem sx_clOk : ∀ {ci : Nat} {C : String} {T : u_T} {N : Nat}, sx_clL[ci]? = some (C, T, N) → sx_ClP ci C T N
  | 0, _, _, _, h => by cases h; exact sx_cl0
  | 1, _, _, _, h => by cases h; exact sx_cl1
  | 2, _, _, _, h => by cases h; exact sx_cl2
  | 3, _, _, _, h => by cases h; exact sx_cl3
  | 4, _, _, _, h => by cases h; exact sx_cl4
  | 5, _, _, _, h => by cases h; exact sx_cl5
  | 6, _, _, _, h => by cases h; exact sx_cl6
  | 7, _, _, _, h => by cases h; exact sx_cl7
  | 8, _, _, _, h => by cases h; exact sx_cl8
  | 9, _, _, _, h => by cases h; exact sx_cl9
  | 10, _, _, _, h => by cases h; exact sx_cl10
  | 11, _, _, _, h => by cases h; exact sx_cl11
  | 12, _, _, _, h => by cases h; exact sx_cl12
  | n + 13, _, _, _, h => by cases h
end
section
/-! words of the JDK -/
theorem sx_w_obj1 : Cond.instanceMethod Lib.objectInit ∈ sx_TS := sx_wd_ok (i := 194) (by decide +kernel)
theorem sx_w_obj2 : Cond.code Lib.objectInit ⟨#[0xb1]⟩ 1 none ∈ sx_TS := sx_wd_ok (i := 195) (by decide +kernel)
theorem sx_w_cp1 : Cond.native arraycopyName ∈ sx_TS := sx_wd_ok (i := 655) (by decide +kernel)
theorem sx_w_cp2 : Cond.static arraycopyName ∈ sx_TS := sx_wd_ok (i := 654) (by decide +kernel)
theorem sx_w_cp3 : Cond.initialized "java/lang/System" ∈ sx_TS := sx_wd_ok (i := 179) (by decide +kernel)
theorem sx_w_mx1 : Cond.static Lib.Math.max.name ∈ sx_TS := sx_wd_ok (i := 460) (by decide +kernel)
theorem sx_w_mx2 : Cond.code Lib.Math.max.name Lib.Math.max.code 2 (some .int) ∈ sx_TS := sx_wd_ok (i := 461) (by decide +kernel)
theorem sx_w_mn1 : Cond.static Lib.Math.min.name ∈ sx_TS := sx_wd_ok (i := 730) (by decide +kernel)
theorem sx_w_mn2 : Cond.code Lib.Math.min.name Lib.Math.min.code 2 (some .int) ∈ sx_TS := sx_wd_ok (i := 731) (by decide +kernel)
theorem sx_w_mi : Cond.initialized "java/lang/Math" ∈ sx_TS := sx_wd_ok (i := 174) (by decide +kernel)
theorem sx_w_a0 : Cond.arrayClass .int ∈ sx_TS := sx_wd_ok (i := 315) (by decide +kernel)
theorem sx_w_a1 : Cond.arrayClass .long ∈ sx_TS := sx_wd_ok (i := 379) (by decide +kernel)
theorem sx_w_a2 : Cond.arrayClass .boolean ∈ sx_TS := sx_wd_ok (i := 452) (by decide +kernel)
theorem sx_w_a3 : Cond.arrayClass .byte ∈ sx_TS := sx_wd_ok (i := 903) (by decide +kernel)
end
section
/-! the methods that are reached -/
def sx_recL0 : List (Nat × MethodName × ByteArray × Nat × Option FieldType) := [(0, ⟨"java/lang/Integer", "bitCount", "(I)I"⟩, prog_15_method_49_code, 1, (some .int)), (1, ⟨"java/util/Arrays", "fill", "([II)V"⟩, prog_21_method_103_code, 4, none), (2, ⟨"TwoInOne$Course", "daysLost", "(I)I"⟩, prog_2_method_19_code, 6, (some .int)), (3, ⟨"TwoInOne$Course", "<init>", "(LTwoInOne$Told;LTwoInOne$State;)V"⟩, prog_2_method_1_code, 3, none), (4, ⟨"TwoInOne$Course", "mostFavoured", "()I"⟩, prog_2_method_16_code, 2, (some .int)), (5, ⟨"TwoInOne$Course", "passDay", "(II)V"⟩, prog_2_method_13_code, 6, none), (6, ⟨"TwoInOne$Course", "winner", "()I"⟩, prog_2_method_18_code, 4, (some .int)), (7, ⟨"TwoInOne$Course", "winnerOn", "(I)I"⟩, prog_2_method_15_code, 3, (some .int)), (8, ⟨"TwoInOne$Told", "copyFrom", "(LTwoInOne$Told;)V"⟩, prog_12_method_3_code, 2, none), (9, ⟨"TwoInOne$Told", "empty", "()V"⟩, prog_12_method_2_code, 1, none), (10, ⟨"TwoInOne$Told", "hasDeed", "(I)Z"⟩, prog_12_method_6_code, 2, (some .boolean)), (11, ⟨"TwoInOne$Told", "hasHalf", "(I)Z"⟩, prog_12_method_4_code, 2, (some .boolean)), (12, ⟨"TwoInOne$Told", "hasPerson", "(I)Z"⟩, prog_12_method_5_code, 2, (some .boolean)), (13, ⟨"TwoInOne$Told", "<init>", "()V"⟩, prog_12_method_1_code, 1, none), (14, ⟨"TwoInOne$Told", "isMember", "(II)Z"⟩, prog_12_method_8_code, 3, (some .boolean)), (15, ⟨"TwoInOne", "about", "(I)I"⟩, prog_1_method_47_code, 2, (some .int))]
def sx_recL1 : List (Nat × MethodName × ByteArray × Nat × Option FieldType) := [(0, ⟨"TwoInOne", "alibis", "(II)I"⟩, prog_1_method_42_code, 3, (some .int)), (1, ⟨"TwoInOne", "back", "(I)I"⟩, prog_1_method_46_code, 2, (some .int)), (2, ⟨"TwoInOne", "breaks", "(II)I"⟩, prog_1_method_29_code, 3, (some .int)), (3, ⟨"TwoInOne", "canDo", "(II)Z"⟩, prog_1_method_13_code, 3, (some .boolean)), (4, ⟨"TwoInOne", "cares", "(II)I"⟩, prog_1_method_30_code, 3, (some .int)), (5, ⟨"TwoInOne", "chooses", "(II)I"⟩, prog_1_method_11_code, 5, (some .int)), (6, ⟨"TwoInOne", "days", "(I)I"⟩, prog_1_method_17_code, 3, (some .int)), (7, ⟨"TwoInOne", "decree", "(II)I"⟩, prog_1_method_18_code, 4, (some .int)), (8, ⟨"TwoInOne", "die", "(I)I"⟩, prog_1_method_20_code, 2, (some .int)), (9, ⟨"TwoInOne", "elected", "(I)I"⟩, prog_1_method_34_code, 2, (some .int)), (10, ⟨"TwoInOne", "end", "(I)I"⟩, prog_1_method_4_code, 2, (some .int)), (11, ⟨"TwoInOne", "exchange", "(III)Z"⟩, prog_1_method_19_code, 4, (some .boolean)), (12, ⟨"TwoInOne", "fast", "()I"⟩, prog_1_method_33_code, 1, (some .int)), (13, ⟨"TwoInOne", "fault", "(I)I"⟩, prog_1_method_6_code, 2, (some .int)), (14, ⟨"TwoInOne", "feed", "(IIIII)I"⟩, prog_1_method_2_code, 6, (some .int)), (15, ⟨"TwoInOne", "guilt", "(III)I"⟩, prog_1_method_15_code, 7, (some .int))]
def sx_recL2 : List (Nat × MethodName × ByteArray × Nat × Option FieldType) := [(0, ⟨"TwoInOne", "half", "(II)I"⟩, prog_1_method_7_code, 3, (some .int)), (1, ⟨"TwoInOne", "hush", "()I"⟩, prog_1_method_28_code, 2, (some .int)), (2, ⟨"TwoInOne", "image", "(I)I"⟩, prog_1_method_45_code, 2, (some .int)), (3, ⟨"TwoInOne", "in", "(II)I"⟩, prog_1_method_10_code, 3, (some .int)), (4, ⟨"TwoInOne", "<init>", "()V"⟩, prog_1_method_1_code, 1, none), (5, ⟨"TwoInOne", "joy", "(II)I"⟩, prog_1_method_12_code, 3, (some .int)), (6, ⟨"TwoInOne", "keeps", "(III)I"⟩, prog_1_method_31_code, 4, (some .int)), (7, ⟨"TwoInOne", "later", "(I)I"⟩, prog_1_method_41_code, 2, (some .int)), (8, ⟨"TwoInOne", "lies", "(I)I"⟩, prog_1_method_37_code, 2, (some .int)), (9, ⟨"TwoInOne", "likes", "(II)I"⟩, prog_1_method_8_code, 3, (some .int)), (10, ⟨"TwoInOne", "next", "(I)I"⟩, prog_1_method_27_code, 2, (some .int)), (11, ⟨"TwoInOne", "pairing", "(Z)I"⟩, prog_1_method_32_code, 2, (some .int)), (12, ⟨"TwoInOne", "person", "(II)I"⟩, prog_1_method_9_code, 3, (some .int)), (13, ⟨"TwoInOne", "played", "(III)I"⟩, prog_1_method_24_code, 4, (some .int)), (14, ⟨"TwoInOne", "popular", "()I"⟩, prog_1_method_35_code, 1, (some .int)), (15, ⟨"TwoInOne", "prank", "()I"⟩, prog_1_method_21_code, 2, (some .int))]
def sx_recL3 : List (Nat × MethodName × ByteArray × Nat × Option FieldType) := [(0, ⟨"TwoInOne", "put", "(I)V"⟩, prog_1_method_3_code, 3, none), (1, ⟨"TwoInOne", "record", "(II)I"⟩, prog_1_method_14_code, 3, (some .int)), (2, ⟨"TwoInOne", "redo", "()Z"⟩, prog_1_method_23_code, 1, (some .boolean)), (3, ⟨"TwoInOne", "register", "()I"⟩, prog_1_method_5_code, 1, (some .int)), (4, ⟨"TwoInOne", "shown", "(II)I"⟩, prog_1_method_39_code, 3, (some .int)), (5, ⟨"TwoInOne", "sight", "(II)I"⟩, prog_1_method_38_code, 3, (some .int)), (6, ⟨"TwoInOne", "stolen", "(I)I"⟩, prog_1_method_36_code, 2, (some .int)), (7, ⟨"TwoInOne", "stranger", "(II)I"⟩, prog_1_method_44_code, 4, (some .int)), (8, ⟨"TwoInOne", "together", "(II)I"⟩, prog_1_method_26_code, 4, (some .int)), (9, ⟨"TwoInOne", "undo", "()Z"⟩, prog_1_method_22_code, 1, (some .boolean)), (10, ⟨"TwoInOne", "untell", "(I)Z"⟩, prog_1_method_40_code, 2, (some .boolean)), (11, ⟨"TwoInOne", "who", "(III)I"⟩, prog_1_method_43_code, 4, (some .int)), (12, ⟨"TwoInOneModel", "about", "(I)I"⟩, prog_14_method_132_code, 2, (some .int)), (13, ⟨"TwoInOneModel", "add", "(III)I"⟩, prog_14_method_115_code, 4, (some .int)), (14, ⟨"TwoInOneModel", "alibis", "(II)I"⟩, prog_14_method_125_code, 3, (some .int)), (15, ⟨"TwoInOneModel", "back", "(I)I"⟩, prog_14_method_131_code, 3, (some .int))]
def sx_recL4 : List (Nat × MethodName × ByteArray × Nat × Option FieldType) := [(0, ⟨"TwoInOneModel", "bitsOf", "(I)I"⟩, prog_14_method_43_code, 3, (some .int)), (1, ⟨"TwoInOneModel", "breaks", "(II)I"⟩, prog_14_method_96_code, 5, (some .int)), (2, ⟨"TwoInOneModel", "canBargain", "(II)Z"⟩, prog_14_method_93_code, 3, (some .boolean)), (3, ⟨"TwoInOneModel", "cares", "(II)I"⟩, prog_14_method_98_code, 4, (some .int)), (4, ⟨"TwoInOneModel", "chooses", "(II)I"⟩, prog_14_method_66_code, 4, (some .int)), (5, ⟨"TwoInOneModel", "clearBank", "()V"⟩, prog_14_method_16_code, 2, none), (6, ⟨"TwoInOneModel", "clearVotes", "()V"⟩, prog_14_method_110_code, 2, none), (7, ⟨"TwoInOneModel", "days", "(I)I"⟩, prog_14_method_75_code, 4, (some .int)), (8, ⟨"TwoInOneModel", "decree", "(II)I"⟩, prog_14_method_76_code, 6, (some .int)), (9, ⟨"TwoInOneModel", "die", "(I)I"⟩, prog_14_method_78_code, 2, (some .int)), (10, ⟨"TwoInOneModel", "elected", "(I)I"⟩, prog_14_method_112_code, 2, (some .int)), (11, ⟨"TwoInOneModel", "electedOn", "(I)I"⟩, prog_14_method_111_code, 4, (some .int)), (12, ⟨"TwoInOneModel", "end", "(I)I"⟩, prog_14_method_134_code, 2, (some .int)), (13, ⟨"TwoInOneModel", "exchange", "(III)Z"⟩, prog_14_method_77_code, 6, (some .boolean)), (14, ⟨"TwoInOneModel", "fast", "()I"⟩, prog_14_method_108_code, 1, (some .int)), (15, ⟨"TwoInOneModel", "fault", "(I)I"⟩, prog_14_method_41_code, 2, (some .int))]
def sx_recL5 : List (Nat × MethodName × ByteArray × Nat × Option FieldType) := [(0, ⟨"TwoInOneModel", "feed", "(IIIII)I"⟩, prog_14_method_133_code, 8, (some .int)), (1, ⟨"TwoInOneModel", "firstFree", "()I"⟩, prog_14_method_103_code, 2, (some .int)), (2, ⟨"TwoInOneModel", "goOn", "()V"⟩, prog_14_method_9_code, 3, none), (3, ⟨"TwoInOneModel", "goThrough", "(Z)V"⟩, prog_14_method_105_code, 9, none), (4, ⟨"TwoInOneModel", "guilt", "(III)I"⟩, prog_14_method_70_code, 6, (some .int)), (5, ⟨"TwoInOneModel", "half", "(II)I"⟩, prog_14_method_61_code, 4, (some .int)), (6, ⟨"TwoInOneModel", "hush", "()I"⟩, prog_14_method_92_code, 2, (some .int)), (7, ⟨"TwoInOneModel", "image", "(I)I"⟩, prog_14_method_130_code, 3, (some .int)), (8, ⟨"TwoInOneModel", "in", "(II)I"⟩, prog_14_method_65_code, 3, (some .int)), (9, ⟨"TwoInOneModel", "<init>", "()V"⟩, prog_14_method_1_code, 1, none), (10, ⟨"TwoInOneModel", "isDeed", "(I)Z"⟩, prog_14_method_46_code, 2, (some .boolean)), (11, ⟨"TwoInOneModel", "isFast", "()Z"⟩, prog_14_method_101_code, 3, (some .boolean)), (12, ⟨"TwoInOneModel", "isGood", "()Z"⟩, prog_14_method_6_code, 1, (some .boolean)), (13, ⟨"TwoInOneModel", "isHalf", "(I)Z"⟩, prog_14_method_44_code, 2, (some .boolean)), (14, ⟨"TwoInOneModel", "isIn", "(III)Z"⟩, prog_14_method_42_code, 3, (some .boolean)), (15, ⟨"TwoInOneModel", "isPerson", "(I)Z"⟩, prog_14_method_45_code, 2, (some .boolean))]
def sx_recL6 : List (Nat × MethodName × ByteArray × Nat × Option FieldType) := [(0, ⟨"TwoInOneModel", "isStranger", "(II)Z"⟩, prog_14_method_127_code, 5, (some .boolean)), (1, ⟨"TwoInOneModel", "joy", "(II)I"⟩, prog_14_method_67_code, 3, (some .int)), (2, ⟨"TwoInOneModel", "keepAct", "()V"⟩, prog_14_method_71_code, 2, none), (3, ⟨"TwoInOneModel", "keeps", "(III)I"⟩, prog_14_method_99_code, 4, (some .int)), (4, ⟨"TwoInOneModel", "later", "(I)I"⟩, prog_14_method_119_code, 2, (some .int)), (5, ⟨"TwoInOneModel", "lies", "(I)I"⟩, prog_14_method_82_code, 2, (some .int)), (6, ⟨"TwoInOneModel", "likedInAll", "()I"⟩, prog_14_method_102_code, 3, (some .int)), (7, ⟨"TwoInOneModel", "likes", "(II)I"⟩, prog_14_method_63_code, 3, (some .int)), (8, ⟨"TwoInOneModel", "mostVotes", "()I"⟩, prog_14_method_109_code, 3, (some .int)), (9, ⟨"TwoInOneModel", "next", "(I)I"⟩, prog_14_method_91_code, 2, (some .int)), (10, ⟨"TwoInOneModel", "pairing", "(Z)I"⟩, prog_14_method_107_code, 3, (some .int)), (11, ⟨"TwoInOneModel", "person", "(II)I"⟩, prog_14_method_64_code, 3, (some .int)), (12, ⟨"TwoInOneModel", "played", "(III)I"⟩, prog_14_method_89_code, 4, (some .int)), (13, ⟨"TwoInOneModel", "popular", "()I"⟩, prog_14_method_113_code, 2, (some .int)), (14, ⟨"TwoInOneModel", "prank", "()I"⟩, prog_14_method_79_code, 5, (some .int)), (15, ⟨"TwoInOneModel", "record", "(II)I"⟩, prog_14_method_68_code, 3, (some .int))]
def sx_recL7 : List (Nat × MethodName × ByteArray × Nat × Option FieldType) := [(0, ⟨"TwoInOneModel", "redo", "()Z"⟩, prog_14_method_81_code, 1, (some .boolean)), (1, ⟨"TwoInOneModel", "register", "()I"⟩, prog_14_method_17_code, 2, (some .int)), (2, ⟨"TwoInOneModel", "shown", "(II)I"⟩, prog_14_method_117_code, 3, (some .int)), (3, ⟨"TwoInOneModel", "sight", "(II)I"⟩, prog_14_method_116_code, 3, (some .int)), (4, ⟨"TwoInOneModel", "sign", "(I)I"⟩, prog_14_method_2_code, 2, (some .int)), (5, ⟨"TwoInOneModel", "skillsSeen", "(I)I"⟩, prog_14_method_128_code, 4, (some .int)), (6, ⟨"TwoInOneModel", "startAnew", "()V"⟩, prog_14_method_52_code, 2, none), (7, ⟨"TwoInOneModel", "stolen", "(I)I"⟩, prog_14_method_114_code, 6, (some .int)), (8, ⟨"TwoInOneModel", "stranger", "(II)I"⟩, prog_14_method_129_code, 4, (some .int)), (9, ⟨"TwoInOneModel", "takes", "(IZ)I"⟩, prog_14_method_106_code, 6, (some .int)), (10, ⟨"TwoInOneModel", "together", "(II)I"⟩, prog_14_method_90_code, 3, (some .int)), (11, ⟨"TwoInOneModel", "undo", "()Z"⟩, prog_14_method_80_code, 1, (some .boolean)), (12, ⟨"TwoInOneModel", "untell", "(I)Z"⟩, prog_14_method_118_code, 2, (some .boolean)), (13, ⟨"TwoInOneModel", "who", "(III)I"⟩, prog_14_method_126_code, 4, (some .int)), (14, ⟨"TwoInOne$Game", "<init>", "(LTwoInOne$Told;LTwoInOne$State;LTwoInOne$Course;)V"⟩, prog_3_method_1_code, 4, none), (15, ⟨"TwoInOne$History", "emptyBoxes", "()V"⟩, prog_4_method_8_code, 2, none)]
def sx_recL8 : List (Nat × MethodName × ByteArray × Nat × Option FieldType) := [(0, ⟨"TwoInOne$History", "fillBox", "(ILTwoInOne$State;)V"⟩, prog_4_method_9_code, 3, none), (1, ⟨"TwoInOne$History", "<init>", "()V"⟩, prog_4_method_1_code, 1, none), (2, ⟨"TwoInOne$History", "keepAct", "(LTwoInOne$State;)V"⟩, prog_4_method_3_code, 2, none), (3, ⟨"TwoInOne$History", "keepAt", "(ILTwoInOne$State;)V"⟩, prog_4_method_4_code, 3, none), (4, ⟨"TwoInOne$History", "restart", "(LTwoInOne$State;)V"⟩, prog_4_method_2_code, 2, none), (5, ⟨"TwoInOne$History", "stepBack", "(LTwoInOne$State;)Z"⟩, prog_4_method_5_code, 2, (some .boolean)), (6, ⟨"TwoInOne$History", "stepForth", "(LTwoInOne$State;)Z"⟩, prog_4_method_6_code, 2, (some .boolean)), (7, ⟨"TwoInOne$History", "takeFromBox", "(ILTwoInOne$State;)Z"⟩, prog_4_method_10_code, 3, (some .boolean)), (8, ⟨"TwoInOne$Pairings", "extend", "(IZ)V"⟩, prog_5_method_3_code, 5, none), (9, ⟨"TwoInOne$Pairings", "<init>", "(LTwoInOne$Told;LTwoInOne$State;)V"⟩, prog_5_method_1_code, 3, none), (10, ⟨"TwoInOne$Pairings", "isFast", "()Z"⟩, prog_5_method_7_code, 3, (some .boolean)), (11, ⟨"TwoInOne$Pairings", "judge", "()V"⟩, prog_5_method_5_code, 3, none), (12, ⟨"TwoInOne$Pairings", "search", "()V"⟩, prog_5_method_2_code, 3, none), (13, ⟨"TwoInOne$Pairings", "tellOthers", "([ILTwoInOne$Row;)V"⟩, prog_5_method_8_code, 4, none), (14, ⟨"TwoInOne$Reader", "advance", "()V"⟩, prog_6_method_22_code, 1, none), (15, ⟨"TwoInOne$Reader", "<init>", "([I)V"⟩, prog_6_method_1_code, 2, none)]
def sx_recL9 : List (Nat × MethodName × ByteArray × Nat × Option FieldType) := [(0, ⟨"TwoInOne$Reader", "read", "(I)Z"⟩, prog_6_method_2_code, 4, (some .boolean)), (1, ⟨"TwoInOne$Row", "at", "(I)I"⟩, prog_7_method_4_code, 2, (some .int)), (2, ⟨"TwoInOne$Row", "clear", "()V"⟩, prog_7_method_2_code, 1, none), (3, ⟨"TwoInOne$Row", "<init>", "(I)V"⟩, prog_7_method_1_code, 2, none), (4, ⟨"TwoInOne$Sights", "clear", "()V"⟩, prog_9_method_2_code, 1, none), (5, ⟨"TwoInOne$Sights", "explains", "(II)Z"⟩, prog_9_method_12_code, 5, (some .boolean)), (6, ⟨"TwoInOne$Sights", "<init>", "(LTwoInOne$Told;)V"⟩, prog_9_method_1_code, 2, none), (7, ⟨"TwoInOne$Sights", "strangerDays", "(I)I"⟩, prog_9_method_11_code, 3, (some .int)), (8, ⟨"TwoInOne$Sights", "strangerHalves", "(I)I"⟩, prog_9_method_13_code, 4, (some .int)), (9, ⟨"TwoInOne$Sights", "takeBack", "(I)Z"⟩, prog_9_method_4_code, 2, (some .boolean)), (10, ⟨"TwoInOne$Sights", "tell", "(III)I"⟩, prog_9_method_3_code, 4, (some .int)), (11, ⟨"TwoInOne$State", "begin", "(LTwoInOne$Told;)V"⟩, prog_10_method_2_code, 2, none), (12, ⟨"TwoInOne$State", "copyFrom", "(LTwoInOne$State;)V"⟩, prog_10_method_3_code, 2, none), (13, ⟨"TwoInOne$State", "<init>", "()V"⟩, prog_10_method_1_code, 1, none)]
def sx_recT : List (List (Nat × MethodName × ByteArray × Nat × Option FieldType)) := [sx_recL0, sx_recL1, sx_recL2, sx_recL3, sx_recL4, sx_recL5, sx_recL6, sx_recL7, sx_recL8, sx_recL9]
noncomputable def sx_rec (y : Nat) : MethodName × ByteArray × Nat × Option FieldType := (sx_find sx_recT y).getD (⟨"", "", ""⟩, ⟨#[]⟩, 0, none)
def sx_plc : List (List (Nat × Nat × Nat × Nat × Nat)) := [[(0, 1766, 187, 1765, 0), (1, 208, 169, 207, 0), (2, 1679, 175, 1677, 1678), (3, 475, 175, 474, 0), (4, 1671, 175, 1669, 1670), (5, 1030, 175, 1028, 1029), (6, 1663, 175, 1662, 78), (7, 1653, 175, 1651, 1652), (8, 889, 168, 887, 888), (9, 205, 168, 203, 204), (10, 967, 168, 965, 966), (11, 915, 168, 913, 914), (12, 936, 168, 934, 935), (13, 200, 168, 199, 0), (14, 1096, 168, 1094, 1095), (15, 1790, 167, 1788, 1789)], [(0, 1715, 167, 1713, 1714), (1, 1782, 167, 1780, 1781), (2, 1569, 167, 1567, 1568), (3, 1003, 167, 1002, 29), (4, 1594, 167, 1592, 1593), (5, 950, 167, 948, 949), (6, 1026, 167, 1024, 1025), (7, 1043, 167, 1041, 1042), (8, 1059, 167, 1057, 1058), (9, 1649, 167, 1647, 1648), (10, 720, 167, 718, 719), (11, 1047, 167, 1045, 1046), (12, 1645, 167, 1643, 1644), (13, 907, 167, 905, 906), (14, 712, 167, 710, 711), (15, 1019, 167, 1017, 1018)], [(0, 911, 167, 909, 910), (1, 1565, 167, 1563, 1564), (2, 1774, 167, 1772, 1773), (3, 940, 167, 938, 939), (4, 192, 167, 191, 0), (5, 999, 167, 997, 998), (6, 1603, 167, 1601, 1602), (7, 1710, 167, 1708, 1709), (8, 1685, 167, 1683, 1684), (9, 924, 167, 922, 923), (10, 1560, 167, 1558, 1559), (11, 1608, 167, 1606, 1607), (12, 932, 167, 930, 931), (13, 1092, 167, 1090, 1091), (14, 1667, 167, 1665, 1666), (15, 1063, 167, 1061, 1062)], [(0, 716, 167, 715, 1), (1, 1011, 167, 1009, 1010), (2, 1084, 167, 1082, 1083), (3, 724, 167, 722, 723), (4, 1698, 167, 1696, 1697), (5, 1690, 167, 1688, 1689), (6, 1675, 167, 1673, 1674), (7, 1751, 167, 1749, 1750), (8, 1143, 167, 1141, 1142), (9, 1072, 167, 1070, 1071), (10, 1702, 167, 1700, 1701), (11, 1747, 167, 1745, 1746), (12, 2573, 180, 2571, 2572), (13, 2508, 180, 2507, 158), (14, 2525, 180, 2523, 2524), (15, 2569, 180, 2567, 2568)], [(0, 2447, 180, 2446, 0), (1, 2412, 180, 2410, 2411), (2, 2416, 180, 2415, 144), (3, 2428, 180, 2426, 2427), (4, 2254, 180, 2252, 2253), (5, 1800, 180, 1799, 84), (6, 2487, 180, 2486, 156), (7, 2321, 180, 2319, 2320), (8, 2337, 180, 2335, 2336), (9, 2345, 180, 2343, 2344), (10, 2479, 180, 2477, 2478), (11, 2483, 180, 2482, 155), (12, 2581, 180, 2579, 2580), (13, 2341, 180, 2339, 2340), (14, 2475, 180, 2473, 2474), (15, 2203, 180, 2201, 2202)], [(0, 2577, 180, 2575, 2576), (1, 2451, 180, 2450, 149), (2, 2053, 180, 2052, 86), (3, 2444, 180, 2443, 148), (4, 2314, 180, 2312, 2313), (5, 2207, 180, 2205, 2206), (6, 2408, 180, 2406, 2407), (7, 2565, 180, 2563, 2564), (8, 2242, 180, 2240, 2241), (9, 1795, 180, 1794, 0), (10, 2305, 180, 2304, 133), (11, 2463, 180, 2462, 152), (12, 2091, 180, 2090, 88), (13, 2211, 180, 2210, 116), (14, 2214, 180, 2213, 0), (15, 2234, 180, 2233, 119)], [(0, 2557, 180, 2556, 164), (1, 2301, 180, 2299, 2300), (2, 2325, 180, 2324, 134), (3, 2436, 180, 2434, 2435), (4, 2520, 180, 2518, 2519), (5, 2365, 180, 2363, 2364), (6, 2471, 180, 2470, 154), (7, 2222, 180, 2220, 2221), (8, 2491, 180, 2490, 157), (9, 2404, 180, 2402, 2403), (10, 2440, 180, 2438, 2439), (11, 2230, 180, 2228, 2229), (12, 2369, 180, 2367, 2368), (13, 2495, 180, 2493, 2494), (14, 2349, 180, 2347, 2348), (15, 2310, 180, 2308, 2309)], [(0, 2361, 180, 2359, 2360), (1, 2049, 180, 2047, 2048), (2, 2512, 180, 2510, 2511), (3, 2504, 180, 2502, 2503), (4, 2057, 180, 2056, 87), (5, 2561, 180, 2560, 165), (6, 1804, 180, 1803, 85), (7, 2499, 180, 2497, 2498), (8, 2553, 180, 2551, 2552), (9, 2459, 180, 2458, 151), (10, 2400, 180, 2398, 2399), (11, 2353, 180, 2351, 2352), (12, 2516, 180, 2514, 2515), (13, 2549, 180, 2547, 2548), (14, 506, 176, 505, 0), (15, 894, 172, 892, 893)], [(0, 1778, 172, 1776, 1777), (1, 427, 172, 426, 0), (2, 1039, 172, 1037, 1038), (3, 663, 172, 662, 0), (4, 659, 172, 657, 658), (5, 1076, 172, 1074, 1075), (6, 1088, 172, 1086, 1087), (7, 1786, 172, 1784, 1785), (8, 1617, 177, 1616, 72), (9, 553, 177, 552, 0), (10, 1636, 177, 1635, 76), (11, 1625, 177, 1624, 74), (12, 1612, 177, 1610, 1611), (13, 1640, 177, 1638, 1639), (14, 737, 170, 736, 2), (15, 320, 170, 319, 0)], [(0, 728, 170, 726, 727), (1, 1589, 173, 1587, 1588), (2, 898, 173, 896, 897), (3, 457, 173, 456, 0), (4, 902, 178, 900, 901), (5, 1759, 178, 1758, 83), (6, 592, 178, 591, 0), (7, 1755, 178, 1753, 1754), (8, 1763, 178, 1761, 1762), (9, 1706, 178, 1704, 1705), (10, 1694, 178, 1692, 1693), (11, 650, 171, 648, 649), (12, 668, 171, 666, 667), (13, 384, 171, 383, 0)]]
noncomputable def sx_pl (y : Nat) : Nat × Nat × Nat × Nat := (sx_find sx_plc y).getD (0, 0, 0, 0)
theorem sx_inT1 {w : Cond} (h : w ∈ tables_1_1) : w ∈ lw_tbl := List.mem_append_right _ (List.mem_append_left _ h)
theorem sx_inT2 {w : Cond} (h : w ∈ tables_1_2) : w ∈ lw_tbl := List.mem_append_right _ (List.mem_append_right _ (List.mem_append_left _ h))
theorem sx_inT3 {w : Cond} (h : w ∈ tables_1_3) : w ∈ lw_tbl := List.mem_append_right _ (List.mem_append_right _ (List.mem_append_right _ (List.mem_append_left _ h)))
theorem sx_inT4 {w : Cond} (h : w ∈ tables_1_4) : w ∈ lw_tbl := List.mem_append_right _ (List.mem_append_right _ (List.mem_append_right _ (List.mem_append_right _ (List.mem_append_left _ h))))
theorem sx_inT5 {w : Cond} (h : w ∈ tables_1_5) : w ∈ lw_tbl := List.mem_append_right _ (List.mem_append_right _ (List.mem_append_right _ (List.mem_append_right _ (List.mem_append_right _ (List.mem_append_left _ h)))))
theorem sx_inT6 {w : Cond} (h : w ∈ tables_1_6) : w ∈ lw_tbl := List.mem_append_right _ (List.mem_append_right _ (List.mem_append_right _ (List.mem_append_right _ (List.mem_append_right _ (List.mem_append_right _ (List.mem_append_left _ h))))))
theorem sx_inT7 {w : Cond} (h : w ∈ tables_1_7) : w ∈ lw_tbl := List.mem_append_right _ (List.mem_append_right _ (List.mem_append_right _ (List.mem_append_right _ (List.mem_append_right _ (List.mem_append_right _ (List.mem_append_right _ (List.mem_append_left _ h)))))))
theorem sx_inT8 {w : Cond} (h : w ∈ tables_1_8) : w ∈ lw_tbl := List.mem_append_right _ (List.mem_append_right _ (List.mem_append_right _ (List.mem_append_right _ (List.mem_append_right _ (List.mem_append_right _ (List.mem_append_right _ (List.mem_append_right _ (List.mem_append_left _ h))))))))
theorem sx_inT9 {w : Cond} (h : w ∈ tables_1_9) : w ∈ lw_tbl := List.mem_append_right _ (List.mem_append_right _ (List.mem_append_right _ (List.mem_append_right _ (List.mem_append_right _ (List.mem_append_right _ (List.mem_append_right _ (List.mem_append_right _ (List.mem_append_right _ (List.mem_append_left _ h)))))))))
theorem sx_inT10 {w : Cond} (h : w ∈ tables_1_10) : w ∈ lw_tbl := List.mem_append_right _ (List.mem_append_right _ (List.mem_append_right _ (List.mem_append_right _ (List.mem_append_right _ (List.mem_append_right _ (List.mem_append_right _ (List.mem_append_right _ (List.mem_append_right _ (List.mem_append_right _ (List.mem_append_left _ h))))))))))
theorem sx_inT11 {w : Cond} (h : w ∈ tables_1_11) : w ∈ lw_tbl := List.mem_append_right _ (List.mem_append_right _ (List.mem_append_right _ (List.mem_append_right _ (List.mem_append_right _ (List.mem_append_right _ (List.mem_append_right _ (List.mem_append_right _ (List.mem_append_right _ (List.mem_append_right _ (List.mem_append_right _ (h)))))))))))
theorem sx_cwL0 : ∀ q ∈ sx_recL0, Cond.code q.2.1 q.2.2.1 q.2.2.2.1 q.2.2.2.2 ∈ lw_tbl := List.forall_mem_cons.mpr ⟨sx_inT7 (List.mem_of_getElem? (i := 160) rfl), List.forall_mem_cons.mpr ⟨sx_inT1 (List.mem_of_getElem? (i := 42) rfl), List.forall_mem_cons.mpr ⟨sx_inT7 (List.mem_of_getElem? (i := 73) rfl), List.forall_mem_cons.mpr ⟨sx_inT2 (List.mem_of_getElem? (i := 69) rfl), List.forall_mem_cons.mpr ⟨sx_inT7 (List.mem_of_getElem? (i := 65) rfl), List.forall_mem_cons.mpr ⟨sx_inT4 (List.mem_of_getElem? (i := 144) rfl), List.forall_mem_cons.mpr ⟨sx_inT7 (List.mem_of_getElem? (i := 57) rfl), List.forall_mem_cons.mpr ⟨sx_inT7 (List.mem_of_getElem? (i := 47) rfl), List.forall_mem_cons.mpr ⟨sx_inT4 (List.mem_of_getElem? (i := 3) rfl), List.forall_mem_cons.mpr ⟨sx_inT1 (List.mem_of_getElem? (i := 39) rfl), List.forall_mem_cons.mpr ⟨sx_inT4 (List.mem_of_getElem? (i := 81) rfl), List.forall_mem_cons.mpr ⟨sx_inT4 (List.mem_of_getElem? (i := 29) rfl), List.forall_mem_cons.mpr ⟨sx_inT4 (List.mem_of_getElem? (i := 50) rfl), List.forall_mem_cons.mpr ⟨sx_inT1 (List.mem_of_getElem? (i := 34) rfl), List.forall_mem_cons.mpr ⟨sx_inT4 (List.mem_of_getElem? (i := 210) rfl), List.forall_mem_cons.mpr ⟨sx_inT7 (List.mem_of_getElem? (i := 184) rfl), fun _ h => absurd h List.not_mem_nil⟩⟩⟩⟩⟩⟩⟩⟩⟩⟩⟩⟩⟩⟩⟩⟩
theorem sx_cwL1 : ∀ q ∈ sx_recL1, Cond.code q.2.1 q.2.2.1 q.2.2.2.1 q.2.2.2.2 ∈ lw_tbl := List.forall_mem_cons.mpr ⟨sx_inT7 (List.mem_of_getElem? (i := 109) rfl), List.forall_mem_cons.mpr ⟨sx_inT7 (List.mem_of_getElem? (i := 176) rfl), List.forall_mem_cons.mpr ⟨sx_inT6 (List.mem_of_getElem? (i := 203) rfl), List.forall_mem_cons.mpr ⟨sx_inT4 (List.mem_of_getElem? (i := 117) rfl), List.forall_mem_cons.mpr ⟨sx_inT6 (List.mem_of_getElem? (i := 228) rfl), List.forall_mem_cons.mpr ⟨sx_inT4 (List.mem_of_getElem? (i := 64) rfl), List.forall_mem_cons.mpr ⟨sx_inT4 (List.mem_of_getElem? (i := 140) rfl), List.forall_mem_cons.mpr ⟨sx_inT4 (List.mem_of_getElem? (i := 157) rfl), List.forall_mem_cons.mpr ⟨sx_inT4 (List.mem_of_getElem? (i := 173) rfl), List.forall_mem_cons.mpr ⟨sx_inT7 (List.mem_of_getElem? (i := 43) rfl), List.forall_mem_cons.mpr ⟨sx_inT3 (List.mem_of_getElem? (i := 74) rfl), List.forall_mem_cons.mpr ⟨sx_inT4 (List.mem_of_getElem? (i := 161) rfl), List.forall_mem_cons.mpr ⟨sx_inT7 (List.mem_of_getElem? (i := 39) rfl), List.forall_mem_cons.mpr ⟨sx_inT4 (List.mem_of_getElem? (i := 21) rfl), List.forall_mem_cons.mpr ⟨sx_inT3 (List.mem_of_getElem? (i := 66) rfl), List.forall_mem_cons.mpr ⟨sx_inT4 (List.mem_of_getElem? (i := 133) rfl), fun _ h => absurd h List.not_mem_nil⟩⟩⟩⟩⟩⟩⟩⟩⟩⟩⟩⟩⟩⟩⟩⟩
theorem sx_cwL2 : ∀ q ∈ sx_recL2, Cond.code q.2.1 q.2.2.1 q.2.2.2.1 q.2.2.2.2 ∈ lw_tbl := List.forall_mem_cons.mpr ⟨sx_inT4 (List.mem_of_getElem? (i := 25) rfl), List.forall_mem_cons.mpr ⟨sx_inT6 (List.mem_of_getElem? (i := 199) rfl), List.forall_mem_cons.mpr ⟨sx_inT7 (List.mem_of_getElem? (i := 168) rfl), List.forall_mem_cons.mpr ⟨sx_inT4 (List.mem_of_getElem? (i := 54) rfl), List.forall_mem_cons.mpr ⟨sx_inT1 (List.mem_of_getElem? (i := 26) rfl), List.forall_mem_cons.mpr ⟨sx_inT4 (List.mem_of_getElem? (i := 113) rfl), List.forall_mem_cons.mpr ⟨sx_inT6 (List.mem_of_getElem? (i := 237) rfl), List.forall_mem_cons.mpr ⟨sx_inT7 (List.mem_of_getElem? (i := 104) rfl), List.forall_mem_cons.mpr ⟨sx_inT7 (List.mem_of_getElem? (i := 79) rfl), List.forall_mem_cons.mpr ⟨sx_inT4 (List.mem_of_getElem? (i := 38) rfl), List.forall_mem_cons.mpr ⟨sx_inT6 (List.mem_of_getElem? (i := 194) rfl), List.forall_mem_cons.mpr ⟨sx_inT7 (List.mem_of_getElem? (i := 2) rfl), List.forall_mem_cons.mpr ⟨sx_inT4 (List.mem_of_getElem? (i := 46) rfl), List.forall_mem_cons.mpr ⟨sx_inT4 (List.mem_of_getElem? (i := 206) rfl), List.forall_mem_cons.mpr ⟨sx_inT7 (List.mem_of_getElem? (i := 61) rfl), List.forall_mem_cons.mpr ⟨sx_inT4 (List.mem_of_getElem? (i := 177) rfl), fun _ h => absurd h List.not_mem_nil⟩⟩⟩⟩⟩⟩⟩⟩⟩⟩⟩⟩⟩⟩⟩⟩
theorem sx_cwL3 : ∀ q ∈ sx_recL3, Cond.code q.2.1 q.2.2.1 q.2.2.2.1 q.2.2.2.2 ∈ lw_tbl := List.forall_mem_cons.mpr ⟨sx_inT3 (List.mem_of_getElem? (i := 70) rfl), List.forall_mem_cons.mpr ⟨sx_inT4 (List.mem_of_getElem? (i := 125) rfl), List.forall_mem_cons.mpr ⟨sx_inT4 (List.mem_of_getElem? (i := 198) rfl), List.forall_mem_cons.mpr ⟨sx_inT3 (List.mem_of_getElem? (i := 78) rfl), List.forall_mem_cons.mpr ⟨sx_inT7 (List.mem_of_getElem? (i := 92) rfl), List.forall_mem_cons.mpr ⟨sx_inT7 (List.mem_of_getElem? (i := 84) rfl), List.forall_mem_cons.mpr ⟨sx_inT7 (List.mem_of_getElem? (i := 69) rfl), List.forall_mem_cons.mpr ⟨sx_inT7 (List.mem_of_getElem? (i := 145) rfl), List.forall_mem_cons.mpr ⟨sx_inT5 (List.mem_of_getElem? (i := 17) rfl), List.forall_mem_cons.mpr ⟨sx_inT4 (List.mem_of_getElem? (i := 186) rfl), List.forall_mem_cons.mpr ⟨sx_inT7 (List.mem_of_getElem? (i := 96) rfl), List.forall_mem_cons.mpr ⟨sx_inT7 (List.mem_of_getElem? (i := 141) rfl), List.forall_mem_cons.mpr ⟨sx_inT11 (List.mem_of_getElem? (i := 7) rfl), List.forall_mem_cons.mpr ⟨sx_inT10 (List.mem_of_getElem? (i := 182) rfl), List.forall_mem_cons.mpr ⟨sx_inT10 (List.mem_of_getElem? (i := 199) rfl), List.forall_mem_cons.mpr ⟨sx_inT11 (List.mem_of_getElem? (i := 3) rfl), fun _ h => absurd h List.not_mem_nil⟩⟩⟩⟩⟩⟩⟩⟩⟩⟩⟩⟩⟩⟩⟩⟩
theorem sx_cwL4 : ∀ q ∈ sx_recL4, Cond.code q.2.1 q.2.2.1 q.2.2.2.1 q.2.2.2.2 ∈ lw_tbl := List.forall_mem_cons.mpr ⟨sx_inT10 (List.mem_of_getElem? (i := 121) rfl), List.forall_mem_cons.mpr ⟨sx_inT10 (List.mem_of_getElem? (i := 86) rfl), List.forall_mem_cons.mpr ⟨sx_inT10 (List.mem_of_getElem? (i := 90) rfl), List.forall_mem_cons.mpr ⟨sx_inT10 (List.mem_of_getElem? (i := 102) rfl), List.forall_mem_cons.mpr ⟨sx_inT9 (List.mem_of_getElem? (i := 168) rfl), List.forall_mem_cons.mpr ⟨sx_inT7 (List.mem_of_getElem? (i := 194) rfl), List.forall_mem_cons.mpr ⟨sx_inT10 (List.mem_of_getElem? (i := 161) rfl), List.forall_mem_cons.mpr ⟨sx_inT9 (List.mem_of_getElem? (i := 235) rfl), List.forall_mem_cons.mpr ⟨sx_inT10 (List.mem_of_getElem? (i := 11) rfl), List.forall_mem_cons.mpr ⟨sx_inT10 (List.mem_of_getElem? (i := 19) rfl), List.forall_mem_cons.mpr ⟨sx_inT10 (List.mem_of_getElem? (i := 153) rfl), List.forall_mem_cons.mpr ⟨sx_inT10 (List.mem_of_getElem? (i := 157) rfl), List.forall_mem_cons.mpr ⟨sx_inT11 (List.mem_of_getElem? (i := 15) rfl), List.forall_mem_cons.mpr ⟨sx_inT10 (List.mem_of_getElem? (i := 15) rfl), List.forall_mem_cons.mpr ⟨sx_inT10 (List.mem_of_getElem? (i := 149) rfl), List.forall_mem_cons.mpr ⟨sx_inT9 (List.mem_of_getElem? (i := 117) rfl), fun _ h => absurd h List.not_mem_nil⟩⟩⟩⟩⟩⟩⟩⟩⟩⟩⟩⟩⟩⟩⟩⟩
theorem sx_cwL5 : ∀ q ∈ sx_recL5, Cond.code q.2.1 q.2.2.1 q.2.2.2.1 q.2.2.2.2 ∈ lw_tbl := List.forall_mem_cons.mpr ⟨sx_inT11 (List.mem_of_getElem? (i := 11) rfl), List.forall_mem_cons.mpr ⟨sx_inT10 (List.mem_of_getElem? (i := 125) rfl), List.forall_mem_cons.mpr ⟨sx_inT8 (List.mem_of_getElem? (i := 207) rfl), List.forall_mem_cons.mpr ⟨sx_inT10 (List.mem_of_getElem? (i := 118) rfl), List.forall_mem_cons.mpr ⟨sx_inT9 (List.mem_of_getElem? (i := 228) rfl), List.forall_mem_cons.mpr ⟨sx_inT9 (List.mem_of_getElem? (i := 121) rfl), List.forall_mem_cons.mpr ⟨sx_inT10 (List.mem_of_getElem? (i := 82) rfl), List.forall_mem_cons.mpr ⟨sx_inT10 (List.mem_of_getElem? (i := 239) rfl), List.forall_mem_cons.mpr ⟨sx_inT9 (List.mem_of_getElem? (i := 156) rfl), List.forall_mem_cons.mpr ⟨sx_inT7 (List.mem_of_getElem? (i := 189) rfl), List.forall_mem_cons.mpr ⟨sx_inT9 (List.mem_of_getElem? (i := 219) rfl), List.forall_mem_cons.mpr ⟨sx_inT10 (List.mem_of_getElem? (i := 137) rfl), List.forall_mem_cons.mpr ⟨sx_inT9 (List.mem_of_getElem? (i := 5) rfl), List.forall_mem_cons.mpr ⟨sx_inT9 (List.mem_of_getElem? (i := 125) rfl), List.forall_mem_cons.mpr ⟨sx_inT9 (List.mem_of_getElem? (i := 128) rfl), List.forall_mem_cons.mpr ⟨sx_inT9 (List.mem_of_getElem? (i := 148) rfl), fun _ h => absurd h List.not_mem_nil⟩⟩⟩⟩⟩⟩⟩⟩⟩⟩⟩⟩⟩⟩⟩⟩
theorem sx_cwL6 : ∀ q ∈ sx_recL6, Cond.code q.2.1 q.2.2.1 q.2.2.2.1 q.2.2.2.2 ∈ lw_tbl := List.forall_mem_cons.mpr ⟨sx_inT10 (List.mem_of_getElem? (i := 231) rfl), List.forall_mem_cons.mpr ⟨sx_inT9 (List.mem_of_getElem? (i := 215) rfl), List.forall_mem_cons.mpr ⟨sx_inT9 (List.mem_of_getElem? (i := 239) rfl), List.forall_mem_cons.mpr ⟨sx_inT10 (List.mem_of_getElem? (i := 110) rfl), List.forall_mem_cons.mpr ⟨sx_inT10 (List.mem_of_getElem? (i := 194) rfl), List.forall_mem_cons.mpr ⟨sx_inT10 (List.mem_of_getElem? (i := 39) rfl), List.forall_mem_cons.mpr ⟨sx_inT10 (List.mem_of_getElem? (i := 145) rfl), List.forall_mem_cons.mpr ⟨sx_inT9 (List.mem_of_getElem? (i := 136) rfl), List.forall_mem_cons.mpr ⟨sx_inT10 (List.mem_of_getElem? (i := 165) rfl), List.forall_mem_cons.mpr ⟨sx_inT10 (List.mem_of_getElem? (i := 78) rfl), List.forall_mem_cons.mpr ⟨sx_inT10 (List.mem_of_getElem? (i := 114) rfl), List.forall_mem_cons.mpr ⟨sx_inT9 (List.mem_of_getElem? (i := 144) rfl), List.forall_mem_cons.mpr ⟨sx_inT10 (List.mem_of_getElem? (i := 43) rfl), List.forall_mem_cons.mpr ⟨sx_inT10 (List.mem_of_getElem? (i := 169) rfl), List.forall_mem_cons.mpr ⟨sx_inT10 (List.mem_of_getElem? (i := 23) rfl), List.forall_mem_cons.mpr ⟨sx_inT9 (List.mem_of_getElem? (i := 224) rfl), fun _ h => absurd h List.not_mem_nil⟩⟩⟩⟩⟩⟩⟩⟩⟩⟩⟩⟩⟩⟩⟩⟩
theorem sx_cwL7 : ∀ q ∈ sx_recL7, Cond.code q.2.1 q.2.2.1 q.2.2.2.1 q.2.2.2.2 ∈ lw_tbl := List.forall_mem_cons.mpr ⟨sx_inT10 (List.mem_of_getElem? (i := 35) rfl), List.forall_mem_cons.mpr ⟨sx_inT8 (List.mem_of_getElem? (i := 203) rfl), List.forall_mem_cons.mpr ⟨sx_inT10 (List.mem_of_getElem? (i := 186) rfl), List.forall_mem_cons.mpr ⟨sx_inT10 (List.mem_of_getElem? (i := 178) rfl), List.forall_mem_cons.mpr ⟨sx_inT8 (List.mem_of_getElem? (i := 211) rfl), List.forall_mem_cons.mpr ⟨sx_inT10 (List.mem_of_getElem? (i := 235) rfl), List.forall_mem_cons.mpr ⟨sx_inT7 (List.mem_of_getElem? (i := 198) rfl), List.forall_mem_cons.mpr ⟨sx_inT10 (List.mem_of_getElem? (i := 173) rfl), List.forall_mem_cons.mpr ⟨sx_inT10 (List.mem_of_getElem? (i := 227) rfl), List.forall_mem_cons.mpr ⟨sx_inT10 (List.mem_of_getElem? (i := 133) rfl), List.forall_mem_cons.mpr ⟨sx_inT10 (List.mem_of_getElem? (i := 74) rfl), List.forall_mem_cons.mpr ⟨sx_inT10 (List.mem_of_getElem? (i := 27) rfl), List.forall_mem_cons.mpr ⟨sx_inT10 (List.mem_of_getElem? (i := 190) rfl), List.forall_mem_cons.mpr ⟨sx_inT10 (List.mem_of_getElem? (i := 223) rfl), List.forall_mem_cons.mpr ⟨sx_inT2 (List.mem_of_getElem? (i := 100) rfl), List.forall_mem_cons.mpr ⟨sx_inT4 (List.mem_of_getElem? (i := 8) rfl), fun _ h => absurd h List.not_mem_nil⟩⟩⟩⟩⟩⟩⟩⟩⟩⟩⟩⟩⟩⟩⟩⟩
theorem sx_cwL8 : ∀ q ∈ sx_recL8, Cond.code q.2.1 q.2.2.1 q.2.2.2.1 q.2.2.2.2 ∈ lw_tbl := List.forall_mem_cons.mpr ⟨sx_inT7 (List.mem_of_getElem? (i := 172) rfl), List.forall_mem_cons.mpr ⟨sx_inT2 (List.mem_of_getElem? (i := 21) rfl), List.forall_mem_cons.mpr ⟨sx_inT4 (List.mem_of_getElem? (i := 153) rfl), List.forall_mem_cons.mpr ⟨sx_inT3 (List.mem_of_getElem? (i := 17) rfl), List.forall_mem_cons.mpr ⟨sx_inT3 (List.mem_of_getElem? (i := 13) rfl), List.forall_mem_cons.mpr ⟨sx_inT4 (List.mem_of_getElem? (i := 190) rfl), List.forall_mem_cons.mpr ⟨sx_inT4 (List.mem_of_getElem? (i := 202) rfl), List.forall_mem_cons.mpr ⟨sx_inT7 (List.mem_of_getElem? (i := 180) rfl), List.forall_mem_cons.mpr ⟨sx_inT7 (List.mem_of_getElem? (i := 11) rfl), List.forall_mem_cons.mpr ⟨sx_inT2 (List.mem_of_getElem? (i := 147) rfl), List.forall_mem_cons.mpr ⟨sx_inT7 (List.mem_of_getElem? (i := 30) rfl), List.forall_mem_cons.mpr ⟨sx_inT7 (List.mem_of_getElem? (i := 19) rfl), List.forall_mem_cons.mpr ⟨sx_inT7 (List.mem_of_getElem? (i := 6) rfl), List.forall_mem_cons.mpr ⟨sx_inT7 (List.mem_of_getElem? (i := 34) rfl), List.forall_mem_cons.mpr ⟨sx_inT3 (List.mem_of_getElem? (i := 91) rfl), List.forall_mem_cons.mpr ⟨sx_inT1 (List.mem_of_getElem? (i := 154) rfl), fun _ h => absurd h List.not_mem_nil⟩⟩⟩⟩⟩⟩⟩⟩⟩⟩⟩⟩⟩⟩⟩⟩
theorem sx_cwL9 : ∀ q ∈ sx_recL9, Cond.code q.2.1 q.2.2.1 q.2.2.2.1 q.2.2.2.2 ∈ lw_tbl := List.forall_mem_cons.mpr ⟨sx_inT3 (List.mem_of_getElem? (i := 82) rfl), List.forall_mem_cons.mpr ⟨sx_inT6 (List.mem_of_getElem? (i := 223) rfl), List.forall_mem_cons.mpr ⟨sx_inT4 (List.mem_of_getElem? (i := 12) rfl), List.forall_mem_cons.mpr ⟨sx_inT2 (List.mem_of_getElem? (i := 51) rfl), List.forall_mem_cons.mpr ⟨sx_inT4 (List.mem_of_getElem? (i := 16) rfl), List.forall_mem_cons.mpr ⟨sx_inT7 (List.mem_of_getElem? (i := 153) rfl), List.forall_mem_cons.mpr ⟨sx_inT2 (List.mem_of_getElem? (i := 186) rfl), List.forall_mem_cons.mpr ⟨sx_inT7 (List.mem_of_getElem? (i := 149) rfl), List.forall_mem_cons.mpr ⟨sx_inT7 (List.mem_of_getElem? (i := 157) rfl), List.forall_mem_cons.mpr ⟨sx_inT7 (List.mem_of_getElem? (i := 100) rfl), List.forall_mem_cons.mpr ⟨sx_inT7 (List.mem_of_getElem? (i := 88) rfl), List.forall_mem_cons.mpr ⟨sx_inT3 (List.mem_of_getElem? (i := 4) rfl), List.forall_mem_cons.mpr ⟨sx_inT3 (List.mem_of_getElem? (i := 22) rfl), List.forall_mem_cons.mpr ⟨sx_inT1 (List.mem_of_getElem? (i := 218) rfl), fun _ h => absurd h List.not_mem_nil⟩⟩⟩⟩⟩⟩⟩⟩⟩⟩⟩⟩⟩⟩
theorem sx_cwT : ∀ r ∈ sx_recT, ∀ q ∈ r, Cond.code q.2.1 q.2.2.1 q.2.2.2.1 q.2.2.2.2 ∈ lw_tbl := List.forall_mem_cons.mpr ⟨sx_cwL0, List.forall_mem_cons.mpr ⟨sx_cwL1, List.forall_mem_cons.mpr ⟨sx_cwL2, List.forall_mem_cons.mpr ⟨sx_cwL3, List.forall_mem_cons.mpr ⟨sx_cwL4, List.forall_mem_cons.mpr ⟨sx_cwL5, List.forall_mem_cons.mpr ⟨sx_cwL6, List.forall_mem_cons.mpr ⟨sx_cwL7, List.forall_mem_cons.mpr ⟨sx_cwL8, List.forall_mem_cons.mpr ⟨sx_cwL9, fun _ h => absurd h List.not_mem_nil⟩⟩⟩⟩⟩⟩⟩⟩⟩⟩
theorem sx_row_mem {α : Type} {k : Nat} {x : α} : ∀ {l : List (Nat × α)}, sx_row k l = some x → (k, x) ∈ l
  | [], h => by cases h
  | (j, u) :: l, h => by
    unfold sx_row at h
    split at h
    next hj =>
      cases h
      rw [Nat.eq_of_beq_eq_true hj]
      exact List.mem_cons_self
    next => exact List.mem_cons_of_mem _ (sx_row_mem h)
theorem sx_find_mem {α : Type} {t : List (List (Nat × α))} {k : Nat} {x : α} (h : sx_find t k = some x) : ∃ row j, row ∈ t ∧ (j, x) ∈ row := by
  unfold sx_find at h
  split at h
  next l hl => exact ⟨l, _, List.mem_of_getElem? hl, sx_row_mem h⟩
  next => cases h
noncomputable def sx_ws (y : Nat) : List Cond := Cond.code (sx_rec y).1 (sx_rec y).2.1 (sx_rec y).2.2.1 (sx_rec y).2.2.2 :: sx_TS
/-- what holds of a method's words -/
def sx_MP (y : Nat) : Prop := plainName (sx_rec y).1.cls = true ∧ (sx_rec y).1.cls ≠ "java/lang/invoke/MethodHandle" ∧ (sx_rec y).1.cls ≠ "java/lang/invoke/VarHandle" ∧ Cond.code (sx_rec y).1 (sx_rec y).2.1 (sx_rec y).2.2.1 (sx_rec y).2.2.2 ∈ sx_TS ∧ Cond.initialized (sx_rec y).1.cls ∈ sx_TS ∧ (sx_rec y).2.2.1 ≤ 45 ∧ (sx_rc y = 0 → Cond.static (sx_rec y).1 ∈ sx_TS) ∧ ∀ ci, sx_rc y = ci + 1 → Cond.instanceMethod (sx_rec y).1 ∈ sx_TS ∧ (sx_clL[ci]?).map (fun q => q.1) = some (sx_rec y).1.cls ∧ ((sx_rec y).1.name = "<init>" ∨ Cond.selects (sx_rec y).1.cls (sx_rec y).1 (sx_rec y).1 ∈ sx_TS)
noncomputable def sx_mchk2 (rc : Nat) (nm : MethodName) (pm ps : Nat) : Bool := match rc with
  | 0 => sx_wd pm (.static nm)
  | ci + 1 => sx_wd pm (.instanceMethod nm) && (decide ((sx_clL[ci]?).map (fun q => q.1) = some nm.cls) && (decide (nm.name = "<init>") || sx_wd ps (.selects nm.cls nm nm)))
noncomputable def sx_mchk (y : Nat) : Bool := match sx_rec y, sx_pl y with
  | (nm, by_, ml, rt), (pc, pi, pm, ps) => plainName nm.cls && (decide (nm.cls ≠ "java/lang/invoke/MethodHandle") && (decide (nm.cls ≠ "java/lang/invoke/VarHandle") && ((sx_find sx_recT y).isSome && (sx_wd pi (.initialized nm.cls) && (Nat.ble ml 45 && sx_mchk2 (sx_rc y) nm pm ps)))))
theorem sx_mchk_ok {y : Nat} (h : sx_mchk y = true) : sx_MP y := by
  unfold sx_mchk at h
  unfold sx_MP
  have hcw : (sx_find sx_recT y).isSome = true → Cond.code (sx_rec y).1 (sx_rec y).2.1 (sx_rec y).2.2.1 (sx_rec y).2.2.2 ∈ sx_TS := by
    intro g
    unfold sx_rec
    cases hf : sx_find sx_recT y with
    | none => rw [hf] at g; cases g
    | some r =>
      obtain ⟨row, j, h1, h2⟩ := sx_find_mem hf
      exact sx_in_TS (sx_cwT row h1 _ h2) rfl
  generalize sx_rec y = r at h hcw ⊢
  obtain ⟨nm, by_, ml, rt⟩ := r
  generalize sx_pl y = q at h
  obtain ⟨pc, pi, pm, ps⟩ := q
  simp only [Bool.and_eq_true] at h
  obtain ⟨h1, h2, h3, h4, h5, h6, h7⟩ := h
  refine ⟨h1, of_decide_eq_true h2, of_decide_eq_true h3, hcw h4, sx_wd_ok h5, Nat.le_of_ble_eq_true h6, fun e => ?_, fun ci e => ?_⟩
  · rw [e] at h7
    exact sx_wd_ok h7
  · rw [e] at h7
    simp only [sx_mchk2, Bool.and_eq_true, Bool.or_eq_true] at h7
    refine ⟨sx_wd_ok h7.1, of_decide_eq_true h7.2.1, ?_⟩
    rcases h7.2.2 with g | g
    · exact Or.inl (of_decide_eq_true g)
    · exact Or.inr (sx_wd_ok g)

theorem sx_mc0 : ((List.range 16).map (0 + ·)).all sx_mchk = true := by decide +kernel
theorem sx_mc1 : ((List.range 16).map (16 + ·)).all sx_mchk = true := by decide +kernel
theorem sx_mc2 : ((List.range 16).map (32 + ·)).all sx_mchk = true := by decide +kernel
theorem sx_mc3 : ((List.range 16).map (48 + ·)).all sx_mchk = true := by decide +kernel
theorem sx_mc4 : ((List.range 16).map (64 + ·)).all sx_mchk = true := by decide +kernel
theorem sx_mc5 : ((List.range 16).map (80 + ·)).all sx_mchk = true := by decide +kernel
theorem sx_mc6 : ((List.range 16).map (96 + ·)).all sx_mchk = true := by decide +kernel
theorem sx_mc7 : ((List.range 16).map (112 + ·)).all sx_mchk = true := by decide +kernel
theorem sx_mc8 : ((List.range 16).map (128 + ·)).all sx_mchk = true := by decide +kernel
theorem sx_mc9 : ((List.range 14).map (144 + ·)).all sx_mchk = true := by decide +kernel
theorem sx_mok {y : Nat} (h : y < 158) : sx_MP y := by
  have h2 : ∀ k, k < 10 → ((List.range (min 16 (158 - 16 * k))).map (16 * k + ·)).all sx_mchk = true := by
    intro k hk
    match k, hk with
    | 0, _ => exact sx_mc0
    | 1, _ => exact sx_mc1
    | 2, _ => exact sx_mc2
    | 3, _ => exact sx_mc3
    | 4, _ => exact sx_mc4
    | 5, _ => exact sx_mc5
    | 6, _ => exact sx_mc6
    | 7, _ => exact sx_mc7
    | 8, _ => exact sx_mc8
    | 9, _ => exact sx_mc9
    | n + 10, h => omega
  exact sx_mchk_ok (List.all_eq_true.mp (h2 (y / 16) (by omega)) y (List.mem_map.mpr ⟨y % 16, List.mem_range.mpr (by omega), by omega⟩))
end
section
/-! calls: the contract that the executor gives of a method, and its use -/
def sx_QC (D : va_G) (cA : Nat → ClassId) (b : Nat) (Ls : List sx_L) (ρ : Nat → Int32) (ad : Nat → Nat) (n0 m0 : Nat) (A : Nat → Prop) : Array Value → State → Outcome → State → Prop := fun _ st oc t => (∃ L ∈ Ls, ∃ (ρ' : Nat → Int32) (ad' : Nat → Nat), oc = .returned (L.1.map (sx_cv ρ' ad' b)) ∧ sx_ivOk ρ' L.2.2 ∧ (∀ k, k < n0 → ρ' k = ρ k) ∧ (∀ k, k < m0 → ad' k = ad k) ∧ n0 ≤ L.2.2.length ∧ m0 ≤ L.2.1.length ∧ va_P D sx_clL (sx_cW ρ' ad' b cA L.2.1) t.heap ∧ va_D A (sx_cW ρ' ad' b cA L.2.1)) ∧ va_F A st t
def sx_PC (D : va_G) (cA : Nat → ClassId) (b : Nat) (ρ : Nat → Int32) (ad : Nat → Nat) (w : List sx_E) (sz : Nat) : State → Prop := fun U => U.heap.size = sz ∧ va_P D sx_clL (sx_cW ρ ad b cA w) U.heap ∧ va_K D sx_clL (sx_tys cA) U ∧ va_D (fun _ => True) (sx_cW ρ ad b cA w) ∧ sx_Nest U ∧ va_AO "TwoInOne$State" U
noncomputable def sx_rm (d y : Nat) : Room := { frames := d, cells := (sx_caps y).1, slots := (sx_caps y).2, locals := 64 * d }
/-- K's leaves are true of the methods, in d frames -/
def sx_KOk (l : Launch) (K : sx_K) (d : Nat) : Prop := ∀ (y : Nat) (av : List sx_V) (w : List sx_E) (iv : sx_Iv) (Ls : List sx_L), K y av w iv = some Ls → y < 158 ∧ sx_rok w (sx_rc y) av = true ∧ (av.length ≤ (sx_rec y).2.2.1 → ∀ (D : va_G) (cA : Nat → ClassId) (b : Nat) (ρ : Nat → Int32) (ad : Nat → Nat) (sz : Nat), sx_ivOk ρ iv →
  Met l (sx_rec y).1 (sx_ws y) (sx_rm d y) (va_Pc (av.map (sx_cv ρ ad b)) (sx_PC D cA b ρ ad w sz)) (sx_QC D cA b Ls ρ ad iv.length w.length (va_A (sx_cW ρ ad b cA w) sz)) (sx_caps y).1 (sx_caps y).2 (va_A (sx_cW ρ ad b cA w) sz))
theorem sx_PC.calling {D : va_G} {cA : Nat → ClassId} {b : Nat} {ρ : Nat → Int32} {ad : Nat → Nat} {w : List sx_E} {sz : Nat} {av : List Value} : FrameBlind (va_Pc av (sx_PC D cA b ρ ad w sz)) := by
  intro a U g mk q
  obtain ⟨q0, q1, qP, qK, qD, qN, qO⟩ := q
  exact ⟨q0, q1, qP, va_K.moved (u := U) (U := U.calling g mk a) (Vm.Alike.refl U.vm) qK, qD, sx_Nest.same (s := U) (U := U.calling g mk a) rfl qN, va_AO.moved (u := U) (U := U.calling g mk a) (Vm.Alike.refl U.vm) qO⟩
theorem sx_PC.warm {D : va_G} {cA : Nat → ClassId} {b : Nat} {ρ : Nat → Int32} {ad : Nat → Nat} {w : List sx_E} {s : State} {H : Heap} {A : Nat → Prop} (hP : va_P D sx_clL (sx_cW ρ ad b cA w) H) (hK : va_K D sx_clL (sx_tys cA) s) (hD : va_D A (sx_cW ρ ad b cA w)) (hN : sx_Nest s) (hO : va_AO "TwoInOne$State" s) (av : List Value) : ∀ U : State, U.heap = H → s.WarmedH U.vm → va_Pc av (sx_PC D cA b ρ ad w H.size) av.toArray U :=
  fun U hU hW => ⟨rfl, by rw [hU], by rw [hU]; exact hP, va_K.moved hW.alike hK, hD.weaken (fun _ _ _ _ => trivial), hN.warm hW, hO.moved hW.alike⟩
theorem sx_take_ok : ∀ {n : Nat} {acc st av st' : List sx_V}, sx_take n acc st = some (av, st') → ∃ l, av = l ++ acc ∧ st = l.reverse ++ st' ∧ l.length = n
  | 0, acc, st, av, st', h => by
    simp only [sx_take] at h
    cases h
    exact ⟨[], rfl, rfl, rfl⟩
  | n + 1, acc, v :: st, av, st', h => by
    simp only [sx_take] at h
    obtain ⟨l, h1, h2, h3⟩ := sx_take_ok h
    refine ⟨l ++ [v], ?_, ?_, ?_⟩
    · rw [h1, List.append_assoc]; rfl
    · rw [h2, List.reverse_append]; rfl
    · rw [List.length_append, h3]; rfl
  | n + 1, acc, [], av, st', h => by
    simp only [sx_take] at h
    cases h
theorem sx_bind_mem {α β : Type} {f : α → Option (List β)} : ∀ {l : List α} {m : List β}, sx_bind f l = some m → ∀ a ∈ l, ∃ r, f a = some r ∧ ∀ x ∈ r, x ∈ m
  | [], _, _, a, ha => absurd ha List.not_mem_nil
  | [b], m, h, a, ha => by
    simp only [sx_bind] at h
    rw [List.mem_singleton.mp ha]
    exact ⟨m, h, fun _ hx => hx⟩
  | b :: b2 :: l, m, h, a, ha => by
    unfold sx_bind at h
    simp only at h
    split at h
    next => cases h
    next r hr =>
      split at h
      next => cases h
      next m2 hm =>
        cases h
        rcases List.mem_cons.mp ha with e | e
        · rw [e]
          exact ⟨r, hr, fun x hx => List.mem_append_left _ hx⟩
        · obtain ⟨r2, g1, g2⟩ := sx_bind_mem hm a e
          exact ⟨r2, g1, fun x hx => List.mem_append_right _ (g2 x hx)⟩
theorem sx_sum8 {ρ : Nat → Int32} {ad : Nat → Nat} {b : Nat} {st : List sx_V} (z : st.length ≤ 4) : ((st.map (sx_cv ρ ad b)).map fun v => v.category).sum ≤ 8 := by
  have hsum : ∀ l : List Value, (l.map fun v => v.category).sum ≤ 2 * l.length := by
    intro l
    induction l with
    | nil => exact Nat.le_refl _
    | cons v l ih =>
      rw [List.map_cons, List.sum_cons, List.length_cons]
      rcases lv_cat v with e | e <;> rw [e] <;> omega
  have h8 := hsum (st.map (sx_cv ρ ad b))
  rw [List.length_map] at h8
  omega
section sxCall
variable {p : Program} {l : Launch} {e : Env} {R : Room} {s : State} {m : MethodId} {args : Array Value} {below : List Frame} {meth : Method} {c : Code} {Q : State → Prop} {D : va_G} {cA : Nat → ClassId} {A : Nat → Prop} {b nL : Nat} {ρ0 : Nat → Int32} {ad0 : Nat → Nat} {n0 m0 : Nat} {cc : ByteArray}
theorem sx_callG {H : Heap} {locs : List Loc} {cells slots mc ms pc : Nat} {ls : Array Slot} {st0 rest : List Value} {Qa : State → Outcome → State → Prop} {free : Addr → Prop} (hr : va_Run p l e R s m args below meth c H locs cells slots mc ms (F0 m pc ls st0) rest Qa free)
    (kk : ∀ (v : Option Value) (st₀ t : State) (L : List Loc), st₀.heap = H → Qa st₀ (.returned v) t → (∀ q ∈ L, free q.base) → W p l e R s m args below meth c t.heap (locs ++ L) (cells + mc) (slots + ms) Q (F0 m (pc + 3) ls (v.toList ++ rest))) : W p l e R s m args below meth c H locs cells slots Q (F0 m pc ls st0) := by
  intro T hT X
  obtain ⟨v, st₀, t, T', L, h0, X', hL, e1, e2, hq, st⟩ := hr T hT X
  obtain ⟨t2, a1, b1⟩ := kk v st₀ t L h0 hq hL T' e1 X'
  exact ⟨t2, st t2 a1, b1⟩
/-- what a method's body knows -/
def sx_Cx (p : Program) (s : State) (m : MethodId) (args : Array Value) (c : Code) (D : va_G) (cA : Nat → ClassId) (own : String) (cc : ByteArray) (nL : Nat) : Prop :=
  p.tables.exec = Jvm.exec ∧ c.code = cc ∧ c.maxLocals = nL ∧ s.vm.findClass own = some m.cls ∧ (∀ w ∈ sx_TS, w.before args s = true) ∧ sx_Nest s ∧ va_AO "TwoInOne$State" s ∧ va_K D sx_clL (sx_tys cA) s
/-- how method y is called: by which instruction, its link, its values -/
def sx_Lk (s : State) (args : Array Value) (own : String) (y n : Nat) (I : Instr) : Prop :=
  (∃ i, I = .invokevirtual i ∧ (Cond.methodLink own i (sx_rec y).1).before args s = true ∧ (∃ ci, sx_rc y = ci + 1) ∧ (sx_rec y).1.name ≠ "<init>" ∧ (parseMethodDescriptor (sx_rec y).1.desc).map (fun d => d.parameters.length) = some (n - 1)) ∨
  (∃ i, I = .invokespecial i ∧ (Cond.methodLink own i (sx_rec y).1).before args s = true ∧ (∃ ci, sx_rc y = ci + 1) ∧ (sx_rec y).1.name = "<init>" ∧ (sx_rec y).2.2.2 = none ∧ (parseMethodDescriptor (sx_rec y).1.desc).map (fun d => d.parameters.length) = some (n - 1)) ∨
  (∃ i host, I = .invokespecial i ∧ va_Nw (.methodLinkNest own i (sx_rec y).1 host) s ∧ (∃ ci, sx_rc y = ci + 1) ∧ (sx_rec y).1.name = "<init>" ∧ (sx_rec y).2.2.2 = none ∧ (parseMethodDescriptor (sx_rec y).1.desc).map (fun d => d.parameters.length) = some (n - 1)) ∨
  (∃ i, I = .invokestatic i ∧ (Cond.methodLink own i (sx_rec y).1).before args s = true ∧ sx_rc y = 0 ∧ (parseMethodDescriptor (sx_rec y).1.desc).map (fun d => d.parameters.length) = some n)
theorem sx_rok_inv {w : List sx_E} {ci : Nat} {av : List sx_V} (h : sx_rok w (ci + 1) av = true) : ∃ q t fs, av = (.inr (.inr (.inl q))) :: t ∧ w[q]? = some (.inl (ci, fs)) := by
  unfold sx_rok at h
  simp only at h
  split at h
  next q t =>
    split at h
    next c' fs hq =>
      rw [sx_nth_eq] at hq
      rw [Nat.eq_of_beq_eq_true h] at hq
      exact ⟨q, t, fs, rfl, hq⟩
    next => cases h
  next => cases h
theorem sx_runC {own : String} (C : sx_Cx p s m args c D cA own cc nL) {d y n : Nat} {I : Instr} (hL : sx_Lk s args own y n I) (hfr : d + 1 ≤ R.frames) (hlo : 64 * (d + 1) ≤ R.locals) {av : List sx_V} {w : List sx_E} {iv : sx_Iv} {Ls : List sx_L} (hy : y < 158) (hrok : sx_rok w (sx_rc y) av = true) (hn : av.length = n) {ρ : Nat → Int32} {ad : Nat → Nat} {H : Heap} {locs : List Loc} {mc ms pc : Nat} {ls : Array Slot} {st : List sx_V}
    (hM : Met l (sx_rec y).1 (sx_ws y) (sx_rm d y) (va_Pc (av.map (sx_cv ρ ad b)) (sx_PC D cA b ρ ad w H.size)) (sx_QC D cA b Ls ρ ad iv.length w.length (va_A (sx_cW ρ ad b cA w) H.size)) (sx_caps y).1 (sx_caps y).2 (va_A (sx_cW ρ ad b cA w) H.size))
    (hP : va_P D sx_clL (sx_cW ρ ad b cA w) H) (hD : va_D A (sx_cW ρ ad b cA w)) (hls : ls.size = nL) (hst : st.length ≤ 4) (hc : mc + (sx_caps y).1 ≤ R.cells) (hs : ms + (sx_caps y).2 ≤ R.slots) (hdg : decode cc pc = .ok (I, 3)) :
    va_Run p l e R s m args below meth c H locs mc ms (sx_caps y).1 (sx_caps y).2 (F0 m pc ls ((av.reverse ++ st).map (sx_cv ρ ad b))) (st.map (sx_cv ρ ad b)) (sx_QC D cA b Ls ρ ad iv.length w.length (va_A (sx_cW ρ ad b cA w) H.size) (av.map (sx_cv ρ ad b)).toArray) (va_A (sx_cW ρ ad b cA w) H.size) := by
  obtain ⟨hx, hb, hml, hown, hts, hN, hO, hK⟩ := C
  obtain ⟨m1, m2, m3, m4, m5, m6, m7, m8⟩ := sx_mok hy
  have hG : GoodIn sx_TS (sx_ws y) := fun w h => by
    rcases List.mem_cons.mp h with e | e
    · rw [e]; exact sx_goodTS _ m4
    · exact sx_goodTS _ e
  have hR : (sx_rm d y).frames + 1 ≤ R.frames ∧ 8 + ((sx_rec y).2.2.1 + 11) + (sx_rm d y).locals ≤ R.locals := ⟨hfr, by show 8 + ((sx_rec y).2.2.1 + 11) + 64 * d ≤ R.locals; omega⟩
  have hcell : mc + (sx_caps y).1 ≤ R.cells ∧ ms + (sx_caps y).2 ≤ R.slots := ⟨hc, hs⟩
  have h8 : 2 * (F0 m pc ls ((av.reverse ++ st).map (sx_cv ρ ad b))).monitorRoom + ((st.map (sx_cv ρ ad b)).map fun v => v.category).sum ≤ 8 := lv_room (sx_sum8 hst)
  rcases hL with ⟨i, rfl, hl, ⟨ci, hrc⟩, hni, hpd⟩ | ⟨i, rfl, hl, ⟨ci, hrc⟩, hni, hrn, hpd⟩ | ⟨i, host, rfl, hl, ⟨ci, hrc⟩, hni, hrn, hpd⟩ | ⟨i, rfl, hl, hrc, hpd⟩
  · rw [hrc] at hrok
    obtain ⟨q, t, fs, rfl, hq⟩ := sx_rok_inv hrok
    obtain ⟨k1, k2, k3⟩ := m8 ci hrc
    have k3 := k3.resolve_left hni
    cases hcl : sx_clL[ci]? with
    | none => rw [hcl] at k2; cases k2
    | some qq =>
      rw [hcl] at k2
      have e2 : qq.1 = (sx_rec y).1.cls := Option.some.inj k2
      have he : (sx_cW ρ ad b cA w)[q]? = some (ad q, .inr (ci, fs.map (sx_cv ρ ad b))) := by rw [sx_cW_at, hq]; rfl
      have hrecv := va_recv hK hP hcl he
      rw [e2] at hrecv
      have hstk : (F0 m pc ls ((((.inr (.inr (.inl q))) :: t).reverse ++ st).map (sx_cv ρ ad b))).stack = (t.map (sx_cv ρ ad b)).reverse ++ .ref (ad q) :: st.map (sx_cv ρ ad b) := by
        show (((.inr (.inr (.inl q))) :: t).reverse ++ st).map (sx_cv ρ ad b) = _
        rw [List.reverse_cons, List.append_assoc, List.map_append, List.map_reverse]
        rfl
      exact va_runV (As := t.map (sx_cv ρ ad b)) (b := ad q) ⟨hx, hb, hml, hown, hts⟩ hM ⟨callB_of (n - 1) hts hG rfl rfl rfl (hts _ m5) hl ⟨m2, m3, hpd⟩ hR, hts _ k1, hts _ k3⟩ ⟨sx_PC.calling, hrecv, sx_PC.warm hP hK hD hN hO _⟩ rfl (by rw [List.length_map, ← hn]; rfl) hls hstk h8 hdg hcell
  · rw [hrc] at hrok
    obtain ⟨q, t, fs, rfl, hq⟩ := sx_rok_inv hrok
    obtain ⟨k1, k2, k3⟩ := m8 ci hrc
    have hstk : (F0 m pc ls ((((.inr (.inr (.inl q))) :: t).reverse ++ st).map (sx_cv ρ ad b))).stack = (t.map (sx_cv ρ ad b)).reverse ++ .ref (ad q) :: st.map (sx_cv ρ ad b) := by
      show (((.inr (.inr (.inl q))) :: t).reverse ++ st).map (sx_cv ρ ad b) = _
      rw [List.reverse_cons, List.append_assoc, List.map_append, List.map_reverse]
      rfl
    have hw : sx_ws y = Cond.code (sx_rec y).1 (sx_rec y).2.1 (sx_rec y).2.2.1 none :: sx_TS := by rw [← hrn]; rfl
    exact va_runI (As := t.map (sx_cv ρ ad b)) (b := ad q) ⟨hx, hb, hml, hown, hts⟩ hM ⟨callB_of (n - 1) hts hG hw rfl rfl (hts _ m5) hl ⟨m2, m3, hpd⟩ hR, hni, hts _ k1⟩ ⟨sx_PC.calling, sx_PC.warm hP hK hD hN hO _⟩ rfl (by rw [List.length_map, ← hn]; rfl) hls hstk h8 hdg hcell
  · rw [hrc] at hrok
    obtain ⟨q, t, fs, rfl, hq⟩ := sx_rok_inv hrok
    obtain ⟨k1, k2, k3⟩ := m8 ci hrc
    have hstk : (F0 m pc ls ((((.inr (.inr (.inl q))) :: t).reverse ++ st).map (sx_cv ρ ad b))).stack = (t.map (sx_cv ρ ad b)).reverse ++ .ref (ad q) :: st.map (sx_cv ρ ad b) := by
      show (((.inr (.inr (.inl q))) :: t).reverse ++ st).map (sx_cv ρ ad b) = _
      rw [List.reverse_cons, List.append_assoc, List.map_append, List.map_reverse]
      rfl
    have hw : sx_ws y = Cond.code (sx_rec y).1 (sx_rec y).2.1 (sx_rec y).2.2.1 none :: sx_TS := by rw [← hrn]; rfl
    exact va_runIN (As := t.map (sx_cv ρ ad b)) (b := ad q) ⟨hx, hb, hml, hown, hts⟩ hM ⟨va_cnB (n - 1) hts hG hw rfl rfl hl (hts _ m5) ⟨m2, m3, hpd⟩ hR, hni, hts _ k1⟩ ⟨sx_PC.calling, sx_PC.warm hP hK hD hN hO _⟩ rfl (by rw [List.length_map, ← hn]; rfl) hls hstk h8 hdg hcell
  · have hstk : (F0 m pc ls ((av.reverse ++ st).map (sx_cv ρ ad b))).stack = (av.map (sx_cv ρ ad b)).reverse ++ st.map (sx_cv ρ ad b) := by
      show (av.reverse ++ st).map (sx_cv ρ ad b) = _
      rw [List.map_append, List.map_reverse]
    exact va_runS (As := av.map (sx_cv ρ ad b)) ⟨hx, hb, hml, hown, hts⟩ hM ⟨callB_of n hts hG rfl rfl rfl (hts _ m5) hl ⟨m2, m3, hpd⟩ hR, hts _ (m7 hrc)⟩ ⟨sx_PC.calling, sx_PC.warm hP hK hD hN hO _⟩ rfl (by rw [List.length_map, hn]) hls hstk h8 hdg hcell
theorem sx_s_call {own : String} (C : sx_Cx p s m args c D cA own cc nL) (hA : ∀ q, s.heap.size ≤ q → A q) {K : sx_K} {d y n : Nat} {I : Instr} (hKK : sx_KOk l K d) (hL : sx_Lk s args own y n I) (hnl : n ≤ (sx_rec y).2.2.1) (hfr : d + 1 ≤ R.frames) (hlo : 64 * (d + 1) ≤ R.locals) {cap : Nat × Nat} (hR : cap.1 ≤ R.cells ∧ cap.2 ≤ R.slots) {f : sx_S → sx_N} {σ : sx_S} {ss : List sx_S}
    (hf : ∀ (τ : sx_S) (r : List sx_S), f τ = some r → (∀ x ∈ r, x ∈ ss) → sx_Ok p l e R s m args below meth c Q D cA A b nL ρ0 ad0 n0 m0 τ) (hdg : decode cc σ.1 = .ok (I, 3)) (h : sx_call K sx_caps cap f σ y n = some ss) : sx_Ok p l e R s m args below meth c Q D cA A b nL ρ0 ad0 n0 m0 σ := by
  obtain ⟨pc, L, st0, w, iv, mc, ms⟩ := σ
  unfold sx_call at h
  simp only at h
  split at h
  next av st ht =>
    split at h
    next hz =>
      split at h
      next Ls hLs =>
        simp only [Bool.and_eq_true] at hz
        obtain ⟨⟨⟨⟨z1, z2⟩, z3⟩, z4⟩, z5⟩ := hz
        have z1 := Nat.le_of_ble_eq_true z1
        have z4 := Nat.le_of_ble_eq_true z4
        have z5 := Nat.le_of_ble_eq_true z5
        obtain ⟨ll, e1, e2, e3⟩ := sx_take_ok ht
        rw [List.append_nil] at e1
        subst e1
        obtain ⟨hy, hrok, hMM⟩ := hKK y av w iv Ls hLs
        have hnext : ∀ L2 ∈ Ls, sx_Ok p l e R s m args below meth c Q D cA A b nL ρ0 ad0 n0 m0 (pc + 3, L, L2.1.toList ++ st, L2.2.1, L2.2.2, mc + (sx_caps y).1, ms + (sx_caps y).2) := by
          intro L2 hL2
          obtain ⟨r, g1, g2⟩ := sx_bind_mem h L2 hL2
          obtain ⟨v, w2, iv2⟩ := L2
          cases v with
          | none => exact hf _ r g1 g2
          | some v => exact hf _ r g1 g2
        intro ρ ad H locs ls h1 h2 h3 h4 h5 hP hD hS hl
        have hM := hMM (by omega) D cA b ρ ad H.size h1
        have hrun := sx_runC (p := p) (e := e) (below := below) (meth := meth) (A := A) (locs := locs) (mc := mc) (ms := ms) (pc := pc) (ls := ls) (st := st) C hL hfr hlo hy hrok e3 hM hP hD hl.1 z1 (by omega) (by omega) hdg
        rw [← e2] at hrun
        refine sx_callG hrun (fun v st₀ t Lc h0 hq hLc => ?_)
        obtain ⟨⟨L2, hL2, ρ', ad', hv, g1, g2, g3, g4, g5, g6, g7⟩, hz1, hk1⟩ := hq
        cases hv
        have hFree : ∀ q, va_A (sx_cW ρ ad b cA w) H.size q → A q := by
          intro q hq
          rcases hq with ⟨k, e, hk⟩ | hq
          · exact hD.2 k (q, e) hk
          · exact hA q (Nat.le_trans hS.1 hq)
        have hρ : ∀ k, k < iv.length → ρ k = ρ' k := fun k hk => (g2 k hk).symm
        have ha : ∀ k, k < w.length → ad k = ad' k := fun k hk => (g3 k hk).symm
        have kk := hnext L2 hL2 ρ' ad' t.heap (locs ++ Lc) ls g1 (fun k hk => (g2 k (Nat.lt_of_lt_of_le hk h4)).trans (h2 k hk)) (fun k hk => (g3 k (Nat.lt_of_lt_of_le hk h5)).trans (h3 k hk)) (Nat.le_trans h4 g4) (Nat.le_trans h5 g5) g6 (g7.weaken (fun _ q _ hq => hFree q.1 hq))
          ⟨Nat.le_trans hS.1 (by rw [← h0]; exact hz1), fun q q1 q2 => by
            rw [h0] at hk1
            rw [hk1 q (Nat.lt_of_lt_of_le q1 hS.1) (fun z => q2 (hFree q z))]
            exact hS.2.1 q q1 q2, fun q hq => by
            rcases List.mem_append.mp hq with z | z
            · exact hS.2.2 q z
            · exact hFree _ (hLc q z)⟩ (by rw [← sx_cL_lim hρ ha z2]; exact hl)
        have e4 : (L2.1.toList ++ st).map (sx_cv ρ' ad' b) = (L2.1.map (sx_cv ρ' ad' b)).toList ++ st.map (sx_cv ρ ad b) := by
          rw [List.map_append, ← sx_cS_lim hρ ha z3]
          cases L2.1 <;> rfl
        rw [← e4]
        exact kk
      next => cases h
    next => cases h
  next => cases h
end sxCall
end
section
/-! Math.max, Math.min; which states are loaded from; new arrays kind by kind -/
theorem sx_load_cases {sc : Bool} {σ : sx_S} {kd : Nat} {ss : List sx_S} (h : sx_load sc σ kd = some ss) : (∃ pc L i k st w iv mc ms, σ = (pc, L, i :: (.inr (.inr (.inl k))) :: st, w, iv, mc, ms)) ∨ (kd = 0 ∧ ∃ pc L i st w iv mc ms, σ = (pc, L, i :: (.inr (.inr (.inr 2))) :: st, w, iv, mc, ms)) := by
  unfold sx_load at h
  split at h
  next pc L i k st w iv mc ms => exact Or.inl ⟨pc, L, i, k, st, w, iv, mc, ms, rfl⟩
  next pc L i st w iv mc ms =>
    split at h
    next j hb _ => exact Or.inr ⟨Nat.eq_of_beq_eq_true hb, pc, L, i, st, w, iv, mc, ms, rfl⟩
    next => cases h
  next => cases h
theorem sx_alen_cases {sc : Bool} {σ : sx_S} {ss : List sx_S} (h : sx_alen sc σ = some ss) : (∃ pc L k st w iv mc ms, σ = (pc, L, (.inr (.inr (.inl k))) :: st, w, iv, mc, ms)) ∨ (∃ pc L st w iv mc ms, σ = (pc, L, (.inr (.inr (.inr 2))) :: st, w, iv, mc, ms)) := by
  unfold sx_alen at h
  split at h
  next pc L k st w iv mc ms => exact Or.inl ⟨pc, L, k, st, w, iv, mc, ms, rfl⟩
  next pc L st w iv mc ms => exact Or.inr ⟨pc, L, st, w, iv, mc, ms, rfl⟩
  next => cases h
theorem sx_pickI (t : Bool) (x y : Nat) : Int32.ofNat (sx_pick t x y) = if t = true then Int32.ofNat x else Int32.ofNat y := by
  cases t <;> rfl
theorem sx_bltI (a b : Nat) : (Nat.blt (sx_bias a) (sx_bias b) = true) = (Int32.ofNat a < Int32.ofNat b) := by
  rw [sx_i_lt, sx_b_of, sx_b_of]
  exact propext ⟨fun h => Nat.le_of_ble_eq_true h, fun h => sx_bltT h⟩
noncomputable def sx_mv (mx : Bool) (a d : Nat) : Nat := match mx with
  | true => sx_pick (Nat.blt (sx_bias a) (sx_bias d)) d a
  | false => sx_pick (Nat.blt (sx_bias d) (sx_bias a)) d a
section sxMore
variable {p : Program} {l : Launch} {e : Env} {R : Room} {s : State} {m : MethodId} {args : Array Value} {below : List Frame} {meth : Method} {c : Code} {Q : State → Prop} {D : va_G} {cA : Nat → ClassId} {A : Nat → Prop} {b nL : Nat} {ρ0 : Nat → Int32} {ad0 : Nat → Nat} {n0 m0 : Nat} {cc : ByteArray}
theorem sx_mm_inv {mx : Bool} {cap : Nat × Nat} {σ : sx_S} {ss : List sx_S} (h : sx_mm mx cap σ = some ss) : ∃ pc L y x st w iv mc ms a d, σ = (pc, L, y :: x :: st, w, iv, mc, ms) ∧ sx_nm iv x = (.inl a) ∧ sx_nm iv y = (.inl d) ∧ st.length ≤ 4 ∧ mc ≤ cap.1 ∧ ms ≤ cap.2 ∧ ss = [(pc + 3, L, (.inl (sx_mv mx a d)) :: st, w, iv, mc, ms)] := by
  unfold sx_mm at h
  split at h
  next pc L y x st w iv mc ms =>
    split at h
    next a d ha hd =>
      split at h
      next hz =>
        cases h
        simp only [Bool.and_eq_true] at hz
        exact ⟨pc, L, y, x, st, w, iv, mc, ms, a, d, rfl, ha, hd, Nat.le_of_ble_eq_true hz.1.1, Nat.le_of_ble_eq_true hz.1.2, Nat.le_of_ble_eq_true hz.2, rfl⟩
      next => cases h
    next => cases h
  next => cases h
theorem sx_s_mx {own : String} (C : sx_Cx p s m args c D cA own cc nL) {cap : Nat × Nat} (hR : cap.1 ≤ R.cells ∧ cap.2 ≤ R.slots) (hfr : 1 ≤ R.frames) (hlo : 64 ≤ R.locals) {index : Nat} (hlink : (Cond.methodLink own index Lib.Math.max.name).before args s = true) {σ : sx_S} {ss : List sx_S} (hdg : decode cc σ.1 = .ok (.invokestatic index, 3)) (h : sx_mm true cap σ = some ss) (K : ∀ τ ∈ ss, sx_Ok p l e R s m args below meth c Q D cA A b nL ρ0 ad0 n0 m0 τ) : sx_Ok p l e R s m args below meth c Q D cA A b nL ρ0 ad0 n0 m0 σ := by
  obtain ⟨hx, hb, hml, hown, hts, hN, hO, hK⟩ := C
  obtain ⟨pc, L, y, x, st, w, iv, mc, ms, a, d, rfl, ha, hd, z1, z2, z3, rfl⟩ := sx_mm_inv h
  refine sx_pure (K _ List.mem_cons_self) (fun ρ ad H locs ls h1 hl k => ?_)
  show W p l e R s m args below meth c H locs mc ms Q (F0 m pc ls (sx_cv ρ ad b y :: sx_cv ρ ad b x :: st.map (sx_cv ρ ad b)))
  rw [sx_nm_c h1 ad b ha, sx_nm_c h1 ad b hd]
  have h8 := sx_sum8 (ρ := ρ) (ad := ad) (b := b) z1
  refine va_mmax hx hb (hml.trans hl.1.symm) hown hlink (hts _ sx_w_mx1) (hts _ sx_w_mi) (hts _ sx_w_mx2) hfr (by omega) (by omega) (by omega) hdg ?_
  have k' : W p l e R s m args below meth c H locs mc ms Q (F0 m (pc + 3) ls (.int (Int32.ofNat (sx_pick (Nat.blt (sx_bias a) (sx_bias d)) d a)) :: st.map (sx_cv ρ ad b))) := k
  rw [sx_pickI] at k'
  simp only [sx_bltI] at k'
  exact k'
theorem sx_s_mn {own : String} (C : sx_Cx p s m args c D cA own cc nL) {cap : Nat × Nat} (hR : cap.1 ≤ R.cells ∧ cap.2 ≤ R.slots) (hfr : 1 ≤ R.frames) (hlo : 64 ≤ R.locals) {index : Nat} (hlink : (Cond.methodLink own index Lib.Math.min.name).before args s = true) {σ : sx_S} {ss : List sx_S} (hdg : decode cc σ.1 = .ok (.invokestatic index, 3)) (h : sx_mm false cap σ = some ss) (K : ∀ τ ∈ ss, sx_Ok p l e R s m args below meth c Q D cA A b nL ρ0 ad0 n0 m0 τ) : sx_Ok p l e R s m args below meth c Q D cA A b nL ρ0 ad0 n0 m0 σ := by
  obtain ⟨hx, hb, hml, hown, hts, hN, hO, hK⟩ := C
  obtain ⟨pc, L, y, x, st, w, iv, mc, ms, a, d, rfl, ha, hd, z1, z2, z3, rfl⟩ := sx_mm_inv h
  refine sx_pure (K _ List.mem_cons_self) (fun ρ ad H locs ls h1 hl k => ?_)
  show W p l e R s m args below meth c H locs mc ms Q (F0 m pc ls (sx_cv ρ ad b y :: sx_cv ρ ad b x :: st.map (sx_cv ρ ad b)))
  rw [sx_nm_c h1 ad b ha, sx_nm_c h1 ad b hd]
  have h8 := sx_sum8 (ρ := ρ) (ad := ad) (b := b) z1
  refine va_mmin hx hb (hml.trans hl.1.symm) hown hlink (hts _ sx_w_mn1) (hts _ sx_w_mi) (hts _ sx_w_mn2) hfr (by omega) (by omega) (by omega) hdg ?_
  have k' : W p l e R s m args below meth c H locs mc ms Q (F0 m (pc + 3) ls (.int (Int32.ofNat (sx_pick (Nat.blt (sx_bias d) (sx_bias a)) d a)) :: st.map (sx_cv ρ ad b))) := k
  rw [sx_pickI] at k'
  simp only [sx_bltI] at k'
  exact k'
noncomputable def sx_chkA (t : ArrayType) (kd : Nat) : Bool := match t, kd with
  | .int, 0 => true
  | .long, 1 => true
  | .boolean, 2 => true
  | .byte, 3 => true
  | _, _ => false
theorem sx_s_newaK {own : String} (C : sx_Cx p s m args c D cA own cc nL) (hA : ∀ q, s.heap.size ≤ q → A q) {cap : Nat × Nat} (hR : cap.1 ≤ R.cells ∧ cap.2 ≤ R.slots) {t : ArrayType} {kd : Nat} (ht : sx_chkA t kd = true) {σ : sx_S} {ss : List sx_S} (hdg : decode cc σ.1 = .ok (.newarray t, 2)) (h : sx_newa cap σ 2 kd = some ss) (K : ∀ τ ∈ ss, sx_Ok p l e R s m args below meth c Q D cA A b nL ρ0 ad0 n0 m0 τ) : sx_Ok p l e R s m args below meth c Q D cA A b nL ρ0 ad0 n0 m0 σ := by
  obtain ⟨hx, hb, hml, hown, hts, hN, hO, hK⟩ := C
  unfold sx_chkA at ht
  split at ht
  · exact sx_s_newa (atype := .int) (ty := .int) (a0 := fun n => (n, .inl (fun _ => Int32.ofNat 0))) hx hb rfl (hts _ sx_w_a0) (by decide) rfl (fun c1 c2 g1 g2 => Option.some.inj (Eq.trans (Eq.symm g1) g2)) (fun _ _ => rfl) (fun _ _ _ => rfl) hK hA hR hdg h K
  · exact sx_s_newa (atype := .long) (ty := .long) (a0 := fun n => (n, .inr (.inl (fun _ => 0)))) hx hb rfl (hts _ sx_w_a1) (by decide) rfl (fun c1 c2 g1 g2 => Option.some.inj (Eq.trans (Eq.symm g1) g2)) (fun _ _ => rfl) (fun _ _ _ => rfl) hK hA hR hdg h K
  · exact sx_s_newa (atype := .boolean) (ty := .boolean) (a0 := fun n => (n, .inl (fun _ => Int32.ofNat 0))) hx hb rfl (hts _ sx_w_a2) (by decide) rfl (fun c1 c2 g1 g2 => Option.some.inj (Eq.trans (Eq.symm g1) g2)) (fun _ _ => rfl) (fun _ _ _ => rfl) hK hA hR hdg h K
  · exact sx_s_newa (atype := .byte) (ty := .byte) (a0 := fun n => (n, .inl (fun _ => Int32.ofNat 0))) hx hb rfl (hts _ sx_w_a3) (by decide) rfl (fun c1 c2 g1 g2 => Option.some.inj (Eq.trans (Eq.symm g1) g2)) (fun _ _ => rfl) (fun _ _ _ => rfl) hK hA hR hdg h K
  · cases ht
end sxMore
end
section
/-! the checker of a table's rows, and that it is sound -/
noncomputable def sx_h1 (ex : List Nat) : Nat := match ex with
  | _ :: a :: _ => a
  | _ => 0
noncomputable def sx_chkG (own : String) (i : Nat) (ex : List Nat) : Bool := match ex with
  | ci :: k :: nest :: pl :: _ => match sx_clL[ci]? with
    | some (_, T, N) => Nat.blt k N && (match nest with
      | 0 => sx_wd pl (.fieldLink own i (T k).1 (T k).2.1 (T k).2.2.1)
      | _ => sx_wn pl (.fieldLinkNest own i (T k).1 (T k).2.1 (T k).2.2.1 "TwoInOne"))
    | none => false
  | _ => false
noncomputable def sx_takeB (fit : Nat) (ty : FieldType) : Bool := match fit with
  | 0 => decide (ty = .int)
  | 1 => match ty with
    | .object _ => true
    | .array _ => true
    | _ => false
  | _ => decide (ty = .boolean)
theorem sx_takeB_ok {fit : Nat} {ty : FieldType} (h : sx_takeB fit ty = true) : sx_takes fit ty := by
  unfold sx_takeB at h
  unfold sx_takes
  split at h
  · have e := of_decide_eq_true h
    exact e
  · split at h
    · exact Or.inl ⟨_, rfl⟩
    · exact Or.inr ⟨_, rfl⟩
    · cases h
  next n h0 h1 =>
    split
    next => exact absurd rfl h0
    next => exact absurd rfl h1
    next => exact of_decide_eq_true h
noncomputable def sx_chkP (own : String) (init : Bool) (i : Nat) (ex : List Nat) : Bool := match ex with
  | ci :: k :: fit :: nest :: fin :: pl :: _ => match sx_clL[ci]? with
    | some (_, T, N) => Nat.blt k N && (sx_takeB fit (sx_ty ci k) && (match nest, fin with
      | 0, 0 => sx_wd pl (.fieldLink own i (T k).1 (T k).2.1 (T k).2.2.1) && !(T k).2.2.2
      | 0, _ => sx_wd pl (.fieldLink own i (T k).1 (T k).2.1 (T k).2.2.1) && ((T k).2.2.2 && (init && decide ((T k).1 = own)))
      | _, _ => sx_wn pl (.fieldLinkNest own i (T k).1 (T k).2.1 (T k).2.2.1 "TwoInOne") && !(T k).2.2.2))
    | none => false
  | _ => false
noncomputable def sx_chkN (own : String) (i : Nat) (ex : List Nat) : Bool := match sx_clL[sx_hd ex]? with
  | some (C, _, _) => sx_wd (sx_h1 ex) (.classLink own i C)
  | none => false
noncomputable def sx_inst (y : Nat) : Bool := match sx_rc y with
  | 0 => false
  | _ => true
noncomputable def sx_np (y : Nat) : Option Nat := (parseMethodDescriptor (sx_rec y).1.desc).map (fun d => d.parameters.length)
noncomputable def sx_chkV (own : String) (i : Nat) (ex : List Nat) : Bool := match ex with
  | 2 :: y :: n :: _ :: pl :: _ => sx_wd pl (.methodLink own i (sx_rec y).1) && (sx_inst y && (decide ((sx_rec y).1.name ≠ "<init>") && (decide (sx_np y = some (n - 1)) && Nat.ble n (sx_rec y).2.2.1)))
  | _ => false
noncomputable def sx_chkS (own : String) (i : Nat) (ex : List Nat) : Bool := match ex with
  | 0 :: pl :: _ => sx_wd pl (.methodLink own i Lib.objectInit)
  | 2 :: y :: n :: nest :: pl :: _ => (match nest with
    | 0 => sx_wd pl (.methodLink own i (sx_rec y).1)
    | _ => sx_wn pl (.methodLinkNest own i (sx_rec y).1 "TwoInOne")) && (sx_inst y && (decide ((sx_rec y).1.name = "<init>") && (decide ((sx_rec y).2.2.2 = none) && (decide (sx_np y = some (n - 1)) && Nat.ble n (sx_rec y).2.2.1))))
  | _ => false
noncomputable def sx_chkT (own : String) (i : Nat) (ex : List Nat) : Bool := match ex with
  | 1 :: pl :: _ => sx_wd pl (.methodLink own i arraycopyName)
  | 3 :: pl :: _ => sx_wd pl (.methodLink own i Lib.Math.max.name)
  | 4 :: pl :: _ => sx_wd pl (.methodLink own i Lib.Math.min.name)
  | 2 :: y :: n :: _ :: pl :: _ => sx_wd pl (.methodLink own i (sx_rec y).1) && (Nat.beq (sx_rc y) 0 && (decide (sx_np y = some n) && Nat.ble n (sx_rec y).2.2.1))
  | _ => false
noncomputable def sx_chkI (own : String) (nL : Nat) (init : Bool) (rt : Option FieldType) (pc : Nat) (I : Instr) (len : Nat) (ex : List Nat) : Bool := match I with
  | .aload_n _ => Nat.beq len 1
  | .iload_n _ => Nat.beq len 1
  | .iload _ => Nat.beq len 2
  | .istore_n k => Nat.beq len 1 && Nat.blt k.val nL
  | .istore k => Nat.beq len 2 && Nat.blt k nL
  | .astore_n k => Nat.beq len 1 && Nat.blt k.val nL
  | .iconst n => Nat.beq len 1 && decide (Int32.ofInt n = Int32.ofNat (sx_hd ex))
  | .bipush n => Nat.beq len 2 && decide ((Int8.ofInt n).toInt32 = Int32.ofNat (sx_hd ex))
  | .sipush n => Nat.beq len 3 && decide ((Int16.ofInt n).toInt32 = Int32.ofNat (sx_hd ex))
  | .ldc i => Nat.beq len 2 && sx_wd (sx_h1 ex) (.constant own i (Int32.ofNat (sx_hd ex)))
  | .ldc_w i => Nat.beq len 3 && sx_wd (sx_h1 ex) (.constant own i (Int32.ofNat (sx_hd ex)))
  | .dup => Nat.beq len 1
  | .dup2 => Nat.beq len 1
  | .aconst_null => Nat.beq len 1
  | .goto off => Nat.beq len 3 && decide ((pc : Int) + off = (sx_hd ex : Int))
  | .iinc k i => Nat.beq len 3 && (Nat.blt k nL && decide (Int32.ofInt i = Int32.ofNat (sx_hd ex)))
  | .iadd => Nat.beq len 1
  | .isub => Nat.beq len 1
  | .imul => Nat.beq len 1
  | .iand => Nat.beq len 1
  | .ishl => Nat.beq len 1
  | .ishr => Nat.beq len 1
  | .iushr => Nat.beq len 1
  | .irem => Nat.beq len 1
  | .i2b => Nat.beq len 1
  | .getfield i => Nat.beq len 3 && sx_chkG own i ex
  | .putfield i => Nat.beq len 3 && sx_chkP own init i ex
  | .new i => Nat.beq len 3 && sx_chkN own i ex
  | .newarray t => Nat.beq len 2 && sx_chkA t (sx_hd ex)
  | .anewarray i => Nat.beq len 3 && sx_wd (sx_hd ex) (.classLink own i "TwoInOne$State")
  | .arraylength => Nat.beq len 1
  | .iaload => Nat.beq len 1
  | .baload => Nat.beq len 1 && (Nat.beq (sx_hd ex) 2 || Nat.beq (sx_hd ex) 3)
  | .aaload => Nat.beq len 1
  | .iastore => Nat.beq len 1
  | .bastore => Nat.beq len 1
  | .aastore => Nat.beq len 1
  | .if_icmp _ off => Nat.beq len 3 && decide ((pc : Int) + off = (sx_hd ex : Int))
  | .ifCond _ off => Nat.beq len 3 && decide ((pc : Int) + off = (sx_hd ex : Int))
  | .ifnonnull off => Nat.beq len 3 && decide ((pc : Int) + off = (sx_hd ex : Int))
  | .tableswitch dflt lo hi offs => match ex with
    | d :: lo' :: ts => decide ((pc : Int) + dflt = (d : Int)) && (decide ((lo' : Int) = lo + 2147483648) && (decide (hi = lo + ts.length - 1) && decide (offs.toList.map (fun o => (pc : Int) + o) = ts.map (fun t : Nat => (t : Int)))))
    | _ => false
  | .lookupswitch dflt ps => match ex with
    | d :: ts => (ps.toList.zip (ps.toList.drop 1)).all (fun (a, next) => a.1 < next.1) && (decide ((pc : Int) + dflt = (d : Int)) && (decide ((sx_two ts).Pairwise (fun a b => a.1 < b.1)) && decide (ps.toList.map (fun q => (q.1 + 2147483648, (pc : Int) + q.2)) = (sx_two ts).map (fun q : Nat × Nat => ((q.1 : Int), (q.2 : Int))))))
    | _ => false
  | .ireturn => Nat.beq len 1 && (match sx_hd ex with
    | 1 => decide (rt = some .boolean)
    | _ => decide (rt = some .int))
  | .return_ => Nat.beq len 1 && decide (rt = none)
  | .invokevirtual i => Nat.beq len 3 && sx_chkV own i ex
  | .invokespecial i => Nat.beq len 3 && sx_chkS own i ex
  | .invokestatic i => Nat.beq len 3 && sx_chkT own i ex
  | _ => false
noncomputable def sx_chk (own : String) (cc : ByteArray) (nL : Nat) (init : Bool) (rt : Option FieldType) (pc : Nat) (I : Instr) (len : Nat) (ex : List Nat) : Bool := decide (decode cc pc = .ok (I, len)) && sx_chkI own nL init rt pc I len ex
end
section
/-! a row that the checker takes is sound -/
section sxSound
variable {p : Program} {l : Launch} {e : Env} {R : Room} {s : State} {m : MethodId} {args : Array Value} {below : List Frame} {meth : Method} {c : Code} {Q : State → Prop} {D : va_G} {cA : Nat → ClassId} {A : Nat → Prop} {b nL : Nat} {ρ0 : Nat → Int32} {ad0 : Nat → Nat} {n0 m0 : Nat} {cc : ByteArray}
/-- what a row of a table is good for -/
def sx_Ent (p : Program) (l : Launch) (e : Env) (R : Room) (s : State) (m : MethodId) (args : Array Value) (below : List Frame) (meth : Method) (c : Code) (Q : State → Prop) (D : va_G) (cA : Nat → ClassId) (A : Nat → Prop) (b nL : Nat) (ρ0 : Nat → Int32) (ad0 : Nat → Nat) (n0 m0 : Nat) (own : String) (cc : ByteArray) (rt : Option FieldType) (sc : Bool) (cap : Nat × Nat) (pc : Nat) (q : sx_Q) : Prop :=
  (q.1 = 0 ∧ ∀ (σ : sx_S) (ss : List sx_S), σ.1 = pc → q.2.2.2 sc cap σ = some ss → (∀ τ ∈ ss, sx_Ok p l e R s m args below meth c Q D cA A b nL ρ0 ad0 n0 m0 τ) → sx_Ok p l e R s m args below meth c Q D cA A b nL ρ0 ad0 n0 m0 σ) ∨
  (∃ I, q.1 = 3 ∧ sx_Lk s args own q.2.1 q.2.2.1 I ∧ decode cc pc = .ok (I, 3) ∧ q.2.2.1 ≤ (sx_rec q.2.1).2.2.1) ∨
  (q.1 = 1 ∧ decode cc pc = .ok (.ireturn, 1) ∧ ((q.2.1 = 0 ∧ rt = some .int) ∨ (q.2.1 = 1 ∧ rt = some .boolean))) ∨
  (q.1 = 2 ∧ decode cc pc = .ok (.return_, 1) ∧ rt = none)
theorem sx_inst_ok {y : Nat} (h : sx_inst y = true) : ∃ ci, sx_rc y = ci + 1 := by
  unfold sx_inst at h
  cases e : sx_rc y with
  | zero => rw [e] at h; cases h
  | succ n => exact ⟨n, rfl⟩
theorem sx_ent {own : String} {init : Bool} {rt : Option FieldType} (C : sx_Cx p s m args c D cA own cc nL) (hA : ∀ q, s.heap.size ≤ q → A q) {cap : Nat × Nat} (hR : cap.1 ≤ R.cells ∧ cap.2 ≤ R.slots) (hfr : 1 ≤ R.frames) (hlo : 64 ≤ R.locals) (hinit : init = true → meth.name = "<init>") {sc : Bool} {LL : Nat} {xs : Nat → Int32} (hsc : sc = true → sx_Scr s A b ρ0 n0 LL xs)
    {pc : Nat} {I : Instr} {len : Nat} {ex : List Nat} (hc : sx_chk own cc nL init rt pc I len ex = true) : sx_Ent p l e R s m args below meth c Q D cA A b nL ρ0 ad0 n0 m0 own cc rt sc cap pc (sx_den sx_cls I ex) := by
  have C0 := C
  obtain ⟨hx, hb, hml, hown, hts, hN, hO, hK⟩ := C
  unfold sx_chk at hc
  rw [Bool.and_eq_true] at hc
  have hd : decode cc pc = .ok (I, len) := of_decide_eq_true hc.1
  have hi := hc.2
  clear hc
  cases I
  case aload_n k =>
    cases Nat.eq_of_beq_eq_true hi
    exact Or.inl ⟨rfl, fun σ ss hp h K => by subst hp; exact sx_s_aload_n hx hb hd h K⟩
  case iload_n k =>
    cases Nat.eq_of_beq_eq_true hi
    exact Or.inl ⟨rfl, fun σ ss hp h K => by subst hp; exact sx_s_iload_n hx hb hd h K⟩
  case iload k =>
    cases Nat.eq_of_beq_eq_true hi
    exact Or.inl ⟨rfl, fun σ ss hp h K => by subst hp; exact sx_s_iload hx hb hd h K⟩
  case istore_n k =>
    simp only [sx_chkI, Bool.and_eq_true] at hi
    cases Nat.eq_of_beq_eq_true hi.1
    exact Or.inl ⟨rfl, fun σ ss hp h K => by subst hp; exact sx_s_istore_n hx hb (Nat.le_of_ble_eq_true hi.2) hd h K⟩
  case istore k =>
    simp only [sx_chkI, Bool.and_eq_true] at hi
    cases Nat.eq_of_beq_eq_true hi.1
    exact Or.inl ⟨rfl, fun σ ss hp h K => by subst hp; exact sx_s_istore hx hb (Nat.le_of_ble_eq_true hi.2) hd h K⟩
  case astore_n k =>
    simp only [sx_chkI, Bool.and_eq_true] at hi
    cases Nat.eq_of_beq_eq_true hi.1
    exact Or.inl ⟨rfl, fun σ ss hp h K => by subst hp; exact sx_s_astore_n hx hb (Nat.le_of_ble_eq_true hi.2) hd h K⟩
  case iconst n =>
    simp only [sx_chkI, Bool.and_eq_true] at hi
    cases Nat.eq_of_beq_eq_true hi.1
    exact Or.inl ⟨rfl, fun σ ss hp h K => by subst hp; exact sx_s_iconst hx hb hd (of_decide_eq_true hi.2) h K⟩
  case bipush n =>
    simp only [sx_chkI, Bool.and_eq_true] at hi
    cases Nat.eq_of_beq_eq_true hi.1
    exact Or.inl ⟨rfl, fun σ ss hp h K => by subst hp; exact sx_s_bipush hx hb hd (of_decide_eq_true hi.2) h K⟩
  case sipush n =>
    simp only [sx_chkI, Bool.and_eq_true] at hi
    cases Nat.eq_of_beq_eq_true hi.1
    exact Or.inl ⟨rfl, fun σ ss hp h K => by subst hp; exact sx_s_sipush hx hb hd (of_decide_eq_true hi.2) h K⟩
  case ldc i =>
    simp only [sx_chkI, Bool.and_eq_true] at hi
    cases Nat.eq_of_beq_eq_true hi.1
    exact Or.inl ⟨rfl, fun σ ss hp h K => by subst hp; exact sx_s_ldc hx hb hown hd (hts _ (sx_wd_ok hi.2)) h K⟩
  case ldc_w i =>
    simp only [sx_chkI, Bool.and_eq_true] at hi
    cases Nat.eq_of_beq_eq_true hi.1
    exact Or.inl ⟨rfl, fun σ ss hp h K => by subst hp; exact sx_s_ldcw hx hb hown hd (hts _ (sx_wd_ok hi.2)) h K⟩
  case dup =>
    cases Nat.eq_of_beq_eq_true hi
    exact Or.inl ⟨rfl, fun σ ss hp h K => by subst hp; exact sx_s_dup hx hb hd h K⟩
  case dup2 =>
    cases Nat.eq_of_beq_eq_true hi
    exact Or.inl ⟨rfl, fun σ ss hp h K => by subst hp; exact sx_s_dup2 hx hb hd h K⟩
  case aconst_null =>
    cases Nat.eq_of_beq_eq_true hi
    exact Or.inl ⟨rfl, fun σ ss hp h K => by subst hp; exact sx_s_null hx hb hd h K⟩
  case goto off =>
    simp only [sx_chkI, Bool.and_eq_true] at hi
    cases Nat.eq_of_beq_eq_true hi.1
    exact Or.inl ⟨rfl, fun σ ss hp h K => by subst hp; exact sx_s_goto hx hb hd (of_decide_eq_true hi.2) h K⟩
  case iinc k i =>
    simp only [sx_chkI, Bool.and_eq_true] at hi
    cases Nat.eq_of_beq_eq_true hi.1
    exact Or.inl ⟨rfl, fun σ ss hp h K => by subst hp; exact sx_s_inc hx hb (Nat.le_of_ble_eq_true hi.2.1) (of_decide_eq_true hi.2.2) hd h K⟩
  case iadd =>
    cases Nat.eq_of_beq_eq_true hi
    exact Or.inl ⟨rfl, fun σ ss hp h K => by subst hp; exact sx_s_iadd hx hb hd h K⟩
  case isub =>
    cases Nat.eq_of_beq_eq_true hi
    exact Or.inl ⟨rfl, fun σ ss hp h K => by subst hp; exact sx_s_isub hx hb hd h K⟩
  case imul =>
    cases Nat.eq_of_beq_eq_true hi
    exact Or.inl ⟨rfl, fun σ ss hp h K => by subst hp; exact sx_s_imul hx hb hd h K⟩
  case iand =>
    cases Nat.eq_of_beq_eq_true hi
    exact Or.inl ⟨rfl, fun σ ss hp h K => by subst hp; exact sx_s_iand hx hb hd h K⟩
  case ishl =>
    cases Nat.eq_of_beq_eq_true hi
    exact Or.inl ⟨rfl, fun σ ss hp h K => by subst hp; exact sx_s_ishl hx hb hd h K⟩
  case ishr =>
    cases Nat.eq_of_beq_eq_true hi
    exact Or.inl ⟨rfl, fun σ ss hp h K => by subst hp; exact sx_s_ishr hx hb hd h K⟩
  case iushr =>
    cases Nat.eq_of_beq_eq_true hi
    exact Or.inl ⟨rfl, fun σ ss hp h K => by subst hp; exact sx_s_iushr hx hb hd h K⟩
  case irem =>
    cases Nat.eq_of_beq_eq_true hi
    exact Or.inl ⟨rfl, fun σ ss hp h K => by subst hp; exact sx_s_irem hx hb hd h K⟩
  case i2b =>
    cases Nat.eq_of_beq_eq_true hi
    exact Or.inl ⟨rfl, fun σ ss hp h K => by subst hp; exact sx_s_i2b hx hb hd h K⟩
  case getfield i =>
    simp only [sx_chkI, Bool.and_eq_true] at hi
    cases Nat.eq_of_beq_eq_true hi.1
    have hg := hi.2
    unfold sx_chkG at hg
    split at hg
    next ci k nest pl t =>
      split at hg
      next Cn T N hcl =>
        rw [Bool.and_eq_true] at hg
        obtain ⟨f1, f2, f3, f4, f5, f6, f7, f8⟩ := sx_clOk hcl
        have hk := Nat.le_of_ble_eq_true hg.1
        have hg2 := hg.2
        split at hg2
        next => exact Or.inl ⟨rfl, fun σ ss hp h K => by subst hp; exact sx_s_gf hx hb hts f1 hown hK hcl k hk (hts _ (sx_wd_ok hg2)) hd h K⟩
        next => exact Or.inl ⟨rfl, fun σ ss hp h K => by subst hp; exact sx_s_gfN hx hb hts f1 hown hK hcl k hk (va_Nw.use rfl (sx_wn_ok hN hg2)) hd h K⟩
      next => cases hg
    next => cases hg
  case putfield i =>
    simp only [sx_chkI, Bool.and_eq_true] at hi
    cases Nat.eq_of_beq_eq_true hi.1
    have hg := hi.2
    unfold sx_chkP at hg
    split at hg
    next ci k fit nest fin pl t =>
      split at hg
      next Cn T N hcl =>
        simp only [Bool.and_eq_true] at hg
        obtain ⟨f1, f2, f3, f4, f5, f6, f7, f8⟩ := sx_clOk hcl
        have hk := Nat.le_of_ble_eq_true hg.1
        have ht := sx_takeB_ok hg.2.1
        have hg2 := hg.2.2
        split at hg2
        next =>
          simp only [Bool.and_eq_true, Bool.not_eq_true'] at hg2
          exact Or.inl ⟨rfl, fun σ ss hp h K => by subst hp; exact sx_s_pf hx hb hts f1 (sx_ty ci) f2 f3 hown hK hcl k hk (hts _ (sx_wd_ok hg2.1)) hg2.2 ht hd h K⟩
        next =>
          simp only [Bool.and_eq_true] at hg2
          exact Or.inl ⟨rfl, fun σ ss hp h K => by subst hp; exact sx_s_pfF hx hb hts f1 (sx_ty ci) f2 f3 hown hK hcl k hk (hts _ (sx_wd_ok hg2.1)) hg2.2.1 (hinit hg2.2.2.1) (of_decide_eq_true hg2.2.2.2) ht hd h K⟩
        next =>
          simp only [Bool.and_eq_true, Bool.not_eq_true'] at hg2
          exact Or.inl ⟨rfl, fun σ ss hp h K => by subst hp; exact sx_s_pfN hx hb hts f1 (sx_ty ci) f2 f3 hown hK hcl k hk (va_Nw.use rfl (sx_wn_ok hN hg2.1)) hg2.2 ht hd h K⟩
      next => cases hg
    next => cases hg
  case new i =>
    simp only [sx_chkI, Bool.and_eq_true] at hi
    cases Nat.eq_of_beq_eq_true hi.1
    have hg := hi.2
    unfold sx_chkN at hg
    split at hg
    next Cn T N hcl =>
      obtain ⟨f1, f2, f3, f4, f5, f6, f7, f8⟩ := sx_clOk hcl
      exact Or.inl ⟨rfl, fun σ ss hp h K => by subst hp; exact sx_s_new hx hb hts f1 (sx_ty (sx_hd ex)) f2 hown (hts _ (sx_wd_ok hg)) (hts _ f4) (hts _ f5) hK hA hcl f6 f7 f8 hR hd h K⟩
    next => cases hg
  case newarray t =>
    simp only [sx_chkI, Bool.and_eq_true] at hi
    cases Nat.eq_of_beq_eq_true hi.1
    exact Or.inl ⟨rfl, fun σ ss hp h K => by subst hp; exact sx_s_newaK C0 hA hR hi.2 hd h K⟩
  case anewarray i =>
    simp only [sx_chkI, Bool.and_eq_true] at hi
    cases Nat.eq_of_beq_eq_true hi.1
    exact Or.inl ⟨rfl, fun σ ss hp h K => by subst hp; exact sx_s_anewa hx hb hown (hts _ (sx_wd_ok hi.2)) hO hK hA hR hd h K⟩
  case arraylength =>
    cases Nat.eq_of_beq_eq_true hi
    refine Or.inl ⟨rfl, fun σ ss hp h K => ?_⟩
    subst hp
    have h' : sx_alen sc σ = some ss := h
    rcases sx_alen_cases h' with ⟨pc, L, k, st, w, iv, mc, ms, rfl⟩ | ⟨pc, L, st, w, iv, mc, ms, rfl⟩
    · exact sx_s_alen hx hb hK hd h' K
    · exact sx_s_slen hx hb hsc hd h' K
  case iaload =>
    cases Nat.eq_of_beq_eq_true hi
    refine Or.inl ⟨rfl, fun σ ss hp h K => ?_⟩
    subst hp
    have h' : sx_load sc σ 0 = some ss := h
    rcases sx_load_cases h' with ⟨pc, L, i, k, st, w, iv, mc, ms, rfl⟩ | ⟨_, pc, L, i, st, w, iv, mc, ms, rfl⟩
    · exact sx_s_iald hx hb hK hd h' K
    · exact sx_s_sld hx hb hsc hd h' K
  case baload =>
    simp only [sx_chkI, Bool.and_eq_true, Bool.or_eq_true] at hi
    cases Nat.eq_of_beq_eq_true hi.1
    refine Or.inl ⟨rfl, fun σ ss hp h K => ?_⟩
    subst hp
    have h' : sx_load sc σ (sx_hd ex) = some ss := h
    rcases hi.2 with g | g
    · rw [Nat.eq_of_beq_eq_true g] at h'
      rcases sx_load_cases h' with ⟨pc, L, i, k, st, w, iv, mc, ms, rfl⟩ | ⟨h0, _⟩
      · exact sx_s_zald hx hb hK hd h' K
      · cases h0
    · rw [Nat.eq_of_beq_eq_true g] at h'
      rcases sx_load_cases h' with ⟨pc, L, i, k, st, w, iv, mc, ms, rfl⟩ | ⟨h0, _⟩
      · exact sx_s_bald hx hb hK hd h' K
      · cases h0
  case aaload =>
    cases Nat.eq_of_beq_eq_true hi
    refine Or.inl ⟨rfl, fun σ ss hp h K => ?_⟩
    subst hp
    have h' : sx_load sc σ 4 = some ss := h
    rcases sx_load_cases h' with ⟨pc, L, i, k, st, w, iv, mc, ms, rfl⟩ | ⟨h0, _⟩
    · exact sx_s_aald hx hb hK hd h' K
    · cases h0
  case iastore =>
    cases Nat.eq_of_beq_eq_true hi
    exact Or.inl ⟨rfl, fun σ ss hp h K => by subst hp; exact sx_s_iast hx hb hK hd h K⟩
  case bastore =>
    cases Nat.eq_of_beq_eq_true hi
    unfold sx_den
    simp only
    split
    · exact Or.inl ⟨rfl, fun σ ss hp h K => by subst hp; exact sx_s_zast hx hb hK hd h K⟩
    · exact Or.inl ⟨rfl, fun σ ss hp h K => by subst hp; exact sx_s_bast hx hb hK hd h K⟩
  case aastore =>
    cases Nat.eq_of_beq_eq_true hi
    exact Or.inl ⟨rfl, fun σ ss hp h K => by subst hp; exact sx_s_aast hx hb hK hd h K⟩
  case if_icmp o off =>
    simp only [sx_chkI, Bool.and_eq_true] at hi
    cases Nat.eq_of_beq_eq_true hi.1
    exact Or.inl ⟨rfl, fun σ ss hp h K => by subst hp; exact sx_s_jmp hx hb hd (of_decide_eq_true hi.2) h K⟩
  case ifCond o off =>
    simp only [sx_chkI, Bool.and_eq_true] at hi
    cases Nat.eq_of_beq_eq_true hi.1
    exact Or.inl ⟨rfl, fun σ ss hp h K => by subst hp; exact sx_s_jmp0 hx hb hd (of_decide_eq_true hi.2) h K⟩
  case ifnonnull off =>
    simp only [sx_chkI, Bool.and_eq_true] at hi
    cases Nat.eq_of_beq_eq_true hi.1
    exact Or.inl ⟨rfl, fun σ ss hp h K => by subst hp; exact sx_s_nonnull hx hb hd (of_decide_eq_true hi.2) h K⟩
  case tableswitch dflt lo hi' offs =>
    simp only [sx_chkI] at hi
    split at hi
    next d lo' ts =>
      simp only [Bool.and_eq_true] at hi
      exact Or.inl ⟨rfl, fun σ ss hp h K => by subst hp; exact sx_s_tsw hx hb hd (of_decide_eq_true hi.1) (of_decide_eq_true hi.2.1) (of_decide_eq_true hi.2.2.1) (of_decide_eq_true hi.2.2.2) h K⟩
    next => cases hi
  case lookupswitch dflt ps =>
    simp only [sx_chkI] at hi
    split at hi
    next d ts =>
      rw [Bool.and_eq_true, Bool.and_eq_true, Bool.and_eq_true] at hi
      exact Or.inl ⟨rfl, fun σ ss hp h K => by subst hp; exact sx_s_lsw hx hb hd hi.1 (of_decide_eq_true hi.2.1) (of_decide_eq_true hi.2.2.1) (of_decide_eq_true hi.2.2.2) h K⟩
    next => cases hi
  case ireturn =>
    simp only [sx_chkI, Bool.and_eq_true] at hi
    cases Nat.eq_of_beq_eq_true hi.1
    have hg := hi.2
    unfold sx_den
    simp only
    split
    next he =>
      rw [he] at hg
      exact Or.inr (Or.inr (Or.inl ⟨rfl, hd, Or.inr ⟨rfl, of_decide_eq_true hg⟩⟩))
    next hne =>
      split at hg
      next he => exact absurd he hne
      next => exact Or.inr (Or.inr (Or.inl ⟨rfl, hd, Or.inl ⟨rfl, of_decide_eq_true hg⟩⟩))
  case return_ =>
    simp only [sx_chkI, Bool.and_eq_true] at hi
    cases Nat.eq_of_beq_eq_true hi.1
    exact Or.inr (Or.inr (Or.inr ⟨rfl, hd, of_decide_eq_true hi.2⟩))
  case invokevirtual i =>
    simp only [sx_chkI, Bool.and_eq_true] at hi
    cases Nat.eq_of_beq_eq_true hi.1
    have hg := hi.2
    unfold sx_chkV at hg
    split at hg
    next y n _ pl t =>
      simp only [Bool.and_eq_true] at hg
      exact Or.inr (Or.inl ⟨.invokevirtual i, rfl, Or.inl ⟨i, rfl, hts _ (sx_wd_ok hg.1), sx_inst_ok hg.2.1, of_decide_eq_true hg.2.2.1, of_decide_eq_true hg.2.2.2.1⟩, hd, Nat.le_of_ble_eq_true hg.2.2.2.2⟩)
    next => cases hg
  case invokespecial i =>
    simp only [sx_chkI, Bool.and_eq_true] at hi
    cases Nat.eq_of_beq_eq_true hi.1
    have hg := hi.2
    unfold sx_chkS at hg
    split at hg
    next pl t => exact Or.inl ⟨rfl, fun σ ss hp h K => by subst hp; exact sx_s_obj hx hb hown hml (hts _ (sx_wd_ok hg)) (hts _ sx_w_obj1) (hts _ sx_w_obj2) hfr (by omega) hd h K⟩
    next y n nest pl t =>
      simp only [Bool.and_eq_true] at hg
      obtain ⟨g1, g2, g3, g4, g5, g6⟩ := hg
      split at g1
      next => exact Or.inr (Or.inl ⟨.invokespecial i, rfl, Or.inr (Or.inl ⟨i, rfl, hts _ (sx_wd_ok g1), sx_inst_ok g2, of_decide_eq_true g3, of_decide_eq_true g4, of_decide_eq_true g5⟩), hd, Nat.le_of_ble_eq_true g6⟩)
      next => exact Or.inr (Or.inl ⟨.invokespecial i, rfl, Or.inr (Or.inr (Or.inl ⟨i, "TwoInOne", rfl, sx_wn_ok hN g1, sx_inst_ok g2, of_decide_eq_true g3, of_decide_eq_true g4, of_decide_eq_true g5⟩)), hd, Nat.le_of_ble_eq_true g6⟩)
    next => cases hg
  case invokestatic i =>
    simp only [sx_chkI, Bool.and_eq_true] at hi
    cases Nat.eq_of_beq_eq_true hi.1
    have hg := hi.2
    unfold sx_chkT at hg
    split at hg
    next pl t => exact Or.inl ⟨rfl, fun σ ss hp h K => by subst hp; exact sx_s_copy hx hb hK hml hown (hts _ (sx_wd_ok hg)) (hts _ sx_w_cp1) (hts _ sx_w_cp2) (hts _ sx_w_cp3) hfr (Nat.le_trans (Nat.le_of_ble_eq_true (n := 8 + (nativeFrameWords "java/lang/System" "arraycopy" 5 + 11)) (m := 64) (by decide +kernel)) hlo) hd h K⟩
    next pl t => exact Or.inl ⟨rfl, fun σ ss hp h K => by subst hp; exact sx_s_mx C0 hR hfr hlo (hts _ (sx_wd_ok hg)) hd h K⟩
    next pl t => exact Or.inl ⟨rfl, fun σ ss hp h K => by subst hp; exact sx_s_mn C0 hR hfr hlo (hts _ (sx_wd_ok hg)) hd h K⟩
    next y n _ pl t =>
      simp only [Bool.and_eq_true] at hg
      exact Or.inr (Or.inl ⟨.invokestatic i, rfl, Or.inr (Or.inr (Or.inr ⟨i, rfl, hts _ (sx_wd_ok hg.1), Nat.eq_of_beq_eq_true hg.2.1, of_decide_eq_true hg.2.2.1⟩)), hd, Nat.le_of_ble_eq_true hg.2.2.2⟩)
    next => cases hg
  all_goals cases hi
end sxSound
end
section
/-! the executor is sound -/
def sx_tabOk (own : String) (cc : ByteArray) (nL : Nat) (init : Bool) (rt : Option FieldType) (tab : Nat → Option sx_Q) : Prop := ∀ (pc : Nat) (q : sx_Q), tab pc = some q → ∃ I len ex, q = sx_den sx_cls I ex ∧ sx_chk own cc nL init rt pc I len ex = true
theorem sx_args_eq {ρ : Nat → Int32} {ad : Nat → Nat} {b : Nat} : ∀ {av : List sx_V} {k : Nat}, av.all (fun v => !(sx_cat v)) = true → lv_args k (av.map (sx_cv ρ ad b)) = sx_cL ρ ad b (sx_args k av) ∧ (lg_sl (av.map (sx_cv ρ ad b))).length = av.length
  | [], _, _ => ⟨rfl, rfl⟩
  | v :: av, k, h => by
    rw [List.all_cons, Bool.and_eq_true, Bool.not_eq_true'] at h
    have h1 := sx_cat1 (ρ := ρ) (ad := ad) (b := b) h.1
    obtain ⟨h2, h3⟩ := sx_args_eq (ρ := ρ) (ad := ad) (b := b) (av := av) (k := k + 1) h.2
    have e : ¬ (sx_cv ρ ad b v).category = 2 := by rw [h1]; decide
    constructor
    · show (k, sx_cv ρ ad b v) :: lv_args (if (sx_cv ρ ad b v).category = 2 then k + 2 else k + 1) (av.map (sx_cv ρ ad b)) = _
      rw [if_neg e, h2]
      rfl
    · unfold lg_sl at h3 ⊢
      rw [List.map_cons, List.flatMap_cons, if_neg e, List.length_append, h3]
      show 1 + av.length = av.length + 1
      omega
section sxRun
variable {p : Program} {l : Launch} {e : Env} {R : Room} {s : State} {m : MethodId} {args : Array Value} {below : List Frame} {meth : Method} {c : Code} {Q : State → Prop} {D : va_G} {cA : Nat → ClassId} {A : Nat → Prop} {b nL : Nat} {ρ0 : Nat → Int32} {ad0 : Nat → Nat} {n0 m0 : Nat} {cc : ByteArray}
theorem sx_run_ok {own : String} {init : Bool} {rt : Option FieldType} (C : sx_Cx p s m args c D cA own cc nL) (hA : ∀ q, s.heap.size ≤ q → A q) {K : sx_K} {d : Nat} (hKK : sx_KOk l K d) (hfr : d + 1 ≤ R.frames) (hlo : 64 * (d + 1) ≤ R.locals) {cap : Nat × Nat} (hR : cap.1 ≤ R.cells ∧ cap.2 ≤ R.slots) (hinit : init = true → meth.name = "<init>") {sc : Bool} {LL : Nat} {xs : Nat → Int32} (hsc : sc = true → sx_Scr s A b ρ0 n0 LL xs) {tab : Nat → Option sx_Q} (hT : sx_tabOk own cc nL init rt tab) {stop : Nat} :
    ∀ (n : Nat) (σ : sx_S) (ss : List sx_S), sx_run K sx_caps sc cap tab stop n σ = some ss → (∀ τ ∈ ss, sx_Ok p l e R s m args below meth c Q D cA A b nL ρ0 ad0 n0 m0 τ) → sx_Ok p l e R s m args below meth c Q D cA A b nL ρ0 ad0 n0 m0 σ := by
  intro n
  induction n with
  | zero => intro σ ss h; cases h
  | succ n ih =>
    intro σ ss h KK
    have h : sx_body K sx_caps sc cap tab stop (sx_run K sx_caps sc cap tab stop n) σ = some ss := h
    unfold sx_body at h
    split at h
    next => cases h; exact KK _ List.mem_cons_self
    next =>
      split at h
      next => cases h
      next a1 a2 g htab =>
        obtain ⟨I, len, ex, hq, hc⟩ := hT _ _ htab
        have hE := sx_ent (p := p) (l := l) (e := e) (R := R) (m := m) (below := below) (meth := meth) (Q := Q) (ad0 := ad0) (m0 := m0) C hA hR (by omega) (by omega) hinit hsc hc
        rw [← hq] at hE
        unfold sx_next at h
        split at h
        next => cases h
        next ss1 hg =>
          rcases hE with ⟨_, hs⟩ | ⟨I', h3, _⟩ | ⟨h1, _⟩ | ⟨h2, _⟩
          · exact hs σ ss1 rfl hg (fun τ hτ => by
              obtain ⟨r, g1, g2⟩ := sx_bind_mem h τ hτ
              exact ih τ r g1 (fun x hx => KK x (g2 x hx)))
          · cases h3
          · cases h1
          · cases h2
      next y k g htab =>
        obtain ⟨I, len, ex, hq, hc⟩ := hT _ _ htab
        have hE := sx_ent (p := p) (l := l) (e := e) (R := R) (m := m) (below := below) (meth := meth) (Q := Q) (ad0 := ad0) (m0 := m0) C hA hR (by omega) (by omega) hinit hsc hc
        rw [← hq] at hE
        rcases hE with ⟨h0, _⟩ | ⟨I', h3, hLk, hdg, hnl⟩ | ⟨h1, _⟩ | ⟨h2, _⟩
        · cases h0
        · exact sx_s_call C hA hKK hLk hnl hfr hlo hR (fun τ r g1 g2 => ih τ r g1 (fun x hx => KK x (g2 x hx))) hdg h
        · cases h1
        · cases h2
      next => cases h; exact KK _ List.mem_cons_self
end sxRun
def sx_mtOk : Prop := ∀ (y : Nat) (tab : Nat → Option sx_Q), sx_mt y = some tab → y < 158 ∧ ∃ init : Bool, (init = true → (sx_rec y).1.name = "<init>") ∧ sx_tabOk (sx_rec y).1.cls (sx_rec y).2.1 (sx_rec y).2.2.1 init (sx_rec y).2.2.2 tab
theorem sx_zok_int {z : Nat} {v : sx_V} (h : sx_zok z v = true) : sx_isInt v = true := by
  unfold sx_zok at h
  split at h
  next => exact h
  next => exact (sx_bit_nar (ρ := fun _ => 0) h).1
theorem sx_zok_nar {ρ : Nat → Int32} {v : sx_V} (h : sx_zok 1 v = true) : narrow .boolean (.int (sx_xi ρ v)) = .int (sx_xi ρ v) := by
  have h : sx_bit v = true := h
  match v, h with
  | .inl n, h =>
    have h' : Nat.blt n 2 = true := h
    have h2 : n < 2 := Nat.le_of_ble_eq_true h'
    match n, h2 with
    | 0, _ => show narrow .boolean (.int (Int32.ofNat 0)) = .int (Int32.ofNat 0); decide +kernel
    | 1, _ => show narrow .boolean (.int (Int32.ofNat 1)) = .int (Int32.ofNat 1); decide +kernel
  | .inr _, h => cases h
theorem sx_exec_ok (hMT : sx_mtOk) (l : Launch) (fuel : Nat) : ∀ d, sx_KOk l (sx_exec sx_mt sx_caps sx_rc fuel d) d := by
  intro d
  induction d with
  | zero => intro y av w iv Ls h; cases h
  | succ d ih =>
    intro y av w iv Ls h
    have h : (match sx_mt y with
      | none => none
      | some tab => match sx_rok w (sx_rc y) av && av.all (fun v => !(sx_cat v)) with
        | true => match sx_run (sx_exec sx_mt sx_caps sx_rc fuel d) sx_caps false (sx_caps y) tab sx_far fuel (0, sx_args 0 av, [], w, iv, 0, 0) with
          | none => none
          | some ss => sx_mapO (sx_leaf tab (sx_caps y)) ss
        | false => none) = some Ls := h
    split at h
    next => cases h
    next tab ht =>
      split at h
      next hz =>
        split at h
        next => cases h
        next ss hrun =>
          rw [Bool.and_eq_true] at hz
          obtain ⟨hy, init, hini, hT⟩ := hMT y tab ht
          refine ⟨hy, hz.1, fun hlen D cA b ρ ad sz hiv => ?_⟩
          obtain ⟨m1, m2, m3, m4, m5, m6, m7, m8⟩ := sx_mok hy
          refine Met.ofW (cc := (sx_rec y).2.1) (maxL := (sx_rec y).2.2.1) (ret := (sx_rec y).2.2.2) m1 rfl ?_
          intro p e s m args below meth c s₁ B hml hv
          obtain ⟨rfl, hsz, hP, hK, hD0, hN, hO⟩ := hv
          have hts : ∀ w ∈ sx_TS, w.before (av.map (sx_cv ρ ad b)).toArray s = true := fun w hw => atoms_spec (ws := sx_ws y) B.pre w (List.mem_cons_of_mem _ hw)
          have hown : s.vm.findClass (sx_rec y).1.cls = some m.cls := findClass_of_methodNamed B.named
          have hname := (name_of_methodNamed B.named B.method).1
          subst hsz
          have hD := hD0.self (sz := s.heap.size)
          generalize hAe : va_A (sx_cW ρ ad b cA w) s.heap.size = A at hD ⊢
          have hA : ∀ q : Nat, s.heap.size ≤ q → A q := fun q h => by rw [← hAe]; exact Or.inr h
          obtain ⟨ha1, ha2⟩ := sx_args_eq (ρ := ρ) (ad := ad) (b := b) (k := 0) hz.2
          have hl := lv_entry (av.map (sx_cv ρ ad b)) (n := (sx_rec y).2.2.1) (by rw [ha2]; exact hlen)
          rw [ha1] at hl
          rw [lg_entry_eq]
          generalize (lg_sl (av.map (sx_cv ρ ad b)) ++ List.replicate ((sx_rec y).2.2.1 - (lg_sl (av.map (sx_cv ρ ad b))).length) Slot.unset).toArray = ls at hl ⊢
          have C : sx_Cx p s m (av.map (sx_cv ρ ad b)).toArray c D cA (sx_rec y).1.cls (sx_rec y).2.1 (sx_rec y).2.2.1 := ⟨B.exec, B.bytes, hml, hown, hts, hN, hO, hK⟩
          have key := sx_run_ok (p := p) (l := l) (e := e) (R := (headSpec (sx_ws y) (sx_rm (d + 1) y)).room) (below := below) (meth := meth) (Q := MQ below (sx_QC D cA b Ls ρ ad iv.length w.length A) (av.map (sx_cv ρ ad b)).toArray s (sx_caps y).1 (sx_caps y).2 A) (A := A) (b := b) (ρ0 := ρ) (ad0 := ad) (n0 := iv.length) (m0 := w.length) (LL := 0) (xs := fun _ => 0) C hA ih (Nat.le_refl _) (Nat.le_refl _) (cap := sx_caps y) ⟨Nat.le_refl _, Nat.le_refl _⟩ (fun hin => hname.trans (hini hin)) (sc := false) (fun h => by cases h) hT fuel _ ss hrun ?_
          · exact key ρ ad s.heap [] ls hiv (fun _ _ => rfl) (fun _ _ => rfl) (Nat.le_refl _) (Nat.le_refl _) hP hD va_S.rf hl
          · intro τ hτ
            obtain ⟨L, hL, hleaf⟩ := sx_mapO_mem h τ hτ
            obtain ⟨pc, L', st, w', iv', mc, ms⟩ := τ
            unfold sx_leaf at hleaf
            simp only at hleaf
            split at hleaf
            next hcap =>
              rw [Bool.and_eq_true] at hcap
              have z1 := Nat.le_of_ble_eq_true hcap.1
              have z2 := Nat.le_of_ble_eq_true hcap.2
              split at hleaf
              next z a2 g htab =>
                obtain ⟨I, len, ex, hq, hc⟩ := hT _ _ htab
                have hE := sx_ent (p := p) (l := l) (e := e) (R := (headSpec (sx_ws y) (sx_rm (d + 1) y)).room) (below := below) (meth := meth) (Q := fun _ => True) (A := A) (b := b) (ρ0 := ρ) (ad0 := ad) (n0 := 0) (m0 := 0) (LL := 0) (xs := fun _ => 0) (cap := sx_caps y) C hA ⟨Nat.le_refl _, Nat.le_refl _⟩ (Nat.le_add_left 1 d) (by show 64 ≤ 64 * (d + 1); omega) (fun hin => hname.trans (hini hin)) (sc := false) (fun h => by cases h) hc
                rw [← hq] at hE
                rcases hE with ⟨h0, _⟩ | ⟨I', h3, _⟩ | ⟨h1, hdg, hrt⟩ | ⟨h2, _⟩
                · cases h0
                · cases h3
                · split at hleaf
                  next v =>
                    split at hleaf
                    next hzk =>
                      cases hleaf
                      intro ρ' ad' H locs ls' h1 h2 h3 h4 h5 hP hD hS hl
                      refine W.widen (k := (sx_caps y).1) (n := (sx_caps y).2) z1 z2 ?_
                      have ev : sx_cv ρ' ad' b v = .int (sx_xi ρ' (sx_nm iv' v)) := by rw [← sx_nm_eq h1 v]; exact sx_cv_int (sx_zok_int hzk)
                      show W _ _ _ _ _ _ _ _ _ _ _ _ _ _ _ (F0 m pc ls' [sx_cv ρ' ad' b v])
                      rw [ev]
                      have hQ : ∀ t : State, t.heap = H → s.WarmedH t.vm → sx_QC D cA b Ls ρ ad iv.length w.length A (av.map (sx_cv ρ ad b)).toArray s (.returned (some (.int (sx_xi ρ' (sx_nm iv' v))))) t := fun t ht hW => ⟨⟨_, hL, ρ', ad', by rw [← ev, ← sx_nm_eq h1 v]; rfl, h1, h2, h3, h4, h5, by rw [ht]; exact hP, hD⟩, hS.F ht⟩
                      rcases hrt with ⟨e0, e1⟩ | ⟨e0, e1⟩
                      · exact W.zret (ty := .int) B.exec B.bytes (B.returns.trans e1) rfl hQ hS.2.2 hdg B.notSynchronized
                      · have e0 : z = 1 := e0
                        subst e0
                        exact W.zret (ty := .boolean) B.exec B.bytes (B.returns.trans e1) (sx_zok_nar hzk) hQ hS.2.2 hdg B.notSynchronized
                    next => cases hleaf
                  next => cases hleaf
                · cases h2
              next a1 a2 g htab =>
                obtain ⟨I, len, ex, hq, hc⟩ := hT _ _ htab
                have hE := sx_ent (p := p) (l := l) (e := e) (R := (headSpec (sx_ws y) (sx_rm (d + 1) y)).room) (below := below) (meth := meth) (Q := fun _ => True) (A := A) (b := b) (ρ0 := ρ) (ad0 := ad) (n0 := 0) (m0 := 0) (LL := 0) (xs := fun _ => 0) (cap := sx_caps y) C hA ⟨Nat.le_refl _, Nat.le_refl _⟩ (Nat.le_add_left 1 d) (by show 64 ≤ 64 * (d + 1); omega) (fun hin => hname.trans (hini hin)) (sc := false) (fun h => by cases h) hc
                rw [← hq] at hE
                rcases hE with ⟨h0, _⟩ | ⟨I', h3, _⟩ | ⟨h1, _⟩ | ⟨h2, hdg, hrt⟩
                · cases h0
                · cases h3
                · cases h1
                · split at hleaf
                  next =>
                    cases hleaf
                    intro ρ' ad' H locs ls' h1 h2 h3 h4 h5 hP hD hS hl
                    refine W.widen (k := (sx_caps y).1) (n := (sx_caps y).2) z1 z2 ?_
                    exact W.vret B.exec B.bytes (B.returns.trans hrt) (fun t ht hW => ⟨⟨_, hL, ρ', ad', rfl, h1, h2, h3, h4, h5, by rw [ht]; exact hP, hD⟩, hS.F ht⟩) hS.2.2 hdg B.notSynchronized
                  next => cases hleaf
              next => cases hleaf
            next => cases hleaf
      next => cases h
end
section
/-! tables of data, and their closures -/
noncomputable def sx_cT (dt : List (List (Nat × sx_I))) : List (List (Nat × sx_Q)) := dt.map (fun r => r.map (fun q => (q.1, sx_den sx_cls q.2.1 q.2.2.2)))
noncomputable def sx_chkR (own : String) (cc : ByteArray) (nL : Nat) (init : Bool) (rt : Option FieldType) (r : Nat) (row : List (Nat × sx_I)) : Bool := row.all (fun q => sx_chk own cc nL init rt (16 * r + q.1) q.2.1 q.2.2.1 q.2.2.2)
noncomputable def sx_chkTab (own : String) (cc : ByteArray) (nL : Nat) (init : Bool) (rt : Option FieldType) : Nat → List (List (Nat × sx_I)) → Bool
  | _, [] => true
  | r, row :: t => sx_chkR own cc nL init rt r row && sx_chkTab own cc nL init rt (r + 1) t
theorem sx_chkTab_at {own : String} {cc : ByteArray} {nL : Nat} {init : Bool} {rt : Option FieldType} : ∀ {dt : List (List (Nat × sx_I))} {r k : Nat} {row : List (Nat × sx_I)}, sx_chkTab own cc nL init rt r dt = true → dt[k]? = some row → sx_chkR own cc nL init rt (r + k) row = true
  | [], _, _, _, _, h => by simp at h
  | x :: t, r, 0, row, h, hk => by
    simp only [sx_chkTab, Bool.and_eq_true] at h
    cases hk
    exact h.1
  | x :: t, r, k + 1, row, h, hk => by
    simp only [sx_chkTab, Bool.and_eq_true] at h
    have h2 := sx_chkTab_at (r := r + 1) (k := k) h.2 hk
    rwa [show r + 1 + k = r + (k + 1) by omega] at h2
theorem sx_tab_ok {own : String} {cc : ByteArray} {nL : Nat} {init : Bool} {rt : Option FieldType} {t : List (List (Nat × sx_Q))} {dt : List (List (Nat × sx_I))} (hq : t = sx_cT dt) (h : sx_chkTab own cc nL init rt 0 dt = true) : sx_tabOk own cc nL init rt (sx_find t) := by
  intro pc q hf
  subst hq
  unfold sx_find at hf
  split at hf
  next l hl =>
    unfold sx_cT at hl
    rw [List.getElem?_map] at hl
    cases hr : dt[pc / 16]? with
    | none => rw [hr] at hl; cases hl
    | some row =>
      rw [hr] at hl
      cases hl
      have hm := sx_row_mem hf
      obtain ⟨e, he, h2⟩ := List.mem_map.mp hm
      have h3 := sx_chkTab_at h hr
      have h4 := List.all_eq_true.mp h3 e he
      have e1 : e.1 = pc % 16 := congrArg Prod.fst h2
      have e2 : sx_den sx_cls e.2.1 e.2.2.2 = q := congrArg Prod.snd h2
      have e3 : 16 * (0 + pc / 16) + e.1 = pc := by omega
      rw [e3] at h4
      exact ⟨e.2.1, e.2.2.1, e.2.2.2, e2.symm, h4⟩
  next => cases hf
noncomputable def sx_chkY (y : Nat) (init : Bool) (dt : List (List (Nat × sx_I))) : Bool := sx_chkTab (sx_rec y).1.cls (sx_rec y).2.1 (sx_rec y).2.2.1 init (sx_rec y).2.2.2 0 dt
def sx_yOk (y : Nat) (t : List (List (Nat × sx_Q))) : Prop := y < 158 ∧ ∃ init : Bool, (init = true → (sx_rec y).1.name = "<init>") ∧ sx_tabOk (sx_rec y).1.cls (sx_rec y).2.1 (sx_rec y).2.2.1 init (sx_rec y).2.2.2 (sx_find t)
theorem sx_yok0 {y : Nat} {t : List (List (Nat × sx_Q))} {dt : List (List (Nat × sx_I))} (hy : Nat.blt y 158 = true) (hq : t = sx_cT dt) (h : sx_chkY y false dt = true) : sx_yOk y t := ⟨Nat.le_of_ble_eq_true hy, false, fun h => (by cases h), sx_tab_ok hq h⟩
theorem sx_yok1 {y : Nat} {t : List (List (Nat × sx_Q))} {dt : List (List (Nat × sx_I))} (hy : Nat.blt y 158 = true) (hn : decide ((sx_rec y).1.name = "<init>") = true) (hq : t = sx_cT dt) (h : sx_chkY y true dt = true) : sx_yOk y t := ⟨Nat.le_of_ble_eq_true hy, true, fun _ => of_decide_eq_true hn, sx_tab_ok hq h⟩
end
section
/-! data of methods, 0 -/
def sx_d_J6_bitCount_0f7a4 : List (List (Nat × sx_I)) := [[(0, (.iload_n 0, 1, [])), (1, (.iload_n 0, 1, [])), (2, (.iconst 1, 1, [1])), (3, (.iushr, 1, [])), (4, (.ldc_w 265, 3, [1431655765, 1767])), (7, (.iand, 1, [])), (8, (.isub, 1, [])), (9, (.istore_n 0, 1, [])), (10, (.iload_n 0, 1, [])), (11, (.ldc_w 266, 3, [858993459, 1768])), (14, (.iand, 1, [])), (15, (.iload_n 0, 1, []))], [(0, (.iconst 2, 1, [2])), (1, (.iushr, 1, [])), (2, (.ldc_w 266, 3, [858993459, 1768])), (5, (.iand, 1, [])), (6, (.iadd, 1, [])), (7, (.istore_n 0, 1, [])), (8, (.iload_n 0, 1, [])), (9, (.iload_n 0, 1, [])), (10, (.iconst 4, 1, [4])), (11, (.iushr, 1, [])), (12, (.iadd, 1, [])), (13, (.ldc_w 267, 3, [252645135, 1769]))], [(0, (.iand, 1, [])), (1, (.istore_n 0, 1, [])), (2, (.iload_n 0, 1, [])), (3, (.iload_n 0, 1, [])), (4, (.bipush 8, 2, [8])), (6, (.iushr, 1, [])), (7, (.iadd, 1, [])), (8, (.istore_n 0, 1, [])), (9, (.iload_n 0, 1, [])), (10, (.iload_n 0, 1, [])), (11, (.bipush 16, 2, [16])), (13, (.iushr, 1, [])), (14, (.iadd, 1, [])), (15, (.istore_n 0, 1, []))], [(0, (.iload_n 0, 1, [])), (1, (.bipush 63, 2, [63])), (3, (.iand, 1, [])), (4, (.ireturn, 1, []))]]
set_option maxRecDepth 100000 in
theorem sx_q_J6_bitCount_0f7a4 : sx_t_J6_bitCount_0f7a4 = sx_cT sx_d_J6_bitCount_0f7a4 := rfl
set_option maxRecDepth 100000 in
theorem sx_y_J6_bitCount_0f7a4 : sx_yOk 0 sx_t_J6_bitCount_0f7a4 := sx_yok0 (by decide +kernel) sx_q_J6_bitCount_0f7a4 (by decide +kernel)
def sx_d_J7_fill_53178 : List (List (Nat × sx_I)) := [[(0, (.iconst 0, 1, [0])), (1, (.istore_n 2, 1, [])), (2, (.aload_n 0, 1, [])), (3, (.arraylength, 1, [])), (4, (.istore_n 3, 1, [])), (5, (.iload_n 2, 1, [])), (6, (.iload_n 3, 1, [])), (7, (.if_icmp .ge 13, 3, [20])), (10, (.aload_n 0, 1, [])), (11, (.iload_n 2, 1, [])), (12, (.iload_n 1, 1, [])), (13, (.iastore, 1, [])), (14, (.iinc 2 1, 3, [1]))], [(1, (.goto (-12), 3, [5])), (4, (.return_, 1, []))]]
set_option maxRecDepth 100000 in
theorem sx_q_J7_fill_53178 : sx_t_J7_fill_53178 = sx_cT sx_d_J7_fill_53178 := rfl
set_option maxRecDepth 100000 in
theorem sx_y_J7_fill_53178 : sx_yOk 1 sx_t_J7_fill_53178 := sx_yok0 (by decide +kernel) sx_q_J7_fill_53178 (by decide +kernel)
def sx_d_X0_daysLost : List (List (Nat × sx_I)) := [[(0, (.aload_n 0, 1, [])), (1, (.invokevirtual 165, 3, [2, 4, 1, 0, 1680])), (4, (.istore_n 2, 1, [])), (5, (.iconst 0, 1, [0])), (6, (.istore_n 3, 1, [])), (7, (.iconst 0, 1, [0])), (8, (.istore 4, 2, [])), (10, (.iload 4, 2, [])), (12, (.iload_n 1, 1, [])), (13, (.if_icmp .ge 40, 3, [53]))], [(0, (.aload_n 0, 1, [])), (1, (.aload_n 0, 1, [])), (2, (.getfield 22, 3, [0, 1, 0, 478])), (5, (.getfield 124, 3, [8, 0, 1, 390])), (8, (.iload 4, 2, [])), (10, (.iadd, 1, [])), (11, (.invokevirtual 168, 3, [2, 7, 2, 0, 1681])), (14, (.istore 5, 2, []))], [(0, (.iload 5, 2, [])), (2, (.iconst (-1), 1, [4294967295])), (3, (.if_icmp .eq 9, 3, [44])), (12, (.iinc 3 1, 3, [1])), (15, (.iinc 4 1, 3, [1]))], [(2, (.goto (-40), 3, [10])), (5, (.iload_n 3, 1, [])), (6, (.ireturn, 1, []))]]
set_option maxRecDepth 100000 in
theorem sx_q_X0_daysLost : sx_t_X0_daysLost = sx_cT sx_d_X0_daysLost := rfl
set_option maxRecDepth 100000 in
theorem sx_y_X0_daysLost : sx_yOk 2 sx_t_X0_daysLost := sx_yok0 (by decide +kernel) sx_q_X0_daysLost (by decide +kernel)
def sx_d_X0_init : List (List (Nat × sx_I)) := [[(0, (.aload_n 0, 1, [])), (1, (.invokespecial 3, 3, [0, 476])), (4, (.aload_n 0, 1, [])), (5, (.bipush 30, 2, [30])), (7, (.newarray .int, 2, [0])), (9, (.putfield 9, 3, [0, 2, 1, 0, 1, 479])), (12, (.aload_n 0, 1, [])), (13, (.iconst 3, 1, [3])), (14, (.newarray .int, 2, [0]))], [(0, (.putfield 15, 3, [0, 3, 1, 0, 1, 480])), (3, (.aload_n 0, 1, [])), (4, (.aload_n 1, 1, [])), (5, (.putfield 18, 3, [0, 0, 1, 0, 1, 477])), (8, (.aload_n 0, 1, [])), (9, (.aload_n 2, 1, [])), (10, (.putfield 22, 3, [0, 1, 1, 0, 1, 478])), (13, (.return_, 1, []))]]
set_option maxRecDepth 100000 in
theorem sx_q_X0_init : sx_t_X0_init = sx_cT sx_d_X0_init := rfl
set_option maxRecDepth 100000 in
theorem sx_y_X0_init : sx_yOk 3 sx_t_X0_init := sx_yok1 (by decide +kernel) (by decide +kernel) sx_q_X0_init (by decide +kernel)
def sx_d_X0_mostFavoured : List (List (Nat × sx_I)) := [[(0, (.aload_n 0, 1, [])), (1, (.getfield 15, 3, [0, 3, 0, 480])), (4, (.iconst 0, 1, [0])), (5, (.invokestatic 145, 3, [2, 1, 2, 0, 1654])), (8, (.iconst 0, 1, [0])), (9, (.istore_n 1, 1, [])), (10, (.iload_n 1, 1, [])), (11, (.aload_n 0, 1, [])), (12, (.getfield 18, 3, [0, 0, 0, 477])), (15, (.getfield 159, 3, [10, 0, 1, 213]))], [(2, (.if_icmp .ge 31, 3, [49]))], [], [(1, (.aload_n 0, 1, [])), (2, (.invokevirtual 155, 3, [2, 6, 1, 0, 1660])), (5, (.ireturn, 1, []))]]
set_option maxRecDepth 100000 in
theorem sx_q_X0_mostFavoured : sx_t_X0_mostFavoured = sx_cT sx_d_X0_mostFavoured := rfl
set_option maxRecDepth 100000 in
theorem sx_y_X0_mostFavoured : sx_yOk 4 sx_t_X0_mostFavoured := sx_yok0 (by decide +kernel) sx_q_X0_mostFavoured (by decide +kernel)
def sx_d_X0_passDay : List (List (Nat × sx_I)) := [[(0, (.iconst 0, 1, [0])), (1, (.istore_n 3, 1, [])), (2, (.iload_n 3, 1, [])), (3, (.aload_n 0, 1, [])), (4, (.getfield 18, 3, [0, 0, 0, 477])), (7, (.getfield 121, 3, [10, 1, 1, 216])), (10, (.if_icmp .ge 78, 3, [88]))], [], [], [], [], [(8, (.aload_n 0, 1, [])), (9, (.getfield 22, 3, [0, 1, 0, 478])), (12, (.dup, 1, [])), (13, (.getfield 124, 3, [8, 0, 1, 390]))], [(0, (.iconst 1, 1, [1])), (1, (.iadd, 1, [])), (2, (.putfield 124, 3, [8, 0, 0, 1, 0, 390])), (5, (.return_, 1, []))]]
set_option maxRecDepth 100000 in
theorem sx_q_X0_passDay : sx_t_X0_passDay = sx_cT sx_d_X0_passDay := rfl
set_option maxRecDepth 100000 in
theorem sx_y_X0_passDay : sx_yOk 5 sx_t_X0_passDay := sx_yok0 (by decide +kernel) sx_q_X0_passDay (by decide +kernel)
def sx_d_X0_winner : List (List (Nat × sx_I)) := [[(0, (.iconst (-1), 1, [4294967295])), (1, (.istore_n 1, 1, [])), (2, (.iconst 0, 1, [0])), (3, (.istore_n 2, 1, [])), (4, (.iconst 0, 1, [0])), (5, (.istore_n 3, 1, [])), (6, (.iload_n 3, 1, [])), (7, (.iconst 2, 1, [2])), (8, (.if_icmp .gt 28, 3, [36])), (11, (.aload_n 0, 1, [])), (12, (.getfield 15, 3, [0, 3, 0, 480])), (15, (.iload_n 3, 1, []))], [(0, (.iaload, 1, [])), (1, (.iload_n 2, 1, [])), (2, (.if_icmp .le 12, 3, [30])), (14, (.iinc 3 1, 3, [1]))], [(1, (.goto (-27), 3, [6])), (4, (.iload_n 1, 1, [])), (5, (.ireturn, 1, []))]]
set_option maxRecDepth 100000 in
theorem sx_q_X0_winner : sx_t_X0_winner = sx_cT sx_d_X0_winner := rfl
set_option maxRecDepth 100000 in
theorem sx_y_X0_winner : sx_yOk 6 sx_t_X0_winner := sx_yok0 (by decide +kernel) sx_q_X0_winner (by decide +kernel)
def sx_d_X0_winnerOn : List (List (Nat × sx_I)) := [[(0, (.aload_n 0, 1, [])), (1, (.getfield 15, 3, [0, 3, 0, 480])), (4, (.iconst 0, 1, [0])), (5, (.invokestatic 145, 3, [2, 1, 2, 0, 1654])), (8, (.iconst 0, 1, [0])), (9, (.istore_n 2, 1, [])), (10, (.iload_n 2, 1, [])), (11, (.aload_n 0, 1, [])), (12, (.getfield 18, 3, [0, 0, 0, 477])), (15, (.getfield 121, 3, [10, 1, 1, 216]))], [(2, (.if_icmp .ge 19, 3, [37]))], [(5, (.aload_n 0, 1, [])), (6, (.invokevirtual 155, 3, [2, 6, 1, 0, 1660])), (9, (.ireturn, 1, []))]]
set_option maxRecDepth 100000 in
theorem sx_q_X0_winnerOn : sx_t_X0_winnerOn = sx_cT sx_d_X0_winnerOn := rfl
set_option maxRecDepth 100000 in
theorem sx_y_X0_winnerOn : sx_yOk 7 sx_t_X0_winnerOn := sx_yok0 (by decide +kernel) sx_q_X0_winnerOn (by decide +kernel)
def sx_d_X10_copyFrom : List (List (Nat × sx_I)) := [[(0, (.aload_n 0, 1, [])), (1, (.aload_n 1, 1, [])), (2, (.getfield 54, 3, [10, 0, 0, 209])), (5, (.putfield 54, 3, [10, 0, 0, 0, 0, 209])), (8, (.aload_n 0, 1, [])), (9, (.aload_n 1, 1, [])), (10, (.getfield 58, 3, [10, 1, 0, 214])), (13, (.putfield 58, 3, [10, 1, 0, 0, 0, 214]))], [(0, (.aload_n 0, 1, [])), (1, (.aload_n 1, 1, [])), (2, (.getfield 61, 3, [10, 2, 0, 218])), (5, (.putfield 61, 3, [10, 2, 0, 0, 0, 218])), (8, (.aload_n 0, 1, [])), (9, (.aload_n 1, 1, [])), (10, (.getfield 64, 3, [10, 3, 0, 224])), (13, (.putfield 64, 3, [10, 3, 0, 0, 0, 224]))], [(0, (.aload_n 0, 1, [])), (1, (.aload_n 1, 1, [])), (2, (.getfield 67, 3, [10, 4, 0, 227])), (5, (.putfield 67, 3, [10, 4, 0, 0, 0, 227])), (8, (.aload_n 0, 1, [])), (9, (.aload_n 1, 1, [])), (10, (.getfield 70, 3, [10, 5, 0, 231])), (13, (.putfield 70, 3, [10, 5, 0, 0, 0, 231]))], [(0, (.aload_n 1, 1, [])), (1, (.getfield 9, 3, [10, 6, 0, 233])), (4, (.iconst 0, 1, [0])), (5, (.aload_n 0, 1, [])), (6, (.getfield 9, 3, [10, 6, 0, 233])), (9, (.iconst 0, 1, [0])), (10, (.bipush 8, 2, [8])), (12, (.invokestatic 79, 3, [1, 890])), (15, (.aload_n 1, 1, []))], [(0, (.getfield 15, 3, [10, 7, 0, 237])), (3, (.iconst 0, 1, [0])), (4, (.aload_n 0, 1, [])), (5, (.getfield 15, 3, [10, 7, 0, 237])), (8, (.iconst 0, 1, [0])), (9, (.bipush 8, 2, [8])), (11, (.invokestatic 79, 3, [1, 890])), (14, (.aload_n 1, 1, [])), (15, (.getfield 18, 3, [10, 8, 0, 241]))], [(2, (.iconst 0, 1, [0])), (3, (.aload_n 0, 1, [])), (4, (.getfield 18, 3, [10, 8, 0, 241])), (7, (.iconst 0, 1, [0])), (8, (.bipush 8, 2, [8])), (10, (.invokestatic 79, 3, [1, 890])), (13, (.aload_n 1, 1, [])), (14, (.getfield 21, 3, [10, 9, 0, 243]))], [(1, (.iconst 0, 1, [0])), (2, (.aload_n 0, 1, [])), (3, (.getfield 21, 3, [10, 9, 0, 243])), (6, (.iconst 0, 1, [0])), (7, (.bipush 8, 2, [8])), (9, (.invokestatic 79, 3, [1, 890])), (12, (.aload_n 1, 1, [])), (13, (.getfield 24, 3, [10, 10, 0, 246]))], [(0, (.iconst 0, 1, [0])), (1, (.aload_n 0, 1, [])), (2, (.getfield 24, 3, [10, 10, 0, 246])), (5, (.iconst 0, 1, [0])), (6, (.bipush 8, 2, [8])), (8, (.invokestatic 79, 3, [1, 890])), (11, (.aload_n 1, 1, [])), (12, (.getfield 27, 3, [10, 11, 0, 250])), (15, (.iconst 0, 1, [0]))], [(0, (.aload_n 0, 1, [])), (1, (.getfield 27, 3, [10, 11, 0, 250])), (4, (.iconst 0, 1, [0])), (5, (.bipush 64, 2, [64])), (7, (.invokestatic 79, 3, [1, 890])), (10, (.aload_n 1, 1, [])), (11, (.getfield 30, 3, [10, 12, 0, 252])), (14, (.iconst 0, 1, [0])), (15, (.aload_n 0, 1, []))], [(0, (.getfield 30, 3, [10, 12, 0, 252])), (3, (.iconst 0, 1, [0])), (4, (.iconst 4, 1, [4])), (5, (.invokestatic 79, 3, [1, 890])), (8, (.aload_n 1, 1, [])), (9, (.getfield 33, 3, [10, 13, 0, 255])), (12, (.iconst 0, 1, [0])), (13, (.aload_n 0, 1, [])), (14, (.getfield 33, 3, [10, 13, 0, 255]))], [(1, (.iconst 0, 1, [0])), (2, (.iconst 4, 1, [4])), (3, (.invokestatic 79, 3, [1, 890])), (6, (.aload_n 1, 1, [])), (7, (.getfield 36, 3, [10, 14, 0, 260])), (10, (.iconst 0, 1, [0])), (11, (.aload_n 0, 1, [])), (12, (.getfield 36, 3, [10, 14, 0, 260])), (15, (.iconst 0, 1, [0]))], [(0, (.bipush 56, 2, [56])), (2, (.invokestatic 79, 3, [1, 890])), (5, (.aload_n 1, 1, [])), (6, (.getfield 39, 3, [10, 15, 0, 264])), (9, (.iconst 0, 1, [0])), (10, (.aload_n 0, 1, [])), (11, (.getfield 39, 3, [10, 15, 0, 264])), (14, (.iconst 0, 1, [0])), (15, (.bipush 6, 2, [6]))], [(1, (.invokestatic 79, 3, [1, 890])), (4, (.aload_n 1, 1, [])), (5, (.getfield 42, 3, [10, 16, 0, 267])), (8, (.iconst 0, 1, [0])), (9, (.aload_n 0, 1, [])), (10, (.getfield 42, 3, [10, 16, 0, 267])), (13, (.iconst 0, 1, [0])), (14, (.bipush 6, 2, [6]))], [(0, (.invokestatic 79, 3, [1, 890])), (3, (.aload_n 1, 1, [])), (4, (.getfield 45, 3, [10, 17, 0, 270])), (7, (.iconst 0, 1, [0])), (8, (.aload_n 0, 1, [])), (9, (.getfield 45, 3, [10, 17, 0, 270])), (12, (.iconst 0, 1, [0])), (13, (.bipush 6, 2, [6])), (15, (.invokestatic 79, 3, [1, 890]))], [(2, (.aload_n 1, 1, [])), (3, (.getfield 48, 3, [10, 18, 0, 273])), (6, (.iconst 0, 1, [0])), (7, (.aload_n 0, 1, [])), (8, (.getfield 48, 3, [10, 18, 0, 273])), (11, (.iconst 0, 1, [0])), (12, (.sipush 640, 3, [640])), (15, (.invokestatic 79, 3, [1, 890]))], [(2, (.return_, 1, []))]]
set_option maxRecDepth 100000 in
theorem sx_q_X10_copyFrom : sx_t_X10_copyFrom = sx_cT sx_d_X10_copyFrom := rfl
set_option maxRecDepth 100000 in
theorem sx_y_X10_copyFrom : sx_yOk 8 sx_t_X10_copyFrom := sx_yok0 (by decide +kernel) sx_q_X10_copyFrom (by decide +kernel)
def sx_d_X10_empty : List (List (Nat × sx_I)) := [[(0, (.aload_n 0, 1, [])), (1, (.iconst 0, 1, [0])), (2, (.putfield 54, 3, [10, 0, 0, 0, 0, 209])), (5, (.aload_n 0, 1, [])), (6, (.iconst 0, 1, [0])), (7, (.putfield 58, 3, [10, 1, 0, 0, 0, 214])), (10, (.aload_n 0, 1, [])), (11, (.iconst 0, 1, [0])), (12, (.putfield 61, 3, [10, 2, 0, 0, 0, 218])), (15, (.aload_n 0, 1, []))], [(0, (.iconst 0, 1, [0])), (1, (.putfield 64, 3, [10, 3, 0, 0, 0, 224])), (4, (.aload_n 0, 1, [])), (5, (.iconst 0, 1, [0])), (6, (.putfield 67, 3, [10, 4, 0, 0, 0, 227])), (9, (.aload_n 0, 1, [])), (10, (.iconst (-1), 1, [4294967295])), (11, (.putfield 70, 3, [10, 5, 0, 0, 0, 231])), (14, (.aload_n 0, 1, [])), (15, (.getfield 18, 3, [10, 8, 0, 241]))], [(2, (.iconst (-1), 1, [4294967295])), (3, (.invokestatic 73, 3, [2, 1, 2, 0, 206])), (6, (.aload_n 0, 1, [])), (7, (.getfield 21, 3, [10, 9, 0, 243])), (10, (.iconst (-1), 1, [4294967295])), (11, (.invokestatic 73, 3, [2, 1, 2, 0, 206])), (14, (.aload_n 0, 1, [])), (15, (.getfield 27, 3, [10, 11, 0, 250]))], [(2, (.iconst (-1), 1, [4294967295])), (3, (.invokestatic 73, 3, [2, 1, 2, 0, 206])), (6, (.return_, 1, []))]]
set_option maxRecDepth 100000 in
theorem sx_q_X10_empty : sx_t_X10_empty = sx_cT sx_d_X10_empty := rfl
set_option maxRecDepth 100000 in
theorem sx_y_X10_empty : sx_yOk 9 sx_t_X10_empty := sx_yok0 (by decide +kernel) sx_q_X10_empty (by decide +kernel)
def sx_d_X10_hasDeed : List (List (Nat × sx_I)) := [[(0, (.iload_n 1, 1, [])), (1, (.ifCond .lt 15, 3, [16])), (4, (.iload_n 1, 1, [])), (5, (.aload_n 0, 1, [])), (6, (.getfield 61, 3, [10, 2, 0, 218])), (9, (.if_icmp .ge 7, 3, [16]))], [(0, (.iconst 0, 1, [0])), (1, (.ireturn, 1, [1]))]]
set_option maxRecDepth 100000 in
theorem sx_q_X10_hasDeed : sx_t_X10_hasDeed = sx_cT sx_d_X10_hasDeed := rfl
set_option maxRecDepth 100000 in
theorem sx_y_X10_hasDeed : sx_yOk 10 sx_t_X10_hasDeed := sx_yok0 (by decide +kernel) sx_q_X10_hasDeed (by decide +kernel)
def sx_d_X10_hasHalf : List (List (Nat × sx_I)) := [[(0, (.iload_n 1, 1, [])), (1, (.ifCond .lt 15, 3, [16])), (4, (.iload_n 1, 1, [])), (5, (.aload_n 0, 1, [])), (6, (.getfield 54, 3, [10, 0, 0, 209])), (9, (.if_icmp .ge 7, 3, [16]))], [(0, (.iconst 0, 1, [0])), (1, (.ireturn, 1, [1]))]]
set_option maxRecDepth 100000 in
theorem sx_q_X10_hasHalf : sx_t_X10_hasHalf = sx_cT sx_d_X10_hasHalf := rfl
set_option maxRecDepth 100000 in
theorem sx_y_X10_hasHalf : sx_yOk 11 sx_t_X10_hasHalf := sx_yok0 (by decide +kernel) sx_q_X10_hasHalf (by decide +kernel)
def sx_d_X10_hasPerson : List (List (Nat × sx_I)) := [[(0, (.iload_n 1, 1, [])), (1, (.ifCond .lt 15, 3, [16])), (4, (.iload_n 1, 1, [])), (5, (.aload_n 0, 1, [])), (6, (.getfield 58, 3, [10, 1, 0, 214])), (9, (.if_icmp .ge 7, 3, [16]))], [(0, (.iconst 0, 1, [0])), (1, (.ireturn, 1, [1]))]]
set_option maxRecDepth 100000 in
theorem sx_q_X10_hasPerson : sx_t_X10_hasPerson = sx_cT sx_d_X10_hasPerson := rfl
set_option maxRecDepth 100000 in
theorem sx_y_X10_hasPerson : sx_yOk 12 sx_t_X10_hasPerson := sx_yok0 (by decide +kernel) sx_q_X10_hasPerson (by decide +kernel)
def sx_d_X10_init : List (List (Nat × sx_I)) := [[(0, (.aload_n 0, 1, [])), (1, (.invokespecial 3, 3, [0, 201])), (4, (.aload_n 0, 1, [])), (5, (.bipush 8, 2, [8])), (7, (.newarray .int, 2, [0])), (9, (.putfield 9, 3, [10, 6, 1, 0, 1, 233])), (12, (.aload_n 0, 1, [])), (13, (.bipush 8, 2, [8])), (15, (.newarray .int, 2, [0]))], [(1, (.putfield 15, 3, [10, 7, 1, 0, 1, 237])), (4, (.aload_n 0, 1, [])), (5, (.bipush 8, 2, [8])), (7, (.newarray .int, 2, [0])), (9, (.putfield 18, 3, [10, 8, 1, 0, 1, 241])), (12, (.aload_n 0, 1, [])), (13, (.bipush 8, 2, [8])), (15, (.newarray .int, 2, [0]))], [(1, (.putfield 21, 3, [10, 9, 1, 0, 1, 243])), (4, (.aload_n 0, 1, [])), (5, (.bipush 8, 2, [8])), (7, (.newarray .int, 2, [0])), (9, (.putfield 24, 3, [10, 10, 1, 0, 1, 246])), (12, (.aload_n 0, 1, [])), (13, (.bipush 64, 2, [64])), (15, (.newarray .int, 2, [0]))], [(1, (.putfield 27, 3, [10, 11, 1, 0, 1, 250])), (4, (.aload_n 0, 1, [])), (5, (.iconst 4, 1, [4])), (6, (.newarray .int, 2, [0])), (8, (.putfield 30, 3, [10, 12, 1, 0, 1, 252])), (11, (.aload_n 0, 1, [])), (12, (.iconst 4, 1, [4])), (13, (.newarray .int, 2, [0])), (15, (.putfield 33, 3, [10, 13, 1, 0, 1, 255]))], [(2, (.aload_n 0, 1, [])), (3, (.bipush 56, 2, [56])), (5, (.newarray .int, 2, [0])), (7, (.putfield 36, 3, [10, 14, 1, 0, 1, 260])), (10, (.aload_n 0, 1, [])), (11, (.bipush 6, 2, [6])), (13, (.newarray .int, 2, [0])), (15, (.putfield 39, 3, [10, 15, 1, 0, 1, 264]))], [(2, (.aload_n 0, 1, [])), (3, (.bipush 6, 2, [6])), (5, (.newarray .int, 2, [0])), (7, (.putfield 42, 3, [10, 16, 1, 0, 1, 267])), (10, (.aload_n 0, 1, [])), (11, (.bipush 6, 2, [6])), (13, (.newarray .int, 2, [0])), (15, (.putfield 45, 3, [10, 17, 1, 0, 1, 270]))], [(2, (.aload_n 0, 1, [])), (3, (.sipush 640, 3, [640])), (6, (.newarray .int, 2, [0])), (8, (.putfield 48, 3, [10, 18, 1, 0, 1, 273])), (11, (.aload_n 0, 1, [])), (12, (.invokevirtual 51, 3, [2, 9, 1, 0, 202])), (15, (.return_, 1, []))]]
set_option maxRecDepth 100000 in
theorem sx_q_X10_init : sx_t_X10_init = sx_cT sx_d_X10_init := rfl
set_option maxRecDepth 100000 in
theorem sx_y_X10_init : sx_yOk 13 sx_t_X10_init := sx_yok1 (by decide +kernel) (by decide +kernel) sx_q_X10_init (by decide +kernel)
def sx_d_X10_isMember : List (List (Nat × sx_I)) := [[(0, (.aload_n 0, 1, [])), (1, (.iload_n 1, 1, [])), (2, (.invokevirtual 85, 3, [2, 12, 2, 0, 1097])), (5, (.ifCond .eq 25, 3, [30]))], [(14, (.iconst 0, 1, [0])), (15, (.ireturn, 1, [1]))]]
set_option maxRecDepth 100000 in
theorem sx_q_X10_isMember : sx_t_X10_isMember = sx_cT sx_d_X10_isMember := rfl
set_option maxRecDepth 100000 in
theorem sx_y_X10_isMember : sx_yOk 14 sx_t_X10_isMember := sx_yok0 (by decide +kernel) sx_q_X10_isMember (by decide +kernel)
def sx_d_X11_about : List (List (Nat × sx_I)) := [[(0, (.iload_n 1, 1, [])), (1, (.tableswitch 183 0 13 #[71, 79, 87, 95, 103, 111, 119, 127, 138, 146, 154, 159, 167, 175], 71, [184, 2147483648, 72, 80, 88, 96, 104, 112, 120, 128, 139, 147, 155, 160, 168, 176]))], [], [], [], [(8, (.aload_n 0, 1, [])), (9, (.getfield 20, 3, [11, 2, 0, 671])), (12, (.getfield 128, 3, [10, 0, 1, 212])), (15, (.ireturn, 1, []))], [(0, (.aload_n 0, 1, [])), (1, (.getfield 20, 3, [11, 2, 0, 671])), (4, (.getfield 219, 3, [10, 1, 1, 217])), (7, (.ireturn, 1, [])), (8, (.aload_n 0, 1, [])), (9, (.getfield 20, 3, [11, 2, 0, 671])), (12, (.getfield 377, 3, [10, 2, 1, 223])), (15, (.ireturn, 1, []))], [(0, (.aload_n 0, 1, [])), (1, (.getfield 36, 3, [11, 4, 0, 673])), (4, (.getfield 175, 3, [8, 0, 1, 389])), (7, (.ireturn, 1, [])), (8, (.aload_n 0, 1, [])), (9, (.getfield 36, 3, [11, 4, 0, 673])), (12, (.getfield 222, 3, [8, 1, 1, 392])), (15, (.ireturn, 1, []))], [(0, (.aload_n 0, 1, [])), (1, (.getfield 43, 3, [11, 5, 0, 674])), (4, (.getfield 380, 3, [2, 4, 1, 436])), (7, (.ireturn, 1, [])), (8, (.aload_n 0, 1, [])), (9, (.getfield 43, 3, [11, 5, 0, 674])), (12, (.getfield 383, 3, [2, 5, 1, 438])), (15, (.ireturn, 1, []))], [(0, (.aload_n 0, 1, [])), (1, (.getfield 70, 3, [11, 8, 0, 677])), (4, (.getfield 121, 3, [1, 7, 1, 522])), (7, (.getfield 284, 3, [5, 1, 1, 465])), (10, (.ireturn, 1, [])), (11, (.aload_n 0, 1, [])), (12, (.getfield 94, 3, [11, 12, 0, 681])), (15, (.getfield 386, 3, [7, 6, 1, 601]))], [(2, (.ireturn, 1, [])), (3, (.aload_n 0, 1, [])), (4, (.getfield 94, 3, [11, 12, 0, 681])), (7, (.getfield 341, 3, [7, 7, 1, 603])), (10, (.ireturn, 1, [])), (11, (.aload_n 0, 1, [])), (12, (.getfield 13, 3, [11, 1, 0, 670])), (15, (.ireturn, 1, []))], [(0, (.aload_n 0, 1, [])), (1, (.getfield 20, 3, [11, 2, 0, 671])), (4, (.getfield 389, 3, [10, 4, 1, 229])), (7, (.ireturn, 1, [])), (8, (.aload_n 0, 1, [])), (9, (.getfield 52, 3, [11, 6, 0, 675])), (12, (.getfield 284, 3, [5, 1, 1, 465])), (15, (.ireturn, 1, []))], [(0, (.aload_n 0, 1, [])), (1, (.getfield 20, 3, [11, 2, 0, 671])), (4, (.getfield 392, 3, [10, 3, 1, 226])), (7, (.ireturn, 1, [])), (8, (.iconst (-1), 1, [4294967295])), (9, (.ireturn, 1, []))]]
set_option maxRecDepth 100000 in
theorem sx_q_X11_about : sx_t_X11_about = sx_cT sx_d_X11_about := rfl
set_option maxRecDepth 100000 in
theorem sx_y_X11_about : sx_yOk 15 sx_t_X11_about := sx_yok0 (by decide +kernel) sx_q_X11_about (by decide +kernel)
end
section
/-! data of methods, 1 -/
def sx_d_X11_alibis : List (List (Nat × sx_I)) := [[(0, (.aload_n 0, 1, [])), (1, (.getfield 52, 3, [11, 6, 0, 675])), (4, (.invokevirtual 124, 3, [2, 146, 1, 0, 895])), (7, (.aload_n 0, 1, [])), (8, (.getfield 20, 3, [11, 2, 0, 671])), (11, (.iload_n 1, 1, [])), (12, (.invokevirtual 160, 3, [2, 12, 2, 0, 933])), (15, (.ifCond .ne 5, 3, [20]))], [(2, (.iconst (-1), 1, [4294967295])), (3, (.ireturn, 1, []))]]
set_option maxRecDepth 100000 in
theorem sx_q_X11_alibis : sx_t_X11_alibis = sx_cT sx_d_X11_alibis := rfl
set_option maxRecDepth 100000 in
theorem sx_y_X11_alibis : sx_yOk 16 sx_t_X11_alibis := sx_yok0 (by decide +kernel) sx_q_X11_alibis (by decide +kernel)
def sx_d_X11_back : List (List (Nat × sx_I)) := [[(0, (.iload_n 1, 1, [])), (1, (.ifCond .lt 23, 3, [24])), (4, (.iload_n 1, 1, [])), (5, (.iconst 3, 1, [3])), (6, (.if_icmp .ge 18, 3, [24])), (9, (.aload_n 0, 1, [])), (10, (.getfield 43, 3, [11, 5, 0, 674])), (13, (.iload_n 1, 1, [])), (14, (.aload_n 0, 1, [])), (15, (.getfield 36, 3, [11, 4, 0, 673]))], [(2, (.invokevirtual 373, 3, [2, 135, 3, 0, 1783])), (5, (.ifCond .ne 5, 3, [26])), (8, (.iconst (-1), 1, [4294967295])), (9, (.ireturn, 1, []))]]
set_option maxRecDepth 100000 in
theorem sx_q_X11_back : sx_t_X11_back = sx_cT sx_d_X11_back := rfl
set_option maxRecDepth 100000 in
theorem sx_y_X11_back : sx_yOk 17 sx_t_X11_back := sx_yok0 (by decide +kernel) sx_q_X11_back (by decide +kernel)
def sx_d_X11_breaks : List (List (Nat × sx_I)) := [[(0, (.aload_n 0, 1, [])), (1, (.getfield 20, 3, [11, 2, 0, 671])), (4, (.iload_n 1, 1, [])), (5, (.invokevirtual 160, 3, [2, 12, 2, 0, 933])), (8, (.ifCond .eq 23, 3, [31]))], [(15, (.bipush (-2), 2, [4294967294]))], [(1, (.ireturn, 1, []))]]
set_option maxRecDepth 100000 in
theorem sx_q_X11_breaks : sx_t_X11_breaks = sx_cT sx_d_X11_breaks := rfl
set_option maxRecDepth 100000 in
theorem sx_y_X11_breaks : sx_yOk 18 sx_t_X11_breaks := sx_yok0 (by decide +kernel) sx_q_X11_breaks (by decide +kernel)
def sx_d_X11_canDo : List (List (Nat × sx_I)) := [[(0, (.aload_n 0, 1, [])), (1, (.getfield 20, 3, [11, 2, 0, 671])), (4, (.iload_n 1, 1, [])), (5, (.invokevirtual 160, 3, [2, 12, 2, 0, 933])), (8, (.ifCond .eq 37, 3, [45]))], [], [(13, (.iconst 0, 1, [0])), (14, (.ireturn, 1, [1]))]]
set_option maxRecDepth 100000 in
theorem sx_q_X11_canDo : sx_t_X11_canDo = sx_cT sx_d_X11_canDo := rfl
set_option maxRecDepth 100000 in
theorem sx_y_X11_canDo : sx_yOk 19 sx_t_X11_canDo := sx_yok0 (by decide +kernel) sx_q_X11_canDo (by decide +kernel)
def sx_d_X11_cares : List (List (Nat × sx_I)) := [[(0, (.aload_n 0, 1, [])), (1, (.getfield 20, 3, [11, 2, 0, 671])), (4, (.iload_n 1, 1, [])), (5, (.invokevirtual 160, 3, [2, 12, 2, 0, 933])), (8, (.ifCond .eq 23, 3, [31]))], [(15, (.bipush (-2), 2, [4294967294]))], [(1, (.ireturn, 1, []))]]
set_option maxRecDepth 100000 in
theorem sx_q_X11_cares : sx_t_X11_cares = sx_cT sx_d_X11_cares := rfl
set_option maxRecDepth 100000 in
theorem sx_y_X11_cares : sx_yOk 20 sx_t_X11_cares := sx_yok0 (by decide +kernel) sx_q_X11_cares (by decide +kernel)
def sx_d_X11_chooses : List (List (Nat × sx_I)) := [[(0, (.aload_n 0, 1, [])), (1, (.getfield 20, 3, [11, 2, 0, 671])), (4, (.iload_n 1, 1, [])), (5, (.invokevirtual 160, 3, [2, 12, 2, 0, 933])), (8, (.ifCond .eq 14, 3, [22]))], [(6, (.bipush (-2), 2, [4294967294])), (8, (.ireturn, 1, []))]]
set_option maxRecDepth 100000 in
theorem sx_q_X11_chooses : sx_t_X11_chooses = sx_cT sx_d_X11_chooses := rfl
set_option maxRecDepth 100000 in
theorem sx_y_X11_chooses : sx_yOk 21 sx_t_X11_chooses := sx_yok0 (by decide +kernel) sx_q_X11_chooses (by decide +kernel)
def sx_d_X11_days : List (List (Nat × sx_I)) := [[(0, (.iload_n 1, 1, [])), (1, (.ifCond .lt 24, 3, [25])), (4, (.iload_n 1, 1, [])), (5, (.bipush 60, 2, [60])), (7, (.if_icmp .gt 18, 3, [25])), (10, (.aload_n 0, 1, [])), (11, (.getfield 36, 3, [11, 4, 0, 673])), (14, (.getfield 175, 3, [8, 0, 1, 389]))], [(1, (.iload_n 1, 1, [])), (2, (.iadd, 1, [])), (3, (.sipush 900, 3, [900])), (6, (.if_icmp .le 5, 3, [27])), (9, (.iconst (-1), 1, [4294967295])), (10, (.ireturn, 1, [])), (11, (.iconst 0, 1, [0])), (12, (.istore_n 2, 1, [])), (13, (.iload_n 2, 1, [])), (14, (.iload_n 1, 1, [])), (15, (.if_icmp .ge 18, 3, [49]))], [(2, (.aload_n 0, 1, [])), (3, (.getfield 61, 3, [11, 7, 0, 676])), (6, (.iconst (-1), 1, [4294967295])), (7, (.iconst (-1), 1, [4294967295])), (8, (.invokevirtual 205, 3, [2, 5, 3, 0, 1027])), (11, (.iinc 2 1, 3, [1])), (14, (.goto (-17), 3, [29]))], [(1, (.aload_n 0, 1, [])), (2, (.getfield 43, 3, [11, 5, 0, 674])), (5, (.aload_n 0, 1, [])), (6, (.getfield 36, 3, [11, 4, 0, 673])), (9, (.invokevirtual 209, 3, [2, 130, 2, 0, 1036])), (12, (.aload_n 0, 1, [])), (13, (.getfield 36, 3, [11, 4, 0, 673]))], [(0, (.getfield 175, 3, [8, 0, 1, 389])), (3, (.ireturn, 1, []))]]
set_option maxRecDepth 100000 in
theorem sx_q_X11_days : sx_t_X11_days = sx_cT sx_d_X11_days := rfl
set_option maxRecDepth 100000 in
theorem sx_y_X11_days : sx_yOk 22 sx_t_X11_days := sx_yok0 (by decide +kernel) sx_q_X11_days (by decide +kernel)
def sx_d_X11_decree : List (List (Nat × sx_I)) := [[(0, (.aload_n 0, 1, [])), (1, (.iload_n 1, 1, [])), (2, (.iload_n 2, 1, [])), (3, (.invokevirtual 182, 3, [2, 19, 3, 0, 1000])), (6, (.ifCond .eq 16, 3, [22]))], [(6, (.ldc 186, 2, [3294967296, 1005])), (8, (.ireturn, 1, []))]]
set_option maxRecDepth 100000 in
theorem sx_q_X11_decree : sx_t_X11_decree = sx_cT sx_d_X11_decree := rfl
set_option maxRecDepth 100000 in
theorem sx_y_X11_decree : sx_yOk 23 sx_t_X11_decree := sx_yok0 (by decide +kernel) sx_q_X11_decree (by decide +kernel)
def sx_d_X11_die : List (List (Nat × sx_I)) := [[(0, (.aload_n 0, 1, [])), (1, (.getfield 20, 3, [11, 2, 0, 671])), (4, (.iload_n 1, 1, [])), (5, (.invokevirtual 137, 3, [2, 11, 2, 0, 912])), (8, (.ifCond .ne 5, 3, [13])), (11, (.iconst (-1), 1, [4294967295])), (12, (.ireturn, 1, []))]]
set_option maxRecDepth 100000 in
theorem sx_q_X11_die : sx_t_X11_die = sx_cT sx_d_X11_die := rfl
set_option maxRecDepth 100000 in
theorem sx_y_X11_die : sx_yOk 24 sx_t_X11_die := sx_yok0 (by decide +kernel) sx_q_X11_die (by decide +kernel)
def sx_d_X11_elected : List (List (Nat × sx_I)) := [[(0, (.iload_n 1, 1, [])), (1, (.ifCond .lt 10, 3, [11])), (4, (.iload_n 1, 1, [])), (5, (.sipush 999, 3, [999])), (8, (.if_icmp .le 5, 3, [13])), (11, (.iconst (-1), 1, [4294967295])), (12, (.ireturn, 1, [])), (13, (.aload_n 0, 1, [])), (14, (.getfield 61, 3, [11, 7, 0, 676]))], [(1, (.iload_n 1, 1, [])), (2, (.invokevirtual 321, 3, [2, 7, 2, 0, 1650])), (5, (.ireturn, 1, []))]]
set_option maxRecDepth 100000 in
theorem sx_q_X11_elected : sx_t_X11_elected = sx_cT sx_d_X11_elected := rfl
set_option maxRecDepth 100000 in
theorem sx_y_X11_elected : sx_yOk 25 sx_t_X11_elected := sx_yok0 (by decide +kernel) sx_q_X11_elected (by decide +kernel)
def sx_d_X11_end : List (List (Nat × sx_I)) := [[(0, (.iload_n 1, 1, [])), (1, (.ifCond .lt 11, 3, [12])), (4, (.iload_n 1, 1, [])), (5, (.aload_n 0, 1, [])), (6, (.getfield 13, 3, [11, 1, 0, 670])), (9, (.if_icmp .le 5, 3, [14])), (12, (.iconst (-1), 1, [4294967295])), (13, (.ireturn, 1, [])), (14, (.aload_n 0, 1, [])), (15, (.iload_n 1, 1, []))], [(0, (.putfield 13, 3, [11, 1, 0, 0, 0, 670])), (3, (.iload_n 1, 1, [])), (4, (.ireturn, 1, []))]]
set_option maxRecDepth 100000 in
theorem sx_q_X11_end : sx_t_X11_end = sx_cT sx_d_X11_end := rfl
set_option maxRecDepth 100000 in
theorem sx_y_X11_end : sx_yOk 26 sx_t_X11_end := sx_yok0 (by decide +kernel) sx_q_X11_end (by decide +kernel)
def sx_d_X11_exchange : List (List (Nat × sx_I)) := [[(0, (.aload_n 0, 1, [])), (1, (.getfield 20, 3, [11, 2, 0, 671])), (4, (.iload_n 1, 1, [])), (5, (.invokevirtual 160, 3, [2, 12, 2, 0, 933])), (8, (.ifCond .eq 32, 3, [40]))], [], [(8, (.iconst 0, 1, [0])), (9, (.ireturn, 1, [1]))]]
set_option maxRecDepth 100000 in
theorem sx_q_X11_exchange : sx_t_X11_exchange = sx_cT sx_d_X11_exchange := rfl
set_option maxRecDepth 100000 in
theorem sx_y_X11_exchange : sx_yOk 27 sx_t_X11_exchange := sx_yok0 (by decide +kernel) sx_q_X11_exchange (by decide +kernel)
def sx_d_X11_fast : List (List (Nat × sx_I)) := [[(0, (.aload_n 0, 1, [])), (1, (.getfield 85, 3, [11, 11, 0, 680])), (4, (.invokevirtual 300, 3, [2, 140, 1, 0, 1609])), (7, (.aload_n 0, 1, [])), (8, (.getfield 85, 3, [11, 11, 0, 680])), (11, (.getfield 302, 3, [3, 8, 1, 568])), (14, (.ireturn, 1, []))]]
set_option maxRecDepth 100000 in
theorem sx_q_X11_fast : sx_t_X11_fast = sx_cT sx_d_X11_fast := rfl
set_option maxRecDepth 100000 in
theorem sx_y_X11_fast : sx_yOk 28 sx_t_X11_fast := sx_yok0 (by decide +kernel) sx_q_X11_fast (by decide +kernel)
def sx_d_X11_fault : List (List (Nat × sx_I)) := [[(0, (.iload_n 1, 1, [])), (1, (.lookupswitch 43 #[(0, 27), (1, 35)], 27, [44, 2147483648, 28, 2147483649, 36]))], [(12, (.aload_n 0, 1, [])), (13, (.getfield 29, 3, [11, 3, 0, 672]))], [(0, (.getfield 131, 3, [4, 7, 1, 333])), (3, (.ireturn, 1, [])), (4, (.aload_n 0, 1, [])), (5, (.getfield 29, 3, [11, 3, 0, 672])), (8, (.getfield 134, 3, [4, 8, 1, 335])), (11, (.ireturn, 1, [])), (12, (.iconst (-1), 1, [4294967295])), (13, (.ireturn, 1, []))]]
set_option maxRecDepth 100000 in
theorem sx_q_X11_fault : sx_t_X11_fault = sx_cT sx_d_X11_fault := rfl
set_option maxRecDepth 100000 in
theorem sx_y_X11_fault : sx_yOk 29 sx_t_X11_fault := sx_yok0 (by decide +kernel) sx_q_X11_fault (by decide +kernel)
def sx_d_X11_feed : List (List (Nat × sx_I)) := [[(0, (.aload_n 0, 1, [])), (1, (.getfield 13, 3, [11, 1, 0, 670])), (4, (.bipush 20, 2, [20])), (6, (.iadd, 1, [])), (7, (.sipush 1600, 3, [1600])), (10, (.if_icmp .le 5, 3, [15])), (15, (.aload_n 0, 1, []))], [(0, (.iload_n 1, 1, [])), (1, (.invokevirtual 105, 3, [2, 48, 2, 0, 713])), (4, (.aload_n 0, 1, [])), (5, (.iload_n 2, 1, [])), (6, (.invokevirtual 105, 3, [2, 48, 2, 0, 713])), (9, (.aload_n 0, 1, [])), (10, (.iload_n 3, 1, [])), (11, (.invokevirtual 105, 3, [2, 48, 2, 0, 713])), (14, (.aload_n 0, 1, [])), (15, (.iload 4, 2, []))], [(1, (.invokevirtual 105, 3, [2, 48, 2, 0, 713])), (4, (.aload_n 0, 1, [])), (5, (.iload 5, 2, [])), (7, (.invokevirtual 105, 3, [2, 48, 2, 0, 713])), (10, (.aload_n 0, 1, [])), (11, (.getfield 13, 3, [11, 1, 0, 670])), (14, (.ireturn, 1, []))]]
set_option maxRecDepth 100000 in
theorem sx_q_X11_feed : sx_t_X11_feed = sx_cT sx_d_X11_feed := rfl
set_option maxRecDepth 100000 in
theorem sx_y_X11_feed : sx_yOk 30 sx_t_X11_feed := sx_yok0 (by decide +kernel) sx_q_X11_feed (by decide +kernel)
def sx_d_X11_guilt : List (List (Nat × sx_I)) := [[(0, (.aload_n 0, 1, [])), (1, (.getfield 20, 3, [11, 2, 0, 671])), (4, (.iload_n 1, 1, [])), (5, (.invokevirtual 193, 3, [2, 10, 2, 0, 1004])), (8, (.ifCond .eq 23, 3, [31]))], [(15, (.iconst (-1), 1, [4294967295]))], [(0, (.ireturn, 1, []))]]
set_option maxRecDepth 100000 in
theorem sx_q_X11_guilt : sx_t_X11_guilt = sx_cT sx_d_X11_guilt := rfl
set_option maxRecDepth 100000 in
theorem sx_y_X11_guilt : sx_yOk 31 sx_t_X11_guilt := sx_yok0 (by decide +kernel) sx_q_X11_guilt (by decide +kernel)
def sx_d_X11_half : List (List (Nat × sx_I)) := [[(0, (.aload_n 0, 1, [])), (1, (.getfield 20, 3, [11, 2, 0, 671])), (4, (.iload_n 1, 1, [])), (5, (.invokevirtual 137, 3, [2, 11, 2, 0, 912])), (8, (.ifCond .ne 5, 3, [13])), (11, (.iconst (-1), 1, [4294967295])), (12, (.ireturn, 1, []))]]
set_option maxRecDepth 100000 in
theorem sx_q_X11_half : sx_t_X11_half = sx_cT sx_d_X11_half := rfl
set_option maxRecDepth 100000 in
theorem sx_y_X11_half : sx_yOk 32 sx_t_X11_half := sx_yok0 (by decide +kernel) sx_q_X11_half (by decide +kernel)
def sx_d_X11_hush : List (List (Nat × sx_I)) := [[(0, (.aload_n 0, 1, [])), (1, (.getfield 70, 3, [11, 8, 0, 677])), (4, (.getfield 121, 3, [1, 7, 1, 522])), (7, (.getfield 284, 3, [5, 1, 1, 465])), (10, (.istore_n 1, 1, [])), (11, (.aload_n 0, 1, [])), (12, (.getfield 70, 3, [11, 8, 0, 677])), (15, (.getfield 121, 3, [1, 7, 1, 522]))], [(2, (.invokevirtual 124, 3, [2, 146, 1, 0, 895])), (5, (.iload_n 1, 1, [])), (6, (.ireturn, 1, []))]]
set_option maxRecDepth 100000 in
theorem sx_q_X11_hush : sx_t_X11_hush = sx_cT sx_d_X11_hush := rfl
set_option maxRecDepth 100000 in
theorem sx_y_X11_hush : sx_yOk 33 sx_t_X11_hush := sx_yok0 (by decide +kernel) sx_q_X11_hush (by decide +kernel)
def sx_d_X11_image : List (List (Nat × sx_I)) := [[(0, (.iload_n 1, 1, [])), (1, (.ifCond .lt 8, 3, [9])), (4, (.iload_n 1, 1, [])), (5, (.iconst 3, 1, [3])), (6, (.if_icmp .lt 5, 3, [11])), (9, (.iconst (-1), 1, [4294967295])), (10, (.ireturn, 1, [])), (11, (.aload_n 0, 1, [])), (12, (.getfield 43, 3, [11, 5, 0, 674])), (15, (.iload_n 1, 1, []))], [(0, (.aload_n 0, 1, [])), (1, (.getfield 36, 3, [11, 4, 0, 673])), (4, (.invokevirtual 369, 3, [2, 128, 3, 0, 1775])), (7, (.aload_n 0, 1, [])), (8, (.getfield 36, 3, [11, 4, 0, 673])), (11, (.getfield 175, 3, [8, 0, 1, 389])), (14, (.ireturn, 1, []))]]
set_option maxRecDepth 100000 in
theorem sx_q_X11_image : sx_t_X11_image = sx_cT sx_d_X11_image := rfl
set_option maxRecDepth 100000 in
theorem sx_y_X11_image : sx_yOk 34 sx_t_X11_image := sx_yok0 (by decide +kernel) sx_q_X11_image (by decide +kernel)
def sx_d_X11_in : List (List (Nat × sx_I)) := [[(0, (.aload_n 0, 1, [])), (1, (.getfield 20, 3, [11, 2, 0, 671])), (4, (.iload_n 1, 1, [])), (5, (.invokevirtual 160, 3, [2, 12, 2, 0, 933])), (8, (.ifCond .eq 14, 3, [22]))], [(6, (.bipush (-2), 2, [4294967294])), (8, (.ireturn, 1, []))]]
set_option maxRecDepth 100000 in
theorem sx_q_X11_in : sx_t_X11_in = sx_cT sx_d_X11_in := rfl
set_option maxRecDepth 100000 in
theorem sx_y_X11_in : sx_yOk 35 sx_t_X11_in := sx_yok0 (by decide +kernel) sx_q_X11_in (by decide +kernel)
def sx_d_X11_init : List (List (Nat × sx_I)) := [[(0, (.aload_n 0, 1, [])), (1, (.invokespecial 3, 3, [0, 193])), (4, (.aload_n 0, 1, [])), (5, (.sipush 1600, 3, [1600])), (8, (.newarray .int, 2, [0])), (10, (.putfield 9, 3, [11, 0, 1, 0, 1, 669])), (13, (.aload_n 0, 1, [])), (14, (.iconst 0, 1, [0])), (15, (.putfield 13, 3, [11, 1, 0, 0, 0, 670]))], [(2, (.aload_n 0, 1, [])), (3, (.new 17, 3, [10, 196])), (6, (.dup, 1, [])), (7, (.invokespecial 19, 3, [2, 13, 1, 0, 198])), (10, (.putfield 20, 3, [11, 2, 1, 0, 1, 671])), (13, (.aload_n 0, 1, [])), (14, (.new 24, 3, [4, 316]))], [(1, (.dup, 1, [])), (2, (.aload_n 0, 1, [])), (3, (.getfield 9, 3, [11, 0, 0, 669])), (6, (.invokespecial 26, 3, [2, 143, 2, 0, 318])), (9, (.putfield 29, 3, [11, 3, 1, 0, 1, 672])), (12, (.aload_n 0, 1, [])), (13, (.new 33, 3, [8, 380]))], [(0, (.dup, 1, [])), (1, (.invokespecial 35, 3, [2, 157, 1, 1, 382])), (4, (.putfield 36, 3, [11, 4, 1, 0, 1, 673])), (7, (.aload_n 0, 1, [])), (8, (.new 40, 3, [2, 423])), (11, (.dup, 1, [])), (12, (.invokespecial 42, 3, [2, 129, 1, 1, 425])), (15, (.putfield 43, 3, [11, 5, 1, 0, 1, 674]))], [(2, (.aload_n 0, 1, [])), (3, (.new 47, 3, [5, 453])), (6, (.dup, 1, [])), (7, (.bipush 20, 2, [20])), (9, (.invokespecial 49, 3, [2, 147, 2, 0, 455])), (12, (.putfield 52, 3, [11, 6, 1, 0, 1, 675])), (15, (.aload_n 0, 1, []))], [(0, (.new 56, 3, [0, 471])), (3, (.dup, 1, [])), (4, (.aload_n 0, 1, [])), (5, (.getfield 20, 3, [11, 2, 0, 671])), (8, (.aload_n 0, 1, [])), (9, (.getfield 36, 3, [11, 4, 0, 673])), (12, (.invokespecial 58, 3, [2, 3, 3, 0, 473])), (15, (.putfield 61, 3, [11, 7, 1, 0, 1, 676]))], [(2, (.aload_n 0, 1, [])), (3, (.new 65, 3, [1, 502])), (6, (.dup, 1, [])), (7, (.aload_n 0, 1, [])), (8, (.getfield 20, 3, [11, 2, 0, 671])), (11, (.aload_n 0, 1, [])), (12, (.getfield 36, 3, [11, 4, 0, 673])), (15, (.aload_n 0, 1, []))], [(0, (.getfield 61, 3, [11, 7, 0, 676])), (3, (.invokespecial 67, 3, [2, 126, 4, 0, 504])), (6, (.putfield 70, 3, [11, 8, 1, 0, 1, 677])), (9, (.aload_n 0, 1, [])), (10, (.aconst_null, 1, [])), (11, (.putfield 74, 3, [11, 9, 1, 0, 0, 678])), (14, (.aload_n 0, 1, [])), (15, (.aconst_null, 1, []))], [(0, (.putfield 78, 3, [11, 10, 1, 0, 0, 679])), (3, (.aload_n 0, 1, [])), (4, (.new 82, 3, [3, 549])), (7, (.dup, 1, [])), (8, (.aload_n 0, 1, [])), (9, (.getfield 20, 3, [11, 2, 0, 671])), (12, (.aload_n 0, 1, [])), (13, (.getfield 36, 3, [11, 4, 0, 673]))], [(0, (.invokespecial 84, 3, [2, 137, 3, 0, 551])), (3, (.putfield 85, 3, [11, 11, 1, 0, 1, 680])), (6, (.aload_n 0, 1, [])), (7, (.new 89, 3, [7, 588])), (10, (.dup, 1, [])), (11, (.aload_n 0, 1, [])), (12, (.getfield 20, 3, [11, 2, 0, 671])), (15, (.invokespecial 91, 3, [2, 150, 2, 0, 590]))], [(2, (.putfield 94, 3, [11, 12, 1, 0, 1, 681])), (5, (.aload_n 0, 1, [])), (6, (.getfield 36, 3, [11, 4, 0, 673])), (9, (.aload_n 0, 1, [])), (10, (.getfield 20, 3, [11, 2, 0, 671])), (13, (.invokevirtual 98, 3, [2, 155, 2, 0, 647]))], [(0, (.aload_n 0, 1, [])), (1, (.getfield 43, 3, [11, 5, 0, 674])), (4, (.aload_n 0, 1, [])), (5, (.getfield 36, 3, [11, 4, 0, 673])), (8, (.invokevirtual 101, 3, [2, 132, 2, 0, 656])), (11, (.return_, 1, []))]]
set_option maxRecDepth 100000 in
theorem sx_q_X11_init : sx_t_X11_init = sx_cT sx_d_X11_init := rfl
set_option maxRecDepth 100000 in
theorem sx_y_X11_init : sx_yOk 36 sx_t_X11_init := sx_yok1 (by decide +kernel) (by decide +kernel) sx_q_X11_init (by decide +kernel)
def sx_d_X11_joy : List (List (Nat × sx_I)) := [[(0, (.aload_n 0, 1, [])), (1, (.iload_n 1, 1, [])), (2, (.iload_n 2, 1, [])), (3, (.invokevirtual 182, 3, [2, 19, 3, 0, 1000])), (6, (.ifCond .ne 6, 3, [12])), (9, (.ldc 186, 2, [3294967296, 1005])), (11, (.ireturn, 1, []))]]
set_option maxRecDepth 100000 in
theorem sx_q_X11_joy : sx_t_X11_joy = sx_cT sx_d_X11_joy := rfl
set_option maxRecDepth 100000 in
theorem sx_y_X11_joy : sx_yOk 37 sx_t_X11_joy := sx_yok0 (by decide +kernel) sx_q_X11_joy (by decide +kernel)
end
section
/-! data of methods, 2 -/
def sx_d_X11_keeps : List (List (Nat × sx_I)) := [[(0, (.aload_n 0, 1, [])), (1, (.getfield 20, 3, [11, 2, 0, 671])), (4, (.iload_n 1, 1, [])), (5, (.iload_n 2, 1, [])), (6, (.invokevirtual 235, 3, [2, 14, 3, 0, 1093])), (9, (.ifCond .eq 23, 3, [32]))], [], [(0, (.ldc 186, 2, [3294967296, 1005])), (2, (.ireturn, 1, []))]]
set_option maxRecDepth 100000 in
theorem sx_q_X11_keeps : sx_t_X11_keeps = sx_cT sx_d_X11_keeps := rfl
set_option maxRecDepth 100000 in
theorem sx_y_X11_keeps : sx_yOk 38 sx_t_X11_keeps := sx_yok0 (by decide +kernel) sx_q_X11_keeps (by decide +kernel)
def sx_d_X11_later : List (List (Nat × sx_I)) := [[(0, (.iload_n 1, 1, [])), (1, (.ifCond .lt 25, 3, [26])), (4, (.iload_n 1, 1, [])), (5, (.sipush 1000, 3, [1000])), (8, (.if_icmp .gt 18, 3, [26])), (11, (.aload_n 0, 1, [])), (12, (.getfield 94, 3, [11, 12, 0, 681])), (15, (.getfield 341, 3, [7, 7, 1, 603]))], [(2, (.iload_n 1, 1, [])), (3, (.iadd, 1, [])), (4, (.ldc_w 344, 3, [100000, 1711])), (7, (.if_icmp .le 5, 3, [28])), (10, (.iconst (-1), 1, [4294967295])), (11, (.ireturn, 1, [])), (12, (.aload_n 0, 1, [])), (13, (.getfield 94, 3, [11, 12, 0, 681]))], [(0, (.dup, 1, [])), (1, (.getfield 341, 3, [7, 7, 1, 603])), (4, (.iload_n 1, 1, [])), (5, (.iadd, 1, [])), (6, (.putfield 341, 3, [7, 7, 0, 1, 0, 603])), (9, (.aload_n 0, 1, [])), (10, (.getfield 94, 3, [11, 12, 0, 681])), (13, (.getfield 341, 3, [7, 7, 1, 603]))], [(0, (.ireturn, 1, []))]]
set_option maxRecDepth 100000 in
theorem sx_q_X11_later : sx_t_X11_later = sx_cT sx_d_X11_later := rfl
set_option maxRecDepth 100000 in
theorem sx_y_X11_later : sx_yOk 39 sx_t_X11_later := sx_yok0 (by decide +kernel) sx_q_X11_later (by decide +kernel)
def sx_d_X11_lies : List (List (Nat × sx_I)) := [[(0, (.aload_n 0, 1, [])), (1, (.getfield 52, 3, [11, 6, 0, 675])), (4, (.iload_n 1, 1, [])), (5, (.invokevirtual 331, 3, [2, 145, 2, 0, 1686])), (8, (.ireturn, 1, []))]]
set_option maxRecDepth 100000 in
theorem sx_q_X11_lies : sx_t_X11_lies = sx_cT sx_d_X11_lies := rfl
set_option maxRecDepth 100000 in
theorem sx_y_X11_lies : sx_yOk 40 sx_t_X11_lies := sx_yok0 (by decide +kernel) sx_q_X11_lies (by decide +kernel)
def sx_d_X11_likes : List (List (Nat × sx_I)) := [[(0, (.aload_n 0, 1, [])), (1, (.getfield 20, 3, [11, 2, 0, 671])), (4, (.iload_n 1, 1, [])), (5, (.invokevirtual 137, 3, [2, 11, 2, 0, 912])), (8, (.ifCond .eq 19, 3, [27]))], [(11, (.iconst (-1), 1, [4294967295])), (12, (.ireturn, 1, []))]]
set_option maxRecDepth 100000 in
theorem sx_q_X11_likes : sx_t_X11_likes = sx_cT sx_d_X11_likes := rfl
set_option maxRecDepth 100000 in
theorem sx_y_X11_likes : sx_yOk 41 sx_t_X11_likes := sx_yok0 (by decide +kernel) sx_q_X11_likes (by decide +kernel)
def sx_d_X11_next : List (List (Nat × sx_I)) := [[(0, (.aload_n 0, 1, [])), (1, (.getfield 20, 3, [11, 2, 0, 671])), (4, (.iload_n 1, 1, [])), (5, (.invokevirtual 193, 3, [2, 10, 2, 0, 1004])), (8, (.ifCond .eq 18, 3, [26]))], [(10, (.iconst (-1), 1, [4294967295])), (11, (.ireturn, 1, []))]]
set_option maxRecDepth 100000 in
theorem sx_q_X11_next : sx_t_X11_next = sx_cT sx_d_X11_next := rfl
set_option maxRecDepth 100000 in
theorem sx_y_X11_next : sx_yOk 42 sx_t_X11_next := sx_yok0 (by decide +kernel) sx_q_X11_next (by decide +kernel)
def sx_d_X11_pairing : List (List (Nat × sx_I)) := [[(0, (.aload_n 0, 1, [])), (1, (.getfield 85, 3, [11, 11, 0, 680])), (4, (.invokevirtual 300, 3, [2, 140, 1, 0, 1609])), (7, (.aload_n 0, 1, [])), (8, (.getfield 52, 3, [11, 6, 0, 675])), (11, (.invokevirtual 124, 3, [2, 146, 1, 0, 895])), (14, (.iload_n 1, 1, [])), (15, (.ifCond .eq 42, 3, [57]))], [(2, (.aload_n 0, 1, [])), (3, (.getfield 85, 3, [11, 11, 0, 680])), (6, (.getfield 302, 3, [3, 8, 1, 568])), (9, (.ifCond .ne 6, 3, [31])), (15, (.aload_n 0, 1, []))], [(0, (.getfield 85, 3, [11, 11, 0, 680])), (3, (.aload_n 0, 1, [])), (4, (.getfield 85, 3, [11, 11, 0, 680])), (7, (.getfield 305, 3, [3, 4, 1, 561])), (10, (.aload_n 0, 1, [])), (11, (.getfield 52, 3, [11, 6, 0, 675])), (14, (.invokevirtual 308, 3, [2, 141, 3, 0, 1637]))], [(1, (.aload_n 0, 1, [])), (2, (.getfield 85, 3, [11, 11, 0, 680])), (5, (.getfield 312, 3, [3, 7, 1, 566])), (8, (.ireturn, 1, [])), (9, (.aload_n 0, 1, [])), (10, (.getfield 85, 3, [11, 11, 0, 680])), (13, (.aload_n 0, 1, [])), (14, (.getfield 85, 3, [11, 11, 0, 680]))], [(1, (.getfield 315, 3, [3, 3, 1, 559])), (4, (.aload_n 0, 1, [])), (5, (.getfield 52, 3, [11, 6, 0, 675])), (8, (.invokevirtual 308, 3, [2, 141, 3, 0, 1637])), (11, (.aload_n 0, 1, [])), (12, (.getfield 85, 3, [11, 11, 0, 680])), (15, (.getfield 318, 3, [3, 6, 1, 564]))], [(2, (.ireturn, 1, []))]]
set_option maxRecDepth 100000 in
theorem sx_q_X11_pairing : sx_t_X11_pairing = sx_cT sx_d_X11_pairing := rfl
set_option maxRecDepth 100000 in
theorem sx_y_X11_pairing : sx_yOk 43 sx_t_X11_pairing := sx_yok0 (by decide +kernel) sx_q_X11_pairing (by decide +kernel)
def sx_d_X11_person : List (List (Nat × sx_I)) := [[(0, (.aload_n 0, 1, [])), (1, (.getfield 20, 3, [11, 2, 0, 671])), (4, (.iload_n 1, 1, [])), (5, (.invokevirtual 160, 3, [2, 12, 2, 0, 933])), (8, (.ifCond .ne 5, 3, [13])), (11, (.iconst (-1), 1, [4294967295])), (12, (.ireturn, 1, []))]]
set_option maxRecDepth 100000 in
theorem sx_q_X11_person : sx_t_X11_person = sx_cT sx_d_X11_person := rfl
set_option maxRecDepth 100000 in
theorem sx_y_X11_person : sx_yOk 44 sx_t_X11_person := sx_yok0 (by decide +kernel) sx_q_X11_person (by decide +kernel)
def sx_d_X11_played : List (List (Nat × sx_I)) := [[(0, (.aload_n 0, 1, [])), (1, (.getfield 52, 3, [11, 6, 0, 675])), (4, (.invokevirtual 124, 3, [2, 146, 1, 0, 895])), (7, (.aload_n 0, 1, [])), (8, (.getfield 20, 3, [11, 2, 0, 671])), (11, (.iload_n 1, 1, [])), (12, (.iload_n 2, 1, [])), (13, (.invokevirtual 235, 3, [2, 14, 3, 0, 1093]))], [(0, (.ifCond .eq 10, 3, [26])), (10, (.ldc 186, 2, [3294967296, 1005])), (12, (.ireturn, 1, []))]]
set_option maxRecDepth 100000 in
theorem sx_q_X11_played : sx_t_X11_played = sx_cT sx_d_X11_played := rfl
set_option maxRecDepth 100000 in
theorem sx_y_X11_played : sx_yOk 45 sx_t_X11_played := sx_yok0 (by decide +kernel) sx_q_X11_played (by decide +kernel)
def sx_d_X11_popular : List (List (Nat × sx_I)) := [[(0, (.aload_n 0, 1, [])), (1, (.getfield 61, 3, [11, 7, 0, 676])), (4, (.invokevirtual 324, 3, [2, 4, 1, 0, 1668])), (7, (.ireturn, 1, []))]]
set_option maxRecDepth 100000 in
theorem sx_q_X11_popular : sx_t_X11_popular = sx_cT sx_d_X11_popular := rfl
set_option maxRecDepth 100000 in
theorem sx_y_X11_popular : sx_yOk 46 sx_t_X11_popular := sx_yok0 (by decide +kernel) sx_q_X11_popular (by decide +kernel)
def sx_d_X11_prank : List (List (Nat × sx_I)) := [[(0, (.aload_n 0, 1, [])), (1, (.getfield 20, 3, [11, 2, 0, 671])), (4, (.getfield 219, 3, [10, 1, 1, 217])), (7, (.iconst 1, 1, [1])), (8, (.if_icmp .ge 5, 3, [13])), (11, (.iconst (-1), 1, [4294967295])), (12, (.ireturn, 1, []))]]
set_option maxRecDepth 100000 in
theorem sx_q_X11_prank : sx_t_X11_prank = sx_cT sx_d_X11_prank := rfl
set_option maxRecDepth 100000 in
theorem sx_y_X11_prank : sx_yOk 47 sx_t_X11_prank := sx_yok0 (by decide +kernel) sx_q_X11_prank (by decide +kernel)
def sx_d_X11_put : List (List (Nat × sx_I)) := [[(0, (.bipush 24, 2, [24])), (2, (.istore_n 2, 1, [])), (3, (.iload_n 2, 1, [])), (4, (.ifCond .lt 52, 3, [56])), (7, (.aload_n 0, 1, [])), (8, (.getfield 13, 3, [11, 1, 0, 670])), (11, (.ifCond .lt 39, 3, [50])), (14, (.aload_n 0, 1, [])), (15, (.getfield 13, 3, [11, 1, 0, 670]))], [(2, (.sipush 1600, 3, [1600])), (5, (.if_icmp .ge 29, 3, [50])), (8, (.aload_n 0, 1, [])), (9, (.getfield 9, 3, [11, 0, 0, 669])), (12, (.aload_n 0, 1, [])), (13, (.getfield 13, 3, [11, 1, 0, 670]))], [(0, (.iload_n 1, 1, [])), (1, (.iload_n 2, 1, [])), (2, (.iushr, 1, [])), (3, (.sipush 255, 3, [255])), (6, (.iand, 1, [])), (7, (.iastore, 1, [])), (8, (.aload_n 0, 1, [])), (9, (.dup, 1, [])), (10, (.getfield 13, 3, [11, 1, 0, 670])), (13, (.iconst 1, 1, [1])), (14, (.iadd, 1, [])), (15, (.putfield 13, 3, [11, 1, 0, 0, 0, 670]))], [(2, (.iinc 2 (-8), 3, [4294967288])), (5, (.goto (-50), 3, [3])), (8, (.return_, 1, []))]]
set_option maxRecDepth 100000 in
theorem sx_q_X11_put : sx_t_X11_put = sx_cT sx_d_X11_put := rfl
set_option maxRecDepth 100000 in
theorem sx_y_X11_put : sx_yOk 48 sx_t_X11_put := sx_yok0 (by decide +kernel) sx_q_X11_put (by decide +kernel)
def sx_d_X11_record : List (List (Nat × sx_I)) := [[(0, (.aload_n 0, 1, [])), (1, (.getfield 20, 3, [11, 2, 0, 671])), (4, (.iload_n 1, 1, [])), (5, (.invokevirtual 137, 3, [2, 11, 2, 0, 912])), (8, (.ifCond .ne 6, 3, [14])), (11, (.ldc 186, 2, [3294967296, 1005])), (13, (.ireturn, 1, []))]]
set_option maxRecDepth 100000 in
theorem sx_q_X11_record : sx_t_X11_record = sx_cT sx_d_X11_record := rfl
set_option maxRecDepth 100000 in
theorem sx_y_X11_record : sx_yOk 49 sx_t_X11_record := sx_yok0 (by decide +kernel) sx_q_X11_record (by decide +kernel)
def sx_d_X11_redo : List (List (Nat × sx_I)) := [[(0, (.aload_n 0, 1, [])), (1, (.getfield 43, 3, [11, 5, 0, 674])), (4, (.aload_n 0, 1, [])), (5, (.getfield 36, 3, [11, 4, 0, 673])), (8, (.invokevirtual 232, 3, [2, 134, 2, 0, 1085])), (11, (.ireturn, 1, [1]))]]
set_option maxRecDepth 100000 in
theorem sx_q_X11_redo : sx_t_X11_redo = sx_cT sx_d_X11_redo := rfl
set_option maxRecDepth 100000 in
theorem sx_y_X11_redo : sx_yOk 50 sx_t_X11_redo := sx_yok0 (by decide +kernel) sx_q_X11_redo (by decide +kernel)
def sx_d_X11_register : List (List (Nat × sx_I)) := [[(0, (.aload_n 0, 1, [])), (1, (.getfield 29, 3, [11, 3, 0, 672])), (4, (.aload_n 0, 1, [])), (5, (.getfield 13, 3, [11, 1, 0, 670])), (8, (.invokevirtual 108, 3, [2, 144, 2, 0, 725])), (11, (.ifCond .ne 5, 3, [16]))], [(0, (.aload_n 0, 1, [])), (1, (.getfield 20, 3, [11, 2, 0, 671])), (4, (.aload_n 0, 1, [])), (5, (.getfield 29, 3, [11, 3, 0, 672])), (8, (.getfield 112, 3, [4, 0, 1, 325])), (11, (.invokevirtual 115, 3, [2, 8, 2, 0, 886])), (14, (.aload_n 0, 1, [])), (15, (.iconst 0, 1, [0]))], [(0, (.putfield 13, 3, [11, 1, 0, 0, 0, 670])), (3, (.aload_n 0, 1, [])), (4, (.getfield 36, 3, [11, 4, 0, 673])), (7, (.aload_n 0, 1, [])), (8, (.getfield 20, 3, [11, 2, 0, 671])), (11, (.invokevirtual 98, 3, [2, 155, 2, 0, 647])), (14, (.aload_n 0, 1, [])), (15, (.getfield 43, 3, [11, 5, 0, 674]))], [(2, (.aload_n 0, 1, [])), (3, (.getfield 36, 3, [11, 4, 0, 673])), (6, (.invokevirtual 101, 3, [2, 132, 2, 0, 656])), (9, (.aload_n 0, 1, [])), (10, (.getfield 43, 3, [11, 5, 0, 674])), (13, (.invokevirtual 118, 3, [2, 127, 1, 0, 891]))], [(0, (.aload_n 0, 1, [])), (1, (.getfield 70, 3, [11, 8, 0, 677])), (4, (.getfield 121, 3, [1, 7, 1, 522])), (7, (.invokevirtual 124, 3, [2, 146, 1, 0, 895])), (10, (.aload_n 0, 1, [])), (11, (.getfield 94, 3, [11, 12, 0, 681])), (14, (.invokevirtual 127, 3, [2, 148, 1, 0, 899]))], [(1, (.aload_n 0, 1, [])), (2, (.getfield 52, 3, [11, 6, 0, 675])), (5, (.invokevirtual 124, 3, [2, 146, 1, 0, 895])), (8, (.aload_n 0, 1, [])), (9, (.getfield 20, 3, [11, 2, 0, 671])), (12, (.getfield 128, 3, [10, 0, 1, 212])), (15, (.ireturn, 1, []))]]
set_option maxRecDepth 100000 in
theorem sx_q_X11_register : sx_t_X11_register = sx_cT sx_d_X11_register := rfl
set_option maxRecDepth 100000 in
theorem sx_y_X11_register : sx_yOk 51 sx_t_X11_register := sx_yok0 (by decide +kernel) sx_q_X11_register (by decide +kernel)
def sx_d_X11_shown : List (List (Nat × sx_I)) := [[(0, (.iload_n 2, 1, [])), (1, (.ifCond .lt 9, 3, [10])), (4, (.iload_n 2, 1, [])), (5, (.bipush 9, 2, [9])), (7, (.if_icmp .le 5, 3, [12])), (10, (.iconst (-1), 1, [4294967295])), (11, (.ireturn, 1, [])), (12, (.aload_n 0, 1, [])), (13, (.getfield 94, 3, [11, 12, 0, 681]))], [(0, (.iload_n 1, 1, [])), (1, (.iconst (-1), 1, [4294967295])), (2, (.iload_n 2, 1, [])), (3, (.invokevirtual 334, 3, [2, 154, 4, 0, 1691])), (6, (.ireturn, 1, []))]]
set_option maxRecDepth 100000 in
theorem sx_q_X11_shown : sx_t_X11_shown = sx_cT sx_d_X11_shown := rfl
set_option maxRecDepth 100000 in
theorem sx_y_X11_shown : sx_yOk 52 sx_t_X11_shown := sx_yok0 (by decide +kernel) sx_q_X11_shown (by decide +kernel)
def sx_d_X11_sight : List (List (Nat × sx_I)) := [[(0, (.aload_n 0, 1, [])), (1, (.getfield 20, 3, [11, 2, 0, 671])), (4, (.iload_n 2, 1, [])), (5, (.invokevirtual 137, 3, [2, 11, 2, 0, 912])), (8, (.ifCond .eq 16, 3, [24]))], [(8, (.iconst (-1), 1, [4294967295])), (9, (.ireturn, 1, []))]]
set_option maxRecDepth 100000 in
theorem sx_q_X11_sight : sx_t_X11_sight = sx_cT sx_d_X11_sight := rfl
set_option maxRecDepth 100000 in
theorem sx_y_X11_sight : sx_yOk 53 sx_t_X11_sight := sx_yok0 (by decide +kernel) sx_q_X11_sight (by decide +kernel)
def sx_d_X11_stolen : List (List (Nat × sx_I)) := [[(0, (.iload_n 1, 1, [])), (1, (.ifCond .lt 9, 3, [10])), (4, (.iload_n 1, 1, [])), (5, (.bipush 99, 2, [99])), (7, (.if_icmp .le 5, 3, [12])), (10, (.iconst (-1), 1, [4294967295])), (11, (.ireturn, 1, [])), (12, (.aload_n 0, 1, [])), (13, (.getfield 61, 3, [11, 7, 0, 676]))], [(0, (.iload_n 1, 1, [])), (1, (.invokevirtual 328, 3, [2, 2, 2, 0, 1676])), (4, (.ireturn, 1, []))]]
set_option maxRecDepth 100000 in
theorem sx_q_X11_stolen : sx_t_X11_stolen = sx_cT sx_d_X11_stolen := rfl
set_option maxRecDepth 100000 in
theorem sx_y_X11_stolen : sx_yOk 54 sx_t_X11_stolen := sx_yok0 (by decide +kernel) sx_q_X11_stolen (by decide +kernel)
def sx_d_X11_stranger : List (List (Nat × sx_I)) := [[(0, (.iload_n 1, 1, [])), (1, (.ifCond .lt 8, 3, [9])), (4, (.iload_n 1, 1, [])), (5, (.iconst 1, 1, [1])), (6, (.if_icmp .le 5, 3, [11])), (9, (.iconst (-1), 1, [4294967295])), (10, (.ireturn, 1, [])), (11, (.aload_n 0, 1, [])), (12, (.getfield 94, 3, [11, 12, 0, 681])), (15, (.iload_n 2, 1, []))], [(0, (.invokevirtual 363, 3, [2, 151, 2, 0, 1752])), (3, (.istore_n 3, 1, [])), (4, (.iload_n 1, 1, [])), (5, (.iconst 1, 1, [1])), (6, (.if_icmp .eq 8, 3, [30])), (9, (.iload_n 3, 1, [])), (10, (.iconst (-1), 1, [4294967295])), (11, (.if_icmp .ne 7, 3, [34])), (14, (.iload_n 3, 1, [])), (15, (.goto 11, 3, [42]))], [(2, (.aload_n 0, 1, [])), (3, (.getfield 94, 3, [11, 12, 0, 681])), (6, (.iload_n 2, 1, [])), (7, (.invokevirtual 366, 3, [2, 152, 2, 0, 1760])), (10, (.ireturn, 1, []))]]
set_option maxRecDepth 100000 in
theorem sx_q_X11_stranger : sx_t_X11_stranger = sx_cT sx_d_X11_stranger := rfl
set_option maxRecDepth 100000 in
theorem sx_y_X11_stranger : sx_yOk 55 sx_t_X11_stranger := sx_yok0 (by decide +kernel) sx_q_X11_stranger (by decide +kernel)
def sx_d_X11_together : List (List (Nat × sx_I)) := [[(0, (.aload_n 0, 1, [])), (1, (.getfield 52, 3, [11, 6, 0, 675])), (4, (.invokevirtual 124, 3, [2, 146, 1, 0, 895])), (7, (.aload_n 0, 1, [])), (8, (.getfield 20, 3, [11, 2, 0, 671])), (11, (.iload_n 1, 1, [])), (12, (.invokevirtual 160, 3, [2, 12, 2, 0, 933])), (15, (.ifCond .eq 10, 3, [25]))], [(9, (.ldc 186, 2, [3294967296, 1005])), (11, (.ireturn, 1, []))]]
set_option maxRecDepth 100000 in
theorem sx_q_X11_together : sx_t_X11_together = sx_cT sx_d_X11_together := rfl
set_option maxRecDepth 100000 in
theorem sx_y_X11_together : sx_yOk 56 sx_t_X11_together := sx_yok0 (by decide +kernel) sx_q_X11_together (by decide +kernel)
def sx_d_X11_undo : List (List (Nat × sx_I)) := [[(0, (.aload_n 0, 1, [])), (1, (.getfield 43, 3, [11, 5, 0, 674])), (4, (.aload_n 0, 1, [])), (5, (.getfield 36, 3, [11, 4, 0, 673])), (8, (.invokevirtual 228, 3, [2, 133, 2, 0, 1073])), (11, (.ireturn, 1, [1]))]]
set_option maxRecDepth 100000 in
theorem sx_q_X11_undo : sx_t_X11_undo = sx_cT sx_d_X11_undo := rfl
set_option maxRecDepth 100000 in
theorem sx_y_X11_undo : sx_yOk 57 sx_t_X11_undo := sx_yok0 (by decide +kernel) sx_q_X11_undo (by decide +kernel)
def sx_d_X11_untell : List (List (Nat × sx_I)) := [[(0, (.aload_n 0, 1, [])), (1, (.getfield 94, 3, [11, 12, 0, 681])), (4, (.iload_n 1, 1, [])), (5, (.invokevirtual 338, 3, [2, 153, 2, 0, 1703])), (8, (.ireturn, 1, [1]))]]
set_option maxRecDepth 100000 in
theorem sx_q_X11_untell : sx_t_X11_untell = sx_cT sx_d_X11_untell := rfl
set_option maxRecDepth 100000 in
theorem sx_y_X11_untell : sx_yOk 58 sx_t_X11_untell := sx_yok0 (by decide +kernel) sx_q_X11_untell (by decide +kernel)
def sx_d_X11_who : List (List (Nat × sx_I)) := [[(0, (.aload_n 0, 1, [])), (1, (.getfield 20, 3, [11, 2, 0, 671])), (4, (.iload_n 1, 1, [])), (5, (.invokevirtual 160, 3, [2, 12, 2, 0, 933])), (8, (.ifCond .eq 13, 3, [21]))], [(5, (.iconst (-1), 1, [4294967295])), (6, (.ireturn, 1, []))]]
set_option maxRecDepth 100000 in
theorem sx_q_X11_who : sx_t_X11_who = sx_cT sx_d_X11_who := rfl
set_option maxRecDepth 100000 in
theorem sx_y_X11_who : sx_yOk 59 sx_t_X11_who := sx_yok0 (by decide +kernel) sx_q_X11_who (by decide +kernel)
def sx_d_X12_about : List (List (Nat × sx_I)) := [[(0, (.iload_n 1, 1, [])), (1, (.tableswitch 170 0 13 #[71, 81, 91, 101, 108, 115, 120, 125, 130, 135, 140, 145, 155, 160], 71, [171, 2147483648, 72, 82, 92, 102, 109, 116, 121, 126, 131, 136, 141, 146, 156, 161]))], [], [], [], [(8, (.aload_n 0, 1, [])), (9, (.getfield 20, 3, [12, 11, 0, 1816])), (12, (.aload_n 0, 1, [])), (13, (.getfield 277, 3, [12, 39, 0, 1844]))], [(0, (.iaload, 1, [])), (1, (.ireturn, 1, [])), (2, (.aload_n 0, 1, [])), (3, (.getfield 27, 3, [12, 13, 0, 1818])), (6, (.aload_n 0, 1, [])), (7, (.getfield 277, 3, [12, 39, 0, 1844])), (10, (.iaload, 1, [])), (11, (.ireturn, 1, [])), (12, (.aload_n 0, 1, [])), (13, (.getfield 30, 3, [12, 14, 0, 1819]))], [(0, (.aload_n 0, 1, [])), (1, (.getfield 277, 3, [12, 39, 0, 1844])), (4, (.iaload, 1, [])), (5, (.ireturn, 1, [])), (6, (.aload_n 0, 1, [])), (7, (.getfield 107, 3, [12, 49, 0, 1854])), (10, (.iconst 0, 1, [0])), (11, (.iaload, 1, [])), (12, (.ireturn, 1, [])), (13, (.aload_n 0, 1, [])), (14, (.getfield 107, 3, [12, 49, 0, 1854]))], [(1, (.iconst 1, 1, [1])), (2, (.iaload, 1, [])), (3, (.ireturn, 1, [])), (4, (.aload_n 0, 1, [])), (5, (.getfield 386, 3, [12, 51, 0, 1856])), (8, (.ireturn, 1, [])), (9, (.aload_n 0, 1, [])), (10, (.getfield 389, 3, [12, 52, 0, 1857])), (13, (.ireturn, 1, [])), (14, (.aload_n 0, 1, [])), (15, (.getfield 392, 3, [12, 58, 0, 1863]))], [(2, (.ireturn, 1, [])), (3, (.aload_n 0, 1, [])), (4, (.getfield 395, 3, [12, 71, 0, 1876])), (7, (.ireturn, 1, [])), (8, (.aload_n 0, 1, [])), (9, (.getfield 550, 3, [12, 72, 0, 1877])), (12, (.ireturn, 1, [])), (13, (.aload_n 0, 1, [])), (14, (.getfield 274, 3, [12, 2, 0, 1807]))], [(1, (.ireturn, 1, [])), (2, (.aload_n 0, 1, [])), (3, (.getfield 33, 3, [12, 15, 0, 1820])), (6, (.aload_n 0, 1, [])), (7, (.getfield 277, 3, [12, 39, 0, 1844])), (10, (.iaload, 1, [])), (11, (.ireturn, 1, [])), (12, (.aload_n 0, 1, [])), (13, (.getfield 398, 3, [12, 56, 0, 1861]))], [(0, (.ireturn, 1, [])), (1, (.aload_n 0, 1, [])), (2, (.getfield 24, 3, [12, 12, 0, 1817])), (5, (.aload_n 0, 1, [])), (6, (.getfield 277, 3, [12, 39, 0, 1844])), (9, (.iaload, 1, [])), (10, (.ireturn, 1, [])), (11, (.iconst (-1), 1, [4294967295])), (12, (.ireturn, 1, []))]]
set_option maxRecDepth 100000 in
theorem sx_q_X12_about : sx_t_X12_about = sx_cT sx_d_X12_about := rfl
set_option maxRecDepth 100000 in
theorem sx_y_X12_about : sx_yOk 60 sx_t_X12_about := sx_yok0 (by decide +kernel) sx_q_X12_about (by decide +kernel)
def sx_d_X12_add : List (List (Nat × sx_I)) := [[(0, (.aload_n 0, 1, [])), (1, (.getfield 137, 3, [12, 65, 0, 1870])), (4, (.aload_n 0, 1, [])), (5, (.getfield 395, 3, [12, 71, 0, 1876])), (8, (.iload_n 1, 1, [])), (9, (.iastore, 1, [])), (10, (.aload_n 0, 1, [])), (11, (.getfield 140, 3, [12, 66, 0, 1871])), (14, (.aload_n 0, 1, [])), (15, (.getfield 395, 3, [12, 71, 0, 1876]))], [(2, (.iload_n 2, 1, [])), (3, (.iastore, 1, [])), (4, (.aload_n 0, 1, [])), (5, (.getfield 143, 3, [12, 67, 0, 1872])), (8, (.aload_n 0, 1, [])), (9, (.getfield 395, 3, [12, 71, 0, 1876])), (12, (.iload_n 3, 1, [])), (13, (.iastore, 1, [])), (14, (.aload_n 0, 1, [])), (15, (.getfield 146, 3, [12, 68, 0, 1873]))], [(2, (.aload_n 0, 1, [])), (3, (.getfield 395, 3, [12, 71, 0, 1876])), (6, (.aload_n 0, 1, [])), (7, (.getfield 550, 3, [12, 72, 0, 1877])), (10, (.iastore, 1, [])), (11, (.aload_n 0, 1, [])), (12, (.getfield 149, 3, [12, 69, 0, 1874])), (15, (.aload_n 0, 1, []))], [(0, (.getfield 395, 3, [12, 71, 0, 1876])), (3, (.iconst (-1), 1, [4294967295])), (4, (.iastore, 1, [])), (5, (.aload_n 0, 1, [])), (6, (.dup, 1, [])), (7, (.getfield 395, 3, [12, 71, 0, 1876])), (10, (.iconst 1, 1, [1])), (11, (.iadd, 1, [])), (12, (.putfield 395, 3, [12, 71, 0, 0, 0, 1876])), (15, (.aload_n 0, 1, []))], [(0, (.getfield 395, 3, [12, 71, 0, 1876])), (3, (.iconst 1, 1, [1])), (4, (.isub, 1, [])), (5, (.ireturn, 1, []))]]
set_option maxRecDepth 100000 in
theorem sx_q_X12_add : sx_t_X12_add = sx_cT sx_d_X12_add := rfl
set_option maxRecDepth 100000 in
theorem sx_y_X12_add : sx_yOk 61 sx_t_X12_add := sx_yok0 (by decide +kernel) sx_q_X12_add (by decide +kernel)
end
section
/-! data of methods, 3 -/
def sx_d_X12_alibis : List (List (Nat × sx_I)) := [[(0, (.aload_n 0, 1, [])), (1, (.iconst 0, 1, [0])), (2, (.putfield 398, 3, [12, 56, 0, 0, 0, 1861])), (5, (.aload_n 0, 1, [])), (6, (.iload_n 1, 1, [])), (7, (.invokevirtual 440, 3, [2, 95, 2, 0, 2231])), (10, (.ifCond .ne 5, 3, [15])), (13, (.iconst (-1), 1, [4294967295])), (14, (.ireturn, 1, []))]]
set_option maxRecDepth 100000 in
theorem sx_q_X12_alibis : sx_t_X12_alibis = sx_cT sx_d_X12_alibis := rfl
set_option maxRecDepth 100000 in
theorem sx_y_X12_alibis : sx_yOk 62 sx_t_X12_alibis := sx_yok0 (by decide +kernel) sx_q_X12_alibis (by decide +kernel)
def sx_d_X12_back : List (List (Nat × sx_I)) := [[(0, (.iload_n 1, 1, [])), (1, (.iconst 0, 1, [0])), (2, (.iconst 2, 1, [2])), (3, (.invokestatic 379, 3, [2, 94, 3, 0, 2212])), (6, (.ifCond .eq 12, 3, [18])), (9, (.aload_n 0, 1, [])), (10, (.getfield 158, 3, [12, 79, 0, 1884])), (13, (.iload_n 1, 1, [])), (14, (.baload, 1, [2])), (15, (.ifCond .ne 5, 3, [20]))], [(2, (.iconst (-1), 1, [4294967295])), (3, (.ireturn, 1, []))]]
set_option maxRecDepth 100000 in
theorem sx_q_X12_back : sx_t_X12_back = sx_cT sx_d_X12_back := rfl
set_option maxRecDepth 100000 in
theorem sx_y_X12_back : sx_yOk 63 sx_t_X12_back := sx_yok0 (by decide +kernel) sx_q_X12_back (by decide +kernel)
def sx_d_X12_bitsOf : List (List (Nat × sx_I)) := [[(0, (.iconst 0, 1, [0])), (1, (.istore_n 1, 1, [])), (2, (.iload_n 0, 1, [])), (3, (.istore_n 2, 1, [])), (4, (.iload_n 2, 1, [])), (5, (.ifCond .eq 15, 3, [20]))], [(4, (.iload_n 1, 1, [])), (5, (.ireturn, 1, []))]]
set_option maxRecDepth 100000 in
theorem sx_q_X12_bitsOf : sx_t_X12_bitsOf = sx_cT sx_d_X12_bitsOf := rfl
set_option maxRecDepth 100000 in
theorem sx_y_X12_bitsOf : sx_yOk 64 sx_t_X12_bitsOf := sx_yok0 (by decide +kernel) sx_q_X12_bitsOf (by decide +kernel)
def sx_d_X12_breaks : List (List (Nat × sx_I)) := [[(0, (.aload_n 0, 1, [])), (1, (.iload_n 1, 1, [])), (2, (.iload_n 2, 1, [])), (3, (.invokevirtual 496, 3, [2, 66, 3, 0, 2413])), (6, (.ifCond .ne 6, 3, [12])), (9, (.bipush (-2), 2, [4294967294])), (11, (.ireturn, 1, []))]]
set_option maxRecDepth 100000 in
theorem sx_q_X12_breaks : sx_t_X12_breaks = sx_cT sx_d_X12_breaks := rfl
set_option maxRecDepth 100000 in
theorem sx_y_X12_breaks : sx_yOk 65 sx_t_X12_breaks := sx_yok0 (by decide +kernel) sx_q_X12_breaks (by decide +kernel)
def sx_d_X12_canBargain : List (List (Nat × sx_I)) := [[(0, (.aload_n 0, 1, [])), (1, (.iload_n 1, 1, [])), (2, (.invokevirtual 440, 3, [2, 95, 2, 0, 2231])), (5, (.ifCond .eq 21, 3, [26]))], [(10, (.iconst 0, 1, [0])), (11, (.ireturn, 1, [1]))]]
set_option maxRecDepth 100000 in
theorem sx_q_X12_canBargain : sx_t_X12_canBargain = sx_cT sx_d_X12_canBargain := rfl
set_option maxRecDepth 100000 in
theorem sx_y_X12_canBargain : sx_yOk 66 sx_t_X12_canBargain := sx_yok0 (by decide +kernel) sx_q_X12_canBargain (by decide +kernel)
def sx_d_X12_cares : List (List (Nat × sx_I)) := [[(0, (.aload_n 0, 1, [])), (1, (.iload_n 1, 1, [])), (2, (.iload_n 2, 1, [])), (3, (.invokevirtual 496, 3, [2, 66, 3, 0, 2413])), (6, (.ifCond .ne 6, 3, [12])), (9, (.bipush (-2), 2, [4294967294])), (11, (.ireturn, 1, []))]]
set_option maxRecDepth 100000 in
theorem sx_q_X12_cares : sx_t_X12_cares = sx_cT sx_d_X12_cares := rfl
set_option maxRecDepth 100000 in
theorem sx_y_X12_cares : sx_yOk 67 sx_t_X12_cares := sx_yok0 (by decide +kernel) sx_q_X12_cares (by decide +kernel)
def sx_d_X12_chooses : List (List (Nat × sx_I)) := [[(0, (.aload_n 0, 1, [])), (1, (.iload_n 1, 1, [])), (2, (.invokevirtual 440, 3, [2, 95, 2, 0, 2231])), (5, (.ifCond .eq 13, 3, [18]))], [(2, (.bipush (-2), 2, [4294967294])), (4, (.ireturn, 1, []))]]
set_option maxRecDepth 100000 in
theorem sx_q_X12_chooses : sx_t_X12_chooses = sx_cT sx_d_X12_chooses := rfl
set_option maxRecDepth 100000 in
theorem sx_y_X12_chooses : sx_yOk 68 sx_t_X12_chooses := sx_yok0 (by decide +kernel) sx_q_X12_chooses (by decide +kernel)
def sx_d_X12_clearBank : List (List (Nat × sx_I)) := [[(0, (.aload_n 0, 1, [])), (1, (.getfield 20, 3, [12, 11, 0, 1816])), (4, (.aload_n 0, 1, [])), (5, (.getfield 268, 3, [12, 40, 0, 1845])), (8, (.iconst 0, 1, [0])), (9, (.iastore, 1, [])), (10, (.aload_n 0, 1, [])), (11, (.getfield 24, 3, [12, 12, 0, 1817])), (14, (.aload_n 0, 1, [])), (15, (.getfield 268, 3, [12, 40, 0, 1845]))], [(2, (.iconst 0, 1, [0])), (3, (.iastore, 1, [])), (4, (.aload_n 0, 1, [])), (5, (.getfield 27, 3, [12, 13, 0, 1818])), (8, (.aload_n 0, 1, [])), (9, (.getfield 268, 3, [12, 40, 0, 1845])), (12, (.iconst 0, 1, [0])), (13, (.iastore, 1, [])), (14, (.aload_n 0, 1, [])), (15, (.getfield 30, 3, [12, 14, 0, 1819]))], [(2, (.aload_n 0, 1, [])), (3, (.getfield 268, 3, [12, 40, 0, 1845])), (6, (.iconst 0, 1, [0])), (7, (.iastore, 1, [])), (8, (.aload_n 0, 1, [])), (9, (.getfield 33, 3, [12, 15, 0, 1820])), (12, (.aload_n 0, 1, [])), (13, (.getfield 268, 3, [12, 40, 0, 1845]))], [(0, (.iconst 0, 1, [0])), (1, (.iastore, 1, [])), (2, (.aload_n 0, 1, [])), (3, (.getfield 36, 3, [12, 16, 0, 1821])), (6, (.aload_n 0, 1, [])), (7, (.getfield 268, 3, [12, 40, 0, 1845])), (10, (.iconst 0, 1, [0])), (11, (.iastore, 1, [])), (12, (.aload_n 0, 1, [])), (13, (.getfield 72, 3, [12, 28, 0, 1833]))], [(0, (.aload_n 0, 1, [])), (1, (.getfield 268, 3, [12, 40, 0, 1845])), (4, (.iconst 0, 1, [0])), (5, (.bastore, 1, [2])), (6, (.aload_n 0, 1, [])), (7, (.sipush 640, 3, [640])), (10, (.aload_n 0, 1, [])), (11, (.getfield 268, 3, [12, 40, 0, 1845])), (14, (.imul, 1, [])), (15, (.putfield 271, 3, [12, 41, 0, 0, 0, 1846]))], [(2, (.bipush 64, 2, [64])), (4, (.aload_n 0, 1, [])), (5, (.getfield 268, 3, [12, 40, 0, 1845])), (8, (.imul, 1, [])), (9, (.istore_n 1, 1, [])), (10, (.iload_n 1, 1, [])), (11, (.bipush 64, 2, [64])), (13, (.aload_n 0, 1, [])), (14, (.getfield 268, 3, [12, 40, 0, 1845]))], [(1, (.imul, 1, [])), (2, (.bipush 64, 2, [64])), (4, (.iadd, 1, [])), (5, (.if_icmp .ge 23, 3, [124])), (8, (.aload_n 0, 1, [])), (9, (.getfield 51, 3, [12, 21, 0, 1826])), (12, (.iload_n 1, 1, [])), (13, (.iconst 0, 1, [0])), (14, (.iastore, 1, [])), (15, (.aload_n 0, 1, []))], [(0, (.getfield 79, 3, [12, 30, 0, 1835])), (3, (.iload_n 1, 1, [])), (4, (.iconst 0, 1, [0])), (5, (.bastore, 1, [2])), (6, (.iinc 1 1, 3, [1])), (9, (.goto (-31), 3, [90])), (12, (.return_, 1, []))]]
set_option maxRecDepth 100000 in
theorem sx_q_X12_clearBank : sx_t_X12_clearBank = sx_cT sx_d_X12_clearBank := rfl
set_option maxRecDepth 100000 in
theorem sx_y_X12_clearBank : sx_yOk 69 sx_t_X12_clearBank := sx_yok0 (by decide +kernel) sx_q_X12_clearBank (by decide +kernel)
def sx_d_X12_clearVotes : List (List (Nat × sx_I)) := [[(0, (.iconst 0, 1, [0])), (1, (.istore_n 1, 1, [])), (2, (.iload_n 1, 1, [])), (3, (.iconst 3, 1, [3])), (4, (.if_icmp .ge 16, 3, [20])), (7, (.aload_n 0, 1, [])), (8, (.getfield 134, 3, [12, 64, 0, 1869])), (11, (.iload_n 1, 1, [])), (12, (.iconst 0, 1, [0])), (13, (.iastore, 1, [])), (14, (.iinc 1 1, 3, [1]))], [(1, (.goto (-15), 3, [2])), (4, (.return_, 1, []))]]
set_option maxRecDepth 100000 in
theorem sx_q_X12_clearVotes : sx_t_X12_clearVotes = sx_cT sx_d_X12_clearVotes := rfl
set_option maxRecDepth 100000 in
theorem sx_y_X12_clearVotes : sx_yOk 70 sx_t_X12_clearVotes := sx_yok0 (by decide +kernel) sx_q_X12_clearVotes (by decide +kernel)
def sx_d_X12_days : List (List (Nat × sx_I)) := [[(0, (.iload_n 1, 1, [])), (1, (.iconst 0, 1, [0])), (2, (.bipush 60, 2, [60])), (4, (.invokestatic 379, 3, [2, 94, 3, 0, 2212])), (7, (.ifCond .eq 17, 3, [24])), (10, (.aload_n 0, 1, [])), (11, (.getfield 107, 3, [12, 49, 0, 1854])), (14, (.iconst 0, 1, [0])), (15, (.iaload, 1, []))], [(0, (.iload_n 1, 1, [])), (1, (.iadd, 1, [])), (2, (.sipush 900, 3, [900])), (5, (.if_icmp .le 5, 3, [26])), (8, (.iconst (-1), 1, [4294967295])), (9, (.ireturn, 1, [])), (10, (.aload_n 0, 1, [])), (11, (.invokevirtual 456, 3, [2, 98, 1, 0, 2322])), (14, (.iconst 0, 1, [0])), (15, (.istore_n 2, 1, []))], [(0, (.iload_n 2, 1, [])), (1, (.iload_n 1, 1, [])), (2, (.if_icmp .ge 51, 3, [85])), (5, (.iconst 0, 1, [0])), (6, (.istore_n 3, 1, [])), (7, (.iload_n 3, 1, [])), (8, (.aload_n 0, 1, [])), (9, (.getfield 27, 3, [12, 13, 0, 1818])), (12, (.aload_n 0, 1, [])), (13, (.getfield 277, 3, [12, 39, 0, 1844]))], [(0, (.iaload, 1, [])), (1, (.if_icmp .ge 20, 3, [69]))], [(5, (.aload_n 0, 1, [])), (6, (.getfield 107, 3, [12, 49, 0, 1854])), (9, (.iconst 0, 1, [0])), (10, (.dup2, 1, [])), (11, (.iaload, 1, [])), (12, (.iconst 1, 1, [1])), (13, (.iadd, 1, [])), (14, (.iastore, 1, [])), (15, (.iinc 2 1, 3, [1]))], [(2, (.goto (-50), 3, [32])), (5, (.aload_n 0, 1, [])), (6, (.getfield 107, 3, [12, 49, 0, 1854])), (9, (.iconst 0, 1, [0])), (10, (.iaload, 1, [])), (11, (.ireturn, 1, []))]]
set_option maxRecDepth 100000 in
theorem sx_q_X12_days : sx_t_X12_days = sx_cT sx_d_X12_days := rfl
set_option maxRecDepth 100000 in
theorem sx_y_X12_days : sx_yOk 71 sx_t_X12_days := sx_yok0 (by decide +kernel) sx_q_X12_days (by decide +kernel)
def sx_d_X12_decree : List (List (Nat × sx_I)) := [[(0, (.aload_n 0, 1, [])), (1, (.iload_n 1, 1, [])), (2, (.invokevirtual 440, 3, [2, 95, 2, 0, 2231])), (5, (.ifCond .eq 37, 3, [42]))], [], [(10, (.ldc_w 452, 3, [3294967296, 2306])), (13, (.ireturn, 1, []))]]
set_option maxRecDepth 100000 in
theorem sx_q_X12_decree : sx_t_X12_decree = sx_cT sx_d_X12_decree := rfl
set_option maxRecDepth 100000 in
theorem sx_y_X12_decree : sx_yOk 72 sx_t_X12_decree := sx_yok0 (by decide +kernel) sx_q_X12_decree (by decide +kernel)
def sx_d_X12_die : List (List (Nat × sx_I)) := [[(0, (.aload_n 0, 1, [])), (1, (.iload_n 1, 1, [])), (2, (.invokevirtual 383, 3, [2, 93, 2, 0, 2208])), (5, (.ifCond .ne 5, 3, [10])), (8, (.iconst (-1), 1, [4294967295])), (9, (.ireturn, 1, []))]]
set_option maxRecDepth 100000 in
theorem sx_q_X12_die : sx_t_X12_die = sx_cT sx_d_X12_die := rfl
set_option maxRecDepth 100000 in
theorem sx_y_X12_die : sx_yOk 73 sx_t_X12_die := sx_yok0 (by decide +kernel) sx_q_X12_die (by decide +kernel)
def sx_d_X12_elected : List (List (Nat × sx_I)) := [[(0, (.iload_n 1, 1, [])), (1, (.iconst 0, 1, [0])), (2, (.sipush 999, 3, [999])), (5, (.invokestatic 379, 3, [2, 94, 3, 0, 2212])), (8, (.ifCond .eq 11, 3, [19])), (11, (.aload_n 0, 1, [])), (12, (.iload_n 1, 1, [])), (13, (.invokevirtual 544, 3, [2, 75, 2, 0, 2480]))], [(0, (.goto 4, 3, [20])), (3, (.iconst (-1), 1, [4294967295])), (4, (.ireturn, 1, []))]]
set_option maxRecDepth 100000 in
theorem sx_q_X12_elected : sx_t_X12_elected = sx_cT sx_d_X12_elected := rfl
set_option maxRecDepth 100000 in
theorem sx_y_X12_elected : sx_yOk 74 sx_t_X12_elected := sx_yok0 (by decide +kernel) sx_q_X12_elected (by decide +kernel)
def sx_d_X12_electedOn : List (List (Nat × sx_I)) := [[(0, (.aload_n 0, 1, [])), (1, (.invokevirtual 538, 3, [2, 70, 1, 0, 2484])), (4, (.iconst 0, 1, [0])), (5, (.istore_n 2, 1, [])), (6, (.iload_n 2, 1, [])), (7, (.aload_n 0, 1, [])), (8, (.getfield 27, 3, [12, 13, 0, 1818])), (11, (.aload_n 0, 1, [])), (12, (.getfield 277, 3, [12, 39, 0, 1844])), (15, (.iaload, 1, []))], [(0, (.if_icmp .ge 43, 3, [59]))], [], [(11, (.aload_n 0, 1, [])), (12, (.invokevirtual 541, 3, [2, 104, 1, 0, 2488])), (15, (.ireturn, 1, []))]]
set_option maxRecDepth 100000 in
theorem sx_q_X12_electedOn : sx_t_X12_electedOn = sx_cT sx_d_X12_electedOn := rfl
set_option maxRecDepth 100000 in
theorem sx_y_X12_electedOn : sx_yOk 75 sx_t_X12_electedOn := sx_yok0 (by decide +kernel) sx_q_X12_electedOn (by decide +kernel)
def sx_d_X12_end : List (List (Nat × sx_I)) := [[(0, (.iload_n 1, 1, [])), (1, (.ifCond .lt 11, 3, [12])), (4, (.iload_n 1, 1, [])), (5, (.aload_n 0, 1, [])), (6, (.getfield 274, 3, [12, 2, 0, 1807])), (9, (.if_icmp .le 5, 3, [14])), (12, (.iconst (-1), 1, [4294967295])), (13, (.ireturn, 1, [])), (14, (.aload_n 0, 1, [])), (15, (.iload_n 1, 1, []))], [(0, (.putfield 274, 3, [12, 2, 0, 0, 0, 1807])), (3, (.iload_n 1, 1, [])), (4, (.ireturn, 1, []))]]
set_option maxRecDepth 100000 in
theorem sx_q_X12_end : sx_t_X12_end = sx_cT sx_d_X12_end := rfl
set_option maxRecDepth 100000 in
theorem sx_y_X12_end : sx_yOk 76 sx_t_X12_end := sx_yok0 (by decide +kernel) sx_q_X12_end (by decide +kernel)
def sx_d_X12_exchange : List (List (Nat × sx_I)) := [[(0, (.aload_n 0, 1, [])), (1, (.iload_n 1, 1, [])), (2, (.invokevirtual 440, 3, [2, 95, 2, 0, 2231])), (5, (.ifCond .eq 38, 3, [43]))], [], [(11, (.iconst 0, 1, [0])), (12, (.ireturn, 1, [1]))]]
set_option maxRecDepth 100000 in
theorem sx_q_X12_exchange : sx_t_X12_exchange = sx_cT sx_d_X12_exchange := rfl
set_option maxRecDepth 100000 in
theorem sx_y_X12_exchange : sx_yOk 77 sx_t_X12_exchange := sx_yok0 (by decide +kernel) sx_q_X12_exchange (by decide +kernel)
def sx_d_X12_fast : List (List (Nat × sx_I)) := [[(0, (.aload_n 0, 1, [])), (1, (.iconst 0, 1, [0])), (2, (.invokevirtual 535, 3, [2, 83, 2, 0, 2441])), (5, (.aload_n 0, 1, [])), (6, (.getfield 512, 3, [12, 61, 0, 1866])), (9, (.ireturn, 1, []))]]
set_option maxRecDepth 100000 in
theorem sx_q_X12_fast : sx_t_X12_fast = sx_cT sx_d_X12_fast := rfl
set_option maxRecDepth 100000 in
theorem sx_y_X12_fast : sx_yOk 78 sx_t_X12_fast := sx_yok0 (by decide +kernel) sx_q_X12_fast (by decide +kernel)
def sx_d_X12_fault : List (List (Nat × sx_I)) := [[(0, (.iload_n 1, 1, [])), (1, (.ifCond .ne 10, 3, [11])), (4, (.aload_n 0, 1, [])), (5, (.getfield 170, 3, [12, 4, 0, 1809])), (8, (.goto 16, 3, [24])), (11, (.iload_n 1, 1, [])), (12, (.iconst 1, 1, [1])), (13, (.if_icmp .ne 10, 3, [23]))], [(0, (.aload_n 0, 1, [])), (1, (.getfield 16, 3, [12, 5, 0, 1810])), (4, (.goto 4, 3, [24])), (7, (.iconst (-1), 1, [4294967295])), (8, (.ireturn, 1, []))]]
set_option maxRecDepth 100000 in
theorem sx_q_X12_fault : sx_t_X12_fault = sx_cT sx_d_X12_fault := rfl
set_option maxRecDepth 100000 in
theorem sx_y_X12_fault : sx_yOk 79 sx_t_X12_fault := sx_yok0 (by decide +kernel) sx_q_X12_fault (by decide +kernel)
def sx_d_X12_feed : List (List (Nat × sx_I)) := [[(0, (.aload_n 0, 1, [])), (1, (.getfield 274, 3, [12, 2, 0, 1807])), (4, (.bipush 20, 2, [20])), (6, (.iadd, 1, [])), (7, (.sipush 1600, 3, [1600])), (10, (.if_icmp .le 5, 3, [15])), (15, (.iconst 0, 1, [0]))], [(0, (.istore 6, 2, [])), (2, (.iload 6, 2, [])), (4, (.bipush 20, 2, [20])), (6, (.if_icmp .ge 83, 3, [105])), (9, (.iload 6, 2, [])), (11, (.iconst 4, 1, [4])), (12, (.if_icmp .ge 7, 3, [35])), (15, (.iload_n 1, 1, []))], [(0, (.goto 39, 3, [71])), (3, (.iload 6, 2, [])), (5, (.bipush 8, 2, [8])), (7, (.if_icmp .ge 7, 3, [46])), (10, (.iload_n 2, 1, [])), (11, (.goto 28, 3, [71])), (14, (.iload 6, 2, []))], [(0, (.bipush 12, 2, [12])), (2, (.if_icmp .ge 7, 3, [57])), (5, (.iload_n 3, 1, [])), (6, (.goto 17, 3, [71])), (9, (.iload 6, 2, [])), (11, (.bipush 16, 2, [16])), (13, (.if_icmp .ge 8, 3, [69]))], [(0, (.iload 4, 2, [])), (2, (.goto 5, 3, [71])), (5, (.iload 5, 2, [])), (7, (.istore 7, 2, [])), (9, (.aload_n 0, 1, [])), (10, (.getfield 7, 3, [12, 0, 0, 1805])), (13, (.aload_n 0, 1, [])), (14, (.getfield 274, 3, [12, 2, 0, 1807]))], [(1, (.iload 6, 2, [])), (3, (.iadd, 1, [])), (4, (.iload 7, 2, [])), (6, (.bipush 24, 2, [24])), (8, (.bipush 8, 2, [8])), (10, (.iload 6, 2, [])), (12, (.iconst 3, 1, [3])), (13, (.iand, 1, [])), (14, (.imul, 1, [])), (15, (.isub, 1, []))], [(0, (.ishr, 1, [])), (1, (.i2b, 1, [])), (2, (.bastore, 1, [3])), (3, (.iinc 6 1, 3, [1])), (6, (.goto (-84), 3, [18])), (9, (.aload_n 0, 1, [])), (10, (.dup, 1, [])), (11, (.getfield 274, 3, [12, 2, 0, 1807])), (14, (.bipush 20, 2, [20]))], [(0, (.iadd, 1, [])), (1, (.putfield 274, 3, [12, 2, 0, 0, 0, 1807])), (4, (.aload_n 0, 1, [])), (5, (.getfield 274, 3, [12, 2, 0, 1807])), (8, (.ireturn, 1, []))]]
set_option maxRecDepth 100000 in
theorem sx_q_X12_feed : sx_t_X12_feed = sx_cT sx_d_X12_feed := rfl
set_option maxRecDepth 100000 in
theorem sx_y_X12_feed : sx_yOk 80 sx_t_X12_feed := sx_yok0 (by decide +kernel) sx_q_X12_feed (by decide +kernel)
def sx_d_X12_firstFree : List (List (Nat × sx_I)) := [[(0, (.iconst 0, 1, [0])), (1, (.istore_n 1, 1, [])), (2, (.iload_n 1, 1, [])), (3, (.aload_n 0, 1, [])), (4, (.getfield 20, 3, [12, 11, 0, 1816])), (7, (.aload_n 0, 1, [])), (8, (.getfield 277, 3, [12, 39, 0, 1844])), (11, (.iaload, 1, [])), (12, (.if_icmp .ge 28, 3, [40]))], [], [(8, (.iconst (-1), 1, [4294967295])), (9, (.ireturn, 1, []))]]
set_option maxRecDepth 100000 in
theorem sx_q_X12_firstFree : sx_t_X12_firstFree = sx_cT sx_d_X12_firstFree := rfl
set_option maxRecDepth 100000 in
theorem sx_y_X12_firstFree : sx_yOk 81 sx_t_X12_firstFree := sx_yok0 (by decide +kernel) sx_q_X12_firstFree (by decide +kernel)
def sx_d_X12_goOn : List (List (Nat × sx_I)) := [[(0, (.aload_n 0, 1, [])), (1, (.aload_n 0, 1, [])), (2, (.getfield 209, 3, [12, 7, 0, 1812])), (5, (.putfield 212, 3, [12, 6, 0, 0, 0, 1811])), (8, (.aload_n 0, 1, [])), (9, (.getfield 212, 3, [12, 6, 0, 1811])), (12, (.aload_n 0, 1, [])), (13, (.getfield 167, 3, [12, 3, 0, 1808]))], [(0, (.if_icmp .ge 42, 3, [58]))], [], [(10, (.aload_n 0, 1, [])), (11, (.aload_n 0, 1, [])), (12, (.getfield 212, 3, [12, 6, 0, 1811])), (15, (.invokevirtual 215, 3, [2, 116, 2, 0, 2054]))], [(2, (.istore_n 1, 1, [])), (3, (.aload_n 0, 1, [])), (4, (.aload_n 0, 1, [])), (5, (.getfield 212, 3, [12, 6, 0, 1811])), (8, (.iconst 1, 1, [1])), (9, (.iadd, 1, [])), (10, (.putfield 209, 3, [12, 7, 0, 0, 0, 1812])), (13, (.aload_n 0, 1, [])), (14, (.getfield 212, 3, [12, 6, 0, 1811]))], [(1, (.aload_n 0, 1, [])), (2, (.getfield 167, 3, [12, 3, 0, 1808])), (5, (.if_icmp .lt 27, 3, [112])), (8, (.aload_n 0, 1, [])), (9, (.iconst 0, 1, [0])), (10, (.putfield 219, 3, [12, 8, 0, 0, 0, 1813])), (13, (.aload_n 0, 1, [])), (14, (.aload_n 0, 1, [])), (15, (.getfield 167, 3, [12, 3, 0, 1808]))], [(2, (.putfield 212, 3, [12, 6, 0, 0, 0, 1811])), (5, (.aload_n 0, 1, [])), (6, (.aload_n 0, 1, [])), (7, (.getfield 167, 3, [12, 3, 0, 1808])), (10, (.putfield 209, 3, [12, 7, 0, 0, 0, 1812])), (13, (.goto 268, 3, [377]))], [], [], [], [], [], [], [], [], [], [], [], [], [], [], [], [], [(9, (.return_, 1, []))]]
set_option maxRecDepth 100000 in
theorem sx_q_X12_goOn : sx_t_X12_goOn = sx_cT sx_d_X12_goOn := rfl
set_option maxRecDepth 100000 in
theorem sx_y_X12_goOn : sx_yOk 82 sx_t_X12_goOn := sx_yok0 (by decide +kernel) sx_q_X12_goOn (by decide +kernel)
def sx_d_X12_goThrough : List (List (Nat × sx_I)) := [[(0, (.aload_n 0, 1, [])), (1, (.getfield 107, 3, [12, 49, 0, 1854])), (4, (.iconst 2, 1, [2])), (5, (.iaload, 1, [])), (6, (.invokestatic 509, 3, [2, 64, 1, 0, 2445])), (9, (.iconst 2, 1, [2])), (10, (.irem, 1, [])), (11, (.iconst 1, 1, [1])), (12, (.if_icmp .ne 7, 3, [19]))], [(3, (.iconst 0, 1, [0])), (4, (.istore_n 2, 1, [])), (5, (.iconst 0, 1, [0])), (6, (.istore_n 3, 1, [])), (7, (.iconst 0, 1, [0])), (8, (.istore 4, 2, [])), (10, (.ldc_w 452, 3, [3294967296, 2306])), (13, (.istore 5, 2, [])), (15, (.aload_n 0, 1, []))], [(0, (.iconst 0, 1, [0])), (1, (.putfield 512, 3, [12, 61, 0, 0, 0, 1866])), (4, (.iconst 0, 1, [0])), (5, (.istore 6, 2, [])), (7, (.iload 6, 2, [])), (9, (.bipush 8, 2, [8])), (11, (.if_icmp .ge 17, 3, [60])), (14, (.aload_n 0, 1, [])), (15, (.getfield 125, 3, [12, 59, 0, 1864]))], [(2, (.iload 6, 2, [])), (4, (.iconst (-1), 1, [4294967295])), (5, (.iastore, 1, [])), (6, (.iinc 6 1, 3, [1])), (9, (.goto (-18), 3, [39])), (12, (.aload_n 0, 1, [])), (13, (.getfield 131, 3, [12, 62, 0, 1867]))], [(0, (.iconst 0, 1, [0])), (1, (.aload_n 0, 1, [])), (2, (.invokevirtual 515, 3, [2, 81, 1, 0, 2448])), (5, (.iastore, 1, [])), (6, (.aload_n 0, 1, [])), (7, (.getfield 131, 3, [12, 62, 0, 1867])), (10, (.iconst 0, 1, [0])), (11, (.iaload, 1, [])), (12, (.istore 6, 2, [])), (14, (.iload 4, 2, []))], [(0, (.ifCond .lt 230, 3, [310])), (3, (.aload_n 0, 1, [])), (4, (.getfield 131, 3, [12, 62, 0, 1867])), (7, (.iload 4, 2, [])), (9, (.iaload, 1, [])), (10, (.istore 7, 2, [])), (12, (.iload 6, 2, [])), (14, (.istore 8, 2, []))], [(0, (.iload 7, 2, [])), (2, (.ifCond .lt 47, 3, [145]))], [], [], [(1, (.iload 7, 2, [])), (3, (.ifCond .lt 78, 3, [225]))], [], [], [], [], [(1, (.iload 7, 2, [])), (3, (.ifCond .ge 12, 3, [239])), (6, (.aload_n 0, 1, [])), (7, (.iload 5, 2, [])), (9, (.iload_n 1, 1, [])), (10, (.invokevirtual 522, 3, [2, 121, 3, 0, 2456])), (13, (.istore 5, 2, [])), (15, (.iinc 4 (-1), 3, [4294967295]))], [(2, (.iload 4, 2, [])), (4, (.ifCond .ge 6, 3, [250])), (7, (.goto (-169), 3, [78]))], [], [], [], [(6, (.aload_n 0, 1, [])), (7, (.iload 5, 2, [])), (9, (.putfield 526, 3, [12, 63, 0, 0, 0, 1868])), (12, (.return_, 1, []))]]
set_option maxRecDepth 100000 in
theorem sx_q_X12_goThrough : sx_t_X12_goThrough = sx_cT sx_d_X12_goThrough := rfl
set_option maxRecDepth 100000 in
theorem sx_y_X12_goThrough : sx_yOk 83 sx_t_X12_goThrough := sx_yok0 (by decide +kernel) sx_q_X12_goThrough (by decide +kernel)
end
section
/-! data of methods, 4 -/
def sx_d_X12_guilt : List (List (Nat × sx_I)) := [[(0, (.aload_n 0, 1, [])), (1, (.iload_n 1, 1, [])), (2, (.invokevirtual 449, 3, [2, 90, 2, 0, 2302])), (5, (.ifCond .eq 20, 3, [25]))], [(9, (.iconst (-1), 1, [4294967295])), (10, (.ireturn, 1, []))]]
set_option maxRecDepth 100000 in
theorem sx_q_X12_guilt : sx_t_X12_guilt = sx_cT sx_d_X12_guilt := rfl
set_option maxRecDepth 100000 in
theorem sx_y_X12_guilt : sx_yOk 84 sx_t_X12_guilt := sx_yok0 (by decide +kernel) sx_q_X12_guilt (by decide +kernel)
def sx_d_X12_half : List (List (Nat × sx_I)) := [[(0, (.aload_n 0, 1, [])), (1, (.iload_n 1, 1, [])), (2, (.invokevirtual 383, 3, [2, 93, 2, 0, 2208])), (5, (.ifCond .ne 5, 3, [10])), (8, (.iconst (-1), 1, [4294967295])), (9, (.ireturn, 1, []))]]
set_option maxRecDepth 100000 in
theorem sx_q_X12_half : sx_t_X12_half = sx_cT sx_d_X12_half := rfl
set_option maxRecDepth 100000 in
theorem sx_y_X12_half : sx_yOk 85 sx_t_X12_half := sx_yok0 (by decide +kernel) sx_q_X12_half (by decide +kernel)
def sx_d_X12_hush : List (List (Nat × sx_I)) := [[(0, (.aload_n 0, 1, [])), (1, (.getfield 392, 3, [12, 58, 0, 1863])), (4, (.istore_n 1, 1, [])), (5, (.aload_n 0, 1, [])), (6, (.iconst 0, 1, [0])), (7, (.putfield 392, 3, [12, 58, 0, 0, 0, 1863])), (10, (.iload_n 1, 1, [])), (11, (.ireturn, 1, []))]]
set_option maxRecDepth 100000 in
theorem sx_q_X12_hush : sx_t_X12_hush = sx_cT sx_d_X12_hush := rfl
set_option maxRecDepth 100000 in
theorem sx_y_X12_hush : sx_yOk 86 sx_t_X12_hush := sx_yok0 (by decide +kernel) sx_q_X12_hush (by decide +kernel)
def sx_d_X12_image : List (List (Nat × sx_I)) := [[(0, (.iload_n 1, 1, [])), (1, (.iconst 0, 1, [0])), (2, (.iconst 2, 1, [2])), (3, (.invokestatic 379, 3, [2, 94, 3, 0, 2212])), (6, (.ifCond .ne 5, 3, [11])), (9, (.iconst (-1), 1, [4294967295])), (10, (.ireturn, 1, [])), (11, (.iconst 0, 1, [0])), (12, (.istore_n 2, 1, [])), (13, (.iload_n 2, 1, [])), (14, (.bipush 119, 2, [119]))], [(0, (.if_icmp .ge 26, 3, [42])), (3, (.aload_n 0, 1, [])), (4, (.getfield 155, 3, [12, 78, 0, 1883])), (7, (.bipush 119, 2, [119])), (9, (.iload_n 1, 1, [])), (10, (.imul, 1, [])), (11, (.iload_n 2, 1, [])), (12, (.iadd, 1, [])), (13, (.aload_n 0, 1, [])), (14, (.getfield 107, 3, [12, 49, 0, 1854]))], [(1, (.iload_n 2, 1, [])), (2, (.iaload, 1, [])), (3, (.iastore, 1, [])), (4, (.iinc 2 1, 3, [1])), (7, (.goto (-26), 3, [13])), (10, (.aload_n 0, 1, [])), (11, (.getfield 158, 3, [12, 79, 0, 1884])), (14, (.iload_n 1, 1, [])), (15, (.iconst 1, 1, [1]))], [(0, (.bastore, 1, [2])), (1, (.aload_n 0, 1, [])), (2, (.getfield 107, 3, [12, 49, 0, 1854])), (5, (.iconst 0, 1, [0])), (6, (.iaload, 1, [])), (7, (.ireturn, 1, []))]]
set_option maxRecDepth 100000 in
theorem sx_q_X12_image : sx_t_X12_image = sx_cT sx_d_X12_image := rfl
set_option maxRecDepth 100000 in
theorem sx_y_X12_image : sx_yOk 87 sx_t_X12_image := sx_yok0 (by decide +kernel) sx_q_X12_image (by decide +kernel)
def sx_d_X12_in : List (List (Nat × sx_I)) := [[(0, (.aload_n 0, 1, [])), (1, (.iload_n 1, 1, [])), (2, (.invokevirtual 440, 3, [2, 95, 2, 0, 2231])), (5, (.ifCond .eq 23, 3, [28]))], [(12, (.bipush (-2), 2, [4294967294])), (14, (.ireturn, 1, []))]]
set_option maxRecDepth 100000 in
theorem sx_q_X12_in : sx_t_X12_in = sx_cT sx_d_X12_in := rfl
set_option maxRecDepth 100000 in
theorem sx_y_X12_in : sx_yOk 88 sx_t_X12_in := sx_yok0 (by decide +kernel) sx_q_X12_in (by decide +kernel)
def sx_d_X12_init : List (List (Nat × sx_I)) := [[(0, (.aload_n 0, 1, [])), (1, (.invokespecial 1, 3, [0, 1796])), (4, (.aload_n 0, 1, [])), (5, (.sipush 1620, 3, [1620])), (8, (.newarray .byte, 2, [3])), (10, (.putfield 7, 3, [12, 0, 1, 0, 1, 1805])), (13, (.aload_n 0, 1, [])), (14, (.sipush 1600, 3, [1600]))], [(1, (.newarray .byte, 2, [3])), (3, (.putfield 13, 3, [12, 1, 1, 0, 1, 1806])), (6, (.aload_n 0, 1, [])), (7, (.iconst (-1), 1, [4294967295])), (8, (.putfield 16, 3, [12, 5, 0, 0, 0, 1810])), (11, (.aload_n 0, 1, [])), (12, (.iconst 2, 1, [2])), (13, (.newarray .int, 2, [0])), (15, (.putfield 20, 3, [12, 11, 1, 0, 1, 1816]))], [(2, (.aload_n 0, 1, [])), (3, (.iconst 2, 1, [2])), (4, (.newarray .int, 2, [0])), (6, (.putfield 24, 3, [12, 12, 1, 0, 1, 1817])), (9, (.aload_n 0, 1, [])), (10, (.iconst 2, 1, [2])), (11, (.newarray .int, 2, [0])), (13, (.putfield 27, 3, [12, 13, 1, 0, 1, 1818]))], [(0, (.aload_n 0, 1, [])), (1, (.iconst 2, 1, [2])), (2, (.newarray .int, 2, [0])), (4, (.putfield 30, 3, [12, 14, 1, 0, 1, 1819])), (7, (.aload_n 0, 1, [])), (8, (.iconst 2, 1, [2])), (9, (.newarray .int, 2, [0])), (11, (.putfield 33, 3, [12, 15, 1, 0, 1, 1820])), (14, (.aload_n 0, 1, [])), (15, (.iconst 2, 1, [2]))], [(0, (.newarray .int, 2, [0])), (2, (.putfield 36, 3, [12, 16, 1, 0, 1, 1821])), (5, (.aload_n 0, 1, [])), (6, (.bipush 16, 2, [16])), (8, (.newarray .int, 2, [0])), (10, (.putfield 39, 3, [12, 17, 1, 0, 1, 1822])), (13, (.aload_n 0, 1, [])), (14, (.bipush 16, 2, [16]))], [(0, (.newarray .int, 2, [0])), (2, (.putfield 42, 3, [12, 18, 1, 0, 1, 1823])), (5, (.aload_n 0, 1, [])), (6, (.bipush 16, 2, [16])), (8, (.newarray .int, 2, [0])), (10, (.putfield 45, 3, [12, 19, 1, 0, 1, 1824])), (13, (.aload_n 0, 1, [])), (14, (.bipush 16, 2, [16]))], [(0, (.newarray .int, 2, [0])), (2, (.putfield 48, 3, [12, 20, 1, 0, 1, 1825])), (5, (.aload_n 0, 1, [])), (6, (.sipush 128, 3, [128])), (9, (.newarray .int, 2, [0])), (11, (.putfield 51, 3, [12, 21, 1, 0, 1, 1826])), (14, (.aload_n 0, 1, [])), (15, (.bipush 8, 2, [8]))], [(1, (.newarray .int, 2, [0])), (3, (.putfield 54, 3, [12, 22, 1, 0, 1, 1827])), (6, (.aload_n 0, 1, [])), (7, (.bipush 24, 2, [24])), (9, (.newarray .int, 2, [0])), (11, (.putfield 57, 3, [12, 23, 1, 0, 1, 1828])), (14, (.aload_n 0, 1, [])), (15, (.bipush 8, 2, [8]))], [(1, (.newarray .int, 2, [0])), (3, (.putfield 60, 3, [12, 24, 1, 0, 1, 1829])), (6, (.aload_n 0, 1, [])), (7, (.bipush 112, 2, [112])), (9, (.newarray .int, 2, [0])), (11, (.putfield 63, 3, [12, 25, 1, 0, 1, 1830])), (14, (.aload_n 0, 1, [])), (15, (.bipush 24, 2, [24]))], [(1, (.newarray .int, 2, [0])), (3, (.putfield 66, 3, [12, 26, 1, 0, 1, 1831])), (6, (.aload_n 0, 1, [])), (7, (.bipush 24, 2, [24])), (9, (.newarray .int, 2, [0])), (11, (.putfield 69, 3, [12, 27, 1, 0, 1, 1832])), (14, (.aload_n 0, 1, [])), (15, (.iconst 2, 1, [2]))], [(0, (.newarray .boolean, 2, [2])), (2, (.putfield 72, 3, [12, 28, 1, 0, 1, 1833])), (5, (.aload_n 0, 1, [])), (6, (.bipush 16, 2, [16])), (8, (.newarray .boolean, 2, [2])), (10, (.putfield 76, 3, [12, 29, 1, 0, 1, 1834])), (13, (.aload_n 0, 1, [])), (14, (.sipush 128, 3, [128]))], [(1, (.newarray .boolean, 2, [2])), (3, (.putfield 79, 3, [12, 30, 1, 0, 1, 1835])), (6, (.aload_n 0, 1, [])), (7, (.bipush 16, 2, [16])), (9, (.newarray .long, 2, [1])), (11, (.putfield 82, 3, [12, 31, 1, 0, 1, 1836])), (14, (.aload_n 0, 1, [])), (15, (.bipush 8, 2, [8]))], [(1, (.newarray .long, 2, [1])), (3, (.putfield 86, 3, [12, 32, 1, 0, 1, 1837])), (6, (.aload_n 0, 1, [])), (7, (.bipush 12, 2, [12])), (9, (.newarray .long, 2, [1])), (11, (.putfield 89, 3, [12, 33, 1, 0, 1, 1838])), (14, (.aload_n 0, 1, [])), (15, (.sipush 1280, 3, [1280]))], [(2, (.newarray .int, 2, [0])), (4, (.putfield 92, 3, [12, 34, 1, 0, 1, 1839])), (7, (.aload_n 0, 1, [])), (8, (.sipush 1280, 3, [1280])), (11, (.newarray .int, 2, [0])), (13, (.putfield 95, 3, [12, 35, 1, 0, 1, 1840]))], [(0, (.aload_n 0, 1, [])), (1, (.bipush 90, 2, [90])), (3, (.newarray .int, 2, [0])), (5, (.putfield 98, 3, [12, 36, 1, 0, 1, 1841])), (8, (.aload_n 0, 1, [])), (9, (.bipush 90, 2, [90])), (11, (.newarray .int, 2, [0])), (13, (.putfield 101, 3, [12, 37, 1, 0, 1, 1842]))], [(0, (.aload_n 0, 1, [])), (1, (.bipush 60, 2, [60])), (3, (.newarray .int, 2, [0])), (5, (.putfield 104, 3, [12, 38, 1, 0, 1, 1843])), (8, (.aload_n 0, 1, [])), (9, (.bipush 119, 2, [119])), (11, (.newarray .int, 2, [0])), (13, (.putfield 107, 3, [12, 49, 1, 0, 1, 1854]))], [(0, (.aload_n 0, 1, [])), (1, (.sipush 4879, 3, [4879])), (4, (.newarray .int, 2, [0])), (6, (.putfield 110, 3, [12, 50, 1, 0, 1, 1855])), (9, (.aload_n 0, 1, [])), (10, (.sipush 6300, 3, [6300])), (13, (.newarray .int, 2, [0])), (15, (.putfield 113, 3, [12, 53, 1, 0, 1, 1858]))], [(2, (.aload_n 0, 1, [])), (3, (.sipush 2000, 3, [2000])), (6, (.newarray .int, 2, [0])), (8, (.putfield 116, 3, [12, 54, 1, 0, 1, 1859])), (11, (.aload_n 0, 1, [])), (12, (.bipush 20, 2, [20])), (14, (.newarray .int, 2, [0]))], [(0, (.putfield 119, 3, [12, 55, 1, 0, 1, 1860])), (3, (.aload_n 0, 1, [])), (4, (.bipush 14, 2, [14])), (6, (.newarray .int, 2, [0])), (8, (.putfield 122, 3, [12, 57, 1, 0, 1, 1862])), (11, (.aload_n 0, 1, [])), (12, (.bipush 8, 2, [8])), (14, (.newarray .int, 2, [0]))], [(0, (.putfield 125, 3, [12, 59, 1, 0, 1, 1864])), (3, (.aload_n 0, 1, [])), (4, (.bipush 8, 2, [8])), (6, (.newarray .int, 2, [0])), (8, (.putfield 128, 3, [12, 60, 1, 0, 1, 1865])), (11, (.aload_n 0, 1, [])), (12, (.bipush 9, 2, [9])), (14, (.newarray .int, 2, [0]))], [(0, (.putfield 131, 3, [12, 62, 1, 0, 1, 1867])), (3, (.aload_n 0, 1, [])), (4, (.iconst 3, 1, [3])), (5, (.newarray .int, 2, [0])), (7, (.putfield 134, 3, [12, 64, 1, 0, 1, 1869])), (10, (.aload_n 0, 1, [])), (11, (.bipush 30, 2, [30])), (13, (.newarray .int, 2, [0])), (15, (.putfield 137, 3, [12, 65, 1, 0, 1, 1870]))], [(2, (.aload_n 0, 1, [])), (3, (.bipush 30, 2, [30])), (5, (.newarray .int, 2, [0])), (7, (.putfield 140, 3, [12, 66, 1, 0, 1, 1871])), (10, (.aload_n 0, 1, [])), (11, (.bipush 30, 2, [30])), (13, (.newarray .int, 2, [0])), (15, (.putfield 143, 3, [12, 67, 1, 0, 1, 1872]))], [(2, (.aload_n 0, 1, [])), (3, (.bipush 30, 2, [30])), (5, (.newarray .int, 2, [0])), (7, (.putfield 146, 3, [12, 68, 1, 0, 1, 1873])), (10, (.aload_n 0, 1, [])), (11, (.bipush 30, 2, [30])), (13, (.newarray .int, 2, [0])), (15, (.putfield 149, 3, [12, 69, 1, 0, 1, 1874]))], [(2, (.aload_n 0, 1, [])), (3, (.bipush 14, 2, [14])), (5, (.newarray .int, 2, [0])), (7, (.putfield 152, 3, [12, 70, 1, 0, 1, 1875])), (10, (.aload_n 0, 1, [])), (11, (.sipush 357, 3, [357])), (14, (.newarray .int, 2, [0]))], [(0, (.putfield 155, 3, [12, 78, 1, 0, 1, 1883])), (3, (.aload_n 0, 1, [])), (4, (.iconst 3, 1, [3])), (5, (.newarray .boolean, 2, [2])), (7, (.putfield 158, 3, [12, 79, 1, 0, 1, 1884])), (10, (.aload_n 0, 1, [])), (11, (.invokevirtual 161, 3, [2, 69, 1, 0, 1797])), (14, (.aload_n 0, 1, [])), (15, (.invokevirtual 164, 3, [2, 118, 1, 0, 1801]))], [(2, (.return_, 1, []))]]
set_option maxRecDepth 100000 in
theorem sx_q_X12_init : sx_t_X12_init = sx_cT sx_d_X12_init := rfl
set_option maxRecDepth 100000 in
theorem sx_y_X12_init : sx_yOk 89 sx_t_X12_init := sx_yok1 (by decide +kernel) (by decide +kernel) sx_q_X12_init (by decide +kernel)
def sx_d_X12_isDeed : List (List (Nat × sx_I)) := [[(0, (.iload_n 1, 1, [])), (1, (.iconst 0, 1, [0])), (2, (.aload_n 0, 1, [])), (3, (.getfield 30, 3, [12, 14, 0, 1819])), (6, (.aload_n 0, 1, [])), (7, (.getfield 277, 3, [12, 39, 0, 1844])), (10, (.iaload, 1, [])), (11, (.iconst 1, 1, [1])), (12, (.isub, 1, [])), (13, (.invokestatic 379, 3, [2, 94, 3, 0, 2212]))], [(0, (.ireturn, 1, [1]))]]
set_option maxRecDepth 100000 in
theorem sx_q_X12_isDeed : sx_t_X12_isDeed = sx_cT sx_d_X12_isDeed := rfl
set_option maxRecDepth 100000 in
theorem sx_y_X12_isDeed : sx_yOk 90 sx_t_X12_isDeed := sx_yok0 (by decide +kernel) sx_q_X12_isDeed (by decide +kernel)
def sx_d_X12_isFast : List (List (Nat × sx_I)) := [[(0, (.iconst 0, 1, [0])), (1, (.istore_n 1, 1, [])), (2, (.iload_n 1, 1, [])), (3, (.aload_n 0, 1, [])), (4, (.getfield 20, 3, [12, 11, 0, 1816])), (7, (.aload_n 0, 1, [])), (8, (.getfield 277, 3, [12, 39, 0, 1844])), (11, (.iaload, 1, [])), (12, (.if_icmp .ge 81, 3, [93]))], [], [], [], [], [(13, (.iconst 1, 1, [1])), (14, (.ireturn, 1, [1]))]]
set_option maxRecDepth 100000 in
theorem sx_q_X12_isFast : sx_t_X12_isFast = sx_cT sx_d_X12_isFast := rfl
set_option maxRecDepth 100000 in
theorem sx_y_X12_isFast : sx_yOk 91 sx_t_X12_isFast := sx_yok0 (by decide +kernel) sx_q_X12_isFast (by decide +kernel)
def sx_d_X12_isGood : List (List (Nat × sx_I)) := [[(0, (.aload_n 0, 1, [])), (1, (.getfield 170, 3, [12, 4, 0, 1809])), (4, (.ifCond .ne 7, 3, [11])), (7, (.iconst 1, 1, [1])), (8, (.goto 4, 3, [12])), (12, (.ireturn, 1, [1]))]]
set_option maxRecDepth 100000 in
theorem sx_q_X12_isGood : sx_t_X12_isGood = sx_cT sx_d_X12_isGood := rfl
set_option maxRecDepth 100000 in
theorem sx_y_X12_isGood : sx_yOk 92 sx_t_X12_isGood := sx_yok0 (by decide +kernel) sx_q_X12_isGood (by decide +kernel)
def sx_d_X12_isHalf : List (List (Nat × sx_I)) := [[(0, (.iload_n 1, 1, [])), (1, (.iconst 0, 1, [0])), (2, (.aload_n 0, 1, [])), (3, (.getfield 20, 3, [12, 11, 0, 1816])), (6, (.aload_n 0, 1, [])), (7, (.getfield 277, 3, [12, 39, 0, 1844])), (10, (.iaload, 1, [])), (11, (.iconst 1, 1, [1])), (12, (.isub, 1, [])), (13, (.invokestatic 379, 3, [2, 94, 3, 0, 2212]))], [(0, (.ireturn, 1, [1]))]]
set_option maxRecDepth 100000 in
theorem sx_q_X12_isHalf : sx_t_X12_isHalf = sx_cT sx_d_X12_isHalf := rfl
set_option maxRecDepth 100000 in
theorem sx_y_X12_isHalf : sx_yOk 93 sx_t_X12_isHalf := sx_yok0 (by decide +kernel) sx_q_X12_isHalf (by decide +kernel)
def sx_d_X12_isIn : List (List (Nat × sx_I)) := [[(0, (.iload_n 0, 1, [])), (1, (.iload_n 1, 1, [])), (2, (.if_icmp .lt 12, 3, [14])), (5, (.iload_n 0, 1, [])), (6, (.iload_n 2, 1, [])), (7, (.if_icmp .gt 7, 3, [14])), (10, (.iconst 1, 1, [1])), (11, (.goto 4, 3, [15])), (14, (.iconst 0, 1, [0])), (15, (.ireturn, 1, [1]))]]
set_option maxRecDepth 100000 in
theorem sx_q_X12_isIn : sx_t_X12_isIn = sx_cT sx_d_X12_isIn := rfl
set_option maxRecDepth 100000 in
theorem sx_y_X12_isIn : sx_yOk 94 sx_t_X12_isIn := sx_yok0 (by decide +kernel) sx_q_X12_isIn (by decide +kernel)
def sx_d_X12_isPerson : List (List (Nat × sx_I)) := [[(0, (.iload_n 1, 1, [])), (1, (.iconst 0, 1, [0])), (2, (.aload_n 0, 1, [])), (3, (.getfield 27, 3, [12, 13, 0, 1818])), (6, (.aload_n 0, 1, [])), (7, (.getfield 277, 3, [12, 39, 0, 1844])), (10, (.iaload, 1, [])), (11, (.iconst 1, 1, [1])), (12, (.isub, 1, [])), (13, (.invokestatic 379, 3, [2, 94, 3, 0, 2212]))], [(0, (.ireturn, 1, [1]))]]
set_option maxRecDepth 100000 in
theorem sx_q_X12_isPerson : sx_t_X12_isPerson = sx_cT sx_d_X12_isPerson := rfl
set_option maxRecDepth 100000 in
theorem sx_y_X12_isPerson : sx_yOk 95 sx_t_X12_isPerson := sx_yok0 (by decide +kernel) sx_q_X12_isPerson (by decide +kernel)
def sx_d_X12_isStranger : List (List (Nat × sx_I)) := [[(0, (.iconst 0, 1, [0])), (1, (.istore_n 3, 1, [])), (2, (.iload_n 3, 1, [])), (3, (.aload_n 0, 1, [])), (4, (.getfield 395, 3, [12, 71, 0, 1876])), (7, (.if_icmp .ge 103, 3, [110]))], [], [], [], [], [], [(14, (.iconst 1, 1, [1])), (15, (.ireturn, 1, [1]))]]
set_option maxRecDepth 100000 in
theorem sx_q_X12_isStranger : sx_t_X12_isStranger = sx_cT sx_d_X12_isStranger := rfl
set_option maxRecDepth 100000 in
theorem sx_y_X12_isStranger : sx_yOk 96 sx_t_X12_isStranger := sx_yok0 (by decide +kernel) sx_q_X12_isStranger (by decide +kernel)
def sx_d_X12_joy : List (List (Nat × sx_I)) := [[(0, (.aload_n 0, 1, [])), (1, (.iload_n 1, 1, [])), (2, (.invokevirtual 440, 3, [2, 95, 2, 0, 2231])), (5, (.ifCond .eq 48, 3, [53]))], [], [], [(5, (.ldc_w 452, 3, [3294967296, 2306])), (8, (.ireturn, 1, []))]]
set_option maxRecDepth 100000 in
theorem sx_q_X12_joy : sx_t_X12_joy = sx_cT sx_d_X12_joy := rfl
set_option maxRecDepth 100000 in
theorem sx_y_X12_joy : sx_yOk 97 sx_t_X12_joy := sx_yok0 (by decide +kernel) sx_q_X12_joy (by decide +kernel)
def sx_d_X12_keepAct : List (List (Nat × sx_I)) := [[(0, (.aload_n 0, 1, [])), (1, (.getfield 386, 3, [12, 51, 0, 1856])), (4, (.bipush 40, 2, [40])), (6, (.if_icmp .ne 43, 3, [49]))], [], [], [(1, (.iconst 0, 1, [0])), (2, (.istore_n 1, 1, [])), (3, (.iload_n 1, 1, [])), (4, (.bipush 119, 2, [119])), (6, (.if_icmp .ge 29, 3, [83])), (9, (.aload_n 0, 1, [])), (10, (.getfield 110, 3, [12, 50, 0, 1855])), (13, (.bipush 119, 2, [119])), (15, (.aload_n 0, 1, []))], [(0, (.getfield 386, 3, [12, 51, 0, 1856])), (3, (.imul, 1, [])), (4, (.iload_n 1, 1, [])), (5, (.iadd, 1, [])), (6, (.aload_n 0, 1, [])), (7, (.getfield 107, 3, [12, 49, 0, 1854])), (10, (.iload_n 1, 1, [])), (11, (.iaload, 1, [])), (12, (.iastore, 1, [])), (13, (.iinc 1 1, 3, [1]))], [(0, (.goto (-29), 3, [51])), (3, (.aload_n 0, 1, [])), (4, (.dup, 1, [])), (5, (.getfield 386, 3, [12, 51, 0, 1856])), (8, (.iconst 1, 1, [1])), (9, (.iadd, 1, [])), (10, (.putfield 386, 3, [12, 51, 0, 0, 0, 1856])), (13, (.aload_n 0, 1, [])), (14, (.iconst 0, 1, [0])), (15, (.putfield 389, 3, [12, 52, 0, 0, 0, 1857]))], [(2, (.return_, 1, []))]]
set_option maxRecDepth 100000 in
theorem sx_q_X12_keepAct : sx_t_X12_keepAct = sx_cT sx_d_X12_keepAct := rfl
set_option maxRecDepth 100000 in
theorem sx_y_X12_keepAct : sx_yOk 98 sx_t_X12_keepAct := sx_yok0 (by decide +kernel) sx_q_X12_keepAct (by decide +kernel)
end
section
/-! data of methods, 5 -/
def sx_d_X12_keeps : List (List (Nat × sx_I)) := [[(0, (.aload_n 0, 1, [])), (1, (.iload_n 1, 1, [])), (2, (.iload_n 3, 1, [])), (3, (.invokevirtual 496, 3, [2, 66, 3, 0, 2413])), (6, (.ifCond .eq 31, 3, [37]))], [], [(5, (.ldc_w 452, 3, [3294967296, 2306])), (8, (.ireturn, 1, []))]]
set_option maxRecDepth 100000 in
theorem sx_q_X12_keeps : sx_t_X12_keeps = sx_cT sx_d_X12_keeps := rfl
set_option maxRecDepth 100000 in
theorem sx_y_X12_keeps : sx_yOk 99 sx_t_X12_keeps := sx_yok0 (by decide +kernel) sx_q_X12_keeps (by decide +kernel)
def sx_d_X12_later : List (List (Nat × sx_I)) := [[(0, (.iload_n 1, 1, [])), (1, (.iconst 0, 1, [0])), (2, (.sipush 1000, 3, [1000])), (5, (.invokestatic 379, 3, [2, 94, 3, 0, 2212])), (8, (.ifCond .eq 15, 3, [23])), (11, (.aload_n 0, 1, [])), (12, (.getfield 550, 3, [12, 72, 0, 1877])), (15, (.iload_n 1, 1, []))], [(0, (.iadd, 1, [])), (1, (.ldc_w 556, 3, [100000, 2521])), (4, (.if_icmp .le 5, 3, [25])), (7, (.iconst (-1), 1, [4294967295])), (8, (.ireturn, 1, [])), (9, (.aload_n 0, 1, [])), (10, (.dup, 1, [])), (11, (.getfield 550, 3, [12, 72, 0, 1877])), (14, (.iload_n 1, 1, [])), (15, (.iadd, 1, []))], [(0, (.putfield 550, 3, [12, 72, 0, 0, 0, 1877])), (3, (.aload_n 0, 1, [])), (4, (.getfield 550, 3, [12, 72, 0, 1877])), (7, (.ireturn, 1, []))]]
set_option maxRecDepth 100000 in
theorem sx_q_X12_later : sx_t_X12_later = sx_cT sx_d_X12_later := rfl
set_option maxRecDepth 100000 in
theorem sx_y_X12_later : sx_yOk 100 sx_t_X12_later := sx_yok0 (by decide +kernel) sx_q_X12_later (by decide +kernel)
def sx_d_X12_lies : List (List (Nat × sx_I)) := [[(0, (.iload_n 1, 1, [])), (1, (.iconst 0, 1, [0])), (2, (.aload_n 0, 1, [])), (3, (.getfield 398, 3, [12, 56, 0, 1861])), (6, (.iconst 1, 1, [1])), (7, (.isub, 1, [])), (8, (.invokestatic 379, 3, [2, 94, 3, 0, 2212])), (11, (.ifCond .eq 12, 3, [23]))], [(7, (.iconst (-1), 1, [4294967295])), (8, (.ireturn, 1, []))]]
set_option maxRecDepth 100000 in
theorem sx_q_X12_lies : sx_t_X12_lies = sx_cT sx_d_X12_lies := rfl
set_option maxRecDepth 100000 in
theorem sx_y_X12_lies : sx_yOk 101 sx_t_X12_lies := sx_yok0 (by decide +kernel) sx_q_X12_lies (by decide +kernel)
def sx_d_X12_likedInAll : List (List (Nat × sx_I)) := [[(0, (.iconst 0, 1, [0])), (1, (.istore_n 1, 1, [])), (2, (.iconst 0, 1, [0])), (3, (.istore_n 2, 1, [])), (4, (.iload_n 2, 1, [])), (5, (.aload_n 0, 1, [])), (6, (.getfield 20, 3, [12, 11, 0, 1816])), (9, (.aload_n 0, 1, [])), (10, (.getfield 277, 3, [12, 39, 0, 1844])), (13, (.iaload, 1, [])), (14, (.if_icmp .ge 29, 3, [43]))], [], [(11, (.iload_n 1, 1, [])), (12, (.ireturn, 1, []))]]
set_option maxRecDepth 100000 in
theorem sx_q_X12_likedInAll : sx_t_X12_likedInAll = sx_cT sx_d_X12_likedInAll := rfl
set_option maxRecDepth 100000 in
theorem sx_y_X12_likedInAll : sx_yOk 102 sx_t_X12_likedInAll := sx_yok0 (by decide +kernel) sx_q_X12_likedInAll (by decide +kernel)
def sx_d_X12_likes : List (List (Nat × sx_I)) := [[(0, (.aload_n 0, 1, [])), (1, (.iload_n 1, 1, [])), (2, (.invokevirtual 383, 3, [2, 93, 2, 0, 2208])), (5, (.ifCond .eq 25, 3, [30]))], [(14, (.iconst (-1), 1, [4294967295])), (15, (.ireturn, 1, []))]]
set_option maxRecDepth 100000 in
theorem sx_q_X12_likes : sx_t_X12_likes = sx_cT sx_d_X12_likes := rfl
set_option maxRecDepth 100000 in
theorem sx_y_X12_likes : sx_yOk 103 sx_t_X12_likes := sx_yok0 (by decide +kernel) sx_q_X12_likes (by decide +kernel)
def sx_d_X12_mostVotes : List (List (Nat × sx_I)) := [[(0, (.iconst 0, 1, [0])), (1, (.istore_n 1, 1, [])), (2, (.iconst 1, 1, [1])), (3, (.istore_n 2, 1, [])), (4, (.iload_n 2, 1, [])), (5, (.iconst 3, 1, [3])), (6, (.if_icmp .ge 26, 3, [32])), (9, (.aload_n 0, 1, [])), (10, (.getfield 134, 3, [12, 64, 0, 1869])), (13, (.iload_n 2, 1, [])), (14, (.iaload, 1, [])), (15, (.aload_n 0, 1, []))], [(0, (.getfield 134, 3, [12, 64, 0, 1869])), (3, (.iload_n 1, 1, [])), (4, (.iaload, 1, [])), (5, (.if_icmp .le 5, 3, [26])), (10, (.iinc 2 1, 3, [1])), (13, (.goto (-25), 3, [4]))], [(0, (.aload_n 0, 1, [])), (1, (.getfield 134, 3, [12, 64, 0, 1869])), (4, (.iload_n 1, 1, [])), (5, (.iaload, 1, [])), (6, (.ifCond .ne 7, 3, [45])), (9, (.iconst (-1), 1, [4294967295])), (10, (.goto 4, 3, [46])), (14, (.ireturn, 1, []))]]
set_option maxRecDepth 100000 in
theorem sx_q_X12_mostVotes : sx_t_X12_mostVotes = sx_cT sx_d_X12_mostVotes := rfl
set_option maxRecDepth 100000 in
theorem sx_y_X12_mostVotes : sx_yOk 104 sx_t_X12_mostVotes := sx_yok0 (by decide +kernel) sx_q_X12_mostVotes (by decide +kernel)
def sx_d_X12_next : List (List (Nat × sx_I)) := [[(0, (.aload_n 0, 1, [])), (1, (.iload_n 1, 1, [])), (2, (.invokevirtual 449, 3, [2, 90, 2, 0, 2302])), (5, (.ifCond .eq 12, 3, [17]))], [(1, (.iconst (-1), 1, [4294967295])), (2, (.ireturn, 1, []))]]
set_option maxRecDepth 100000 in
theorem sx_q_X12_next : sx_t_X12_next = sx_cT sx_d_X12_next := rfl
set_option maxRecDepth 100000 in
theorem sx_y_X12_next : sx_yOk 105 sx_t_X12_next := sx_yok0 (by decide +kernel) sx_q_X12_next (by decide +kernel)
def sx_d_X12_pairing : List (List (Nat × sx_I)) := [[(0, (.aload_n 0, 1, [])), (1, (.iconst 0, 1, [0])), (2, (.putfield 398, 3, [12, 56, 0, 0, 0, 1861])), (5, (.aload_n 0, 1, [])), (6, (.iload_n 1, 1, [])), (7, (.ifCond .ne 7, 3, [14])), (10, (.iconst 1, 1, [1])), (11, (.goto 4, 3, [15])), (14, (.iconst 0, 1, [0])), (15, (.invokevirtual 535, 3, [2, 83, 2, 0, 2441]))], [(2, (.aload_n 0, 1, [])), (3, (.getfield 526, 3, [12, 63, 0, 1868])), (6, (.ldc_w 452, 3, [3294967296, 2306])), (9, (.if_icmp .ne 7, 3, [32]))], [(0, (.iconst 0, 1, [0])), (1, (.istore_n 2, 1, [])), (2, (.iload_n 2, 1, [])), (3, (.aload_n 0, 1, [])), (4, (.getfield 20, 3, [12, 11, 0, 1816])), (7, (.aload_n 0, 1, [])), (8, (.getfield 277, 3, [12, 39, 0, 1844])), (11, (.iaload, 1, [])), (12, (.if_icmp .ge 35, 3, [79]))], [], [(15, (.aload_n 0, 1, []))], [(0, (.aload_n 0, 1, [])), (1, (.getfield 20, 3, [12, 11, 0, 1816])), (4, (.aload_n 0, 1, [])), (5, (.getfield 277, 3, [12, 39, 0, 1844])), (8, (.iaload, 1, [])), (9, (.putfield 398, 3, [12, 56, 0, 0, 0, 1861])), (12, (.aload_n 0, 1, [])), (13, (.getfield 526, 3, [12, 63, 0, 1868]))], [(0, (.ireturn, 1, []))]]
set_option maxRecDepth 100000 in
theorem sx_q_X12_pairing : sx_t_X12_pairing = sx_cT sx_d_X12_pairing := rfl
set_option maxRecDepth 100000 in
theorem sx_y_X12_pairing : sx_yOk 106 sx_t_X12_pairing := sx_yok0 (by decide +kernel) sx_q_X12_pairing (by decide +kernel)
def sx_d_X12_person : List (List (Nat × sx_I)) := [[(0, (.aload_n 0, 1, [])), (1, (.iload_n 1, 1, [])), (2, (.invokevirtual 440, 3, [2, 95, 2, 0, 2231])), (5, (.ifCond .ne 5, 3, [10])), (8, (.iconst (-1), 1, [4294967295])), (9, (.ireturn, 1, []))]]
set_option maxRecDepth 100000 in
theorem sx_q_X12_person : sx_t_X12_person = sx_cT sx_d_X12_person := rfl
set_option maxRecDepth 100000 in
theorem sx_y_X12_person : sx_yOk 107 sx_t_X12_person := sx_yok0 (by decide +kernel) sx_q_X12_person (by decide +kernel)
def sx_d_X12_played : List (List (Nat × sx_I)) := [[(0, (.aload_n 0, 1, [])), (1, (.iconst 0, 1, [0])), (2, (.putfield 398, 3, [12, 56, 0, 0, 0, 1861])), (5, (.aload_n 0, 1, [])), (6, (.iload_n 1, 1, [])), (7, (.invokevirtual 440, 3, [2, 95, 2, 0, 2231])), (10, (.ifCond .eq 19, 3, [29]))], [(13, (.ldc_w 452, 3, [3294967296, 2306]))], [(0, (.ireturn, 1, []))]]
set_option maxRecDepth 100000 in
theorem sx_q_X12_played : sx_t_X12_played = sx_cT sx_d_X12_played := rfl
set_option maxRecDepth 100000 in
theorem sx_y_X12_played : sx_yOk 108 sx_t_X12_played := sx_yok0 (by decide +kernel) sx_q_X12_played (by decide +kernel)
def sx_d_X12_popular : List (List (Nat × sx_I)) := [[(0, (.aload_n 0, 1, [])), (1, (.invokevirtual 538, 3, [2, 70, 1, 0, 2484])), (4, (.iconst 0, 1, [0])), (5, (.istore_n 1, 1, [])), (6, (.iload_n 1, 1, [])), (7, (.aload_n 0, 1, [])), (8, (.getfield 20, 3, [12, 11, 0, 1816])), (11, (.aload_n 0, 1, [])), (12, (.getfield 277, 3, [12, 39, 0, 1844])), (15, (.iaload, 1, []))], [(0, (.if_icmp .ge 40, 3, [56]))], [], [(8, (.aload_n 0, 1, [])), (9, (.invokevirtual 541, 3, [2, 104, 1, 0, 2488])), (12, (.ireturn, 1, []))]]
set_option maxRecDepth 100000 in
theorem sx_q_X12_popular : sx_t_X12_popular = sx_cT sx_d_X12_popular := rfl
set_option maxRecDepth 100000 in
theorem sx_y_X12_popular : sx_yOk 109 sx_t_X12_popular := sx_yok0 (by decide +kernel) sx_q_X12_popular (by decide +kernel)
def sx_d_X12_prank : List (List (Nat × sx_I)) := [[(0, (.aload_n 0, 1, [])), (1, (.getfield 27, 3, [12, 13, 0, 1818])), (4, (.aload_n 0, 1, [])), (5, (.getfield 277, 3, [12, 39, 0, 1844])), (8, (.iaload, 1, [])), (9, (.ifCond .ne 5, 3, [14])), (12, (.iconst (-1), 1, [4294967295])), (13, (.ireturn, 1, []))]]
set_option maxRecDepth 100000 in
theorem sx_q_X12_prank : sx_t_X12_prank = sx_cT sx_d_X12_prank := rfl
set_option maxRecDepth 100000 in
theorem sx_y_X12_prank : sx_yOk 110 sx_t_X12_prank := sx_yok0 (by decide +kernel) sx_q_X12_prank (by decide +kernel)
def sx_d_X12_record : List (List (Nat × sx_I)) := [[(0, (.aload_n 0, 1, [])), (1, (.iload_n 1, 1, [])), (2, (.invokevirtual 383, 3, [2, 93, 2, 0, 2208])), (5, (.ifCond .eq 16, 3, [21]))], [(5, (.ldc_w 452, 3, [3294967296, 2306])), (8, (.ireturn, 1, []))]]
set_option maxRecDepth 100000 in
theorem sx_q_X12_record : sx_t_X12_record = sx_cT sx_d_X12_record := rfl
set_option maxRecDepth 100000 in
theorem sx_y_X12_record : sx_yOk 111 sx_t_X12_record := sx_yok0 (by decide +kernel) sx_q_X12_record (by decide +kernel)
def sx_d_X12_redo : List (List (Nat × sx_I)) := [[(0, (.aload_n 0, 1, [])), (1, (.getfield 389, 3, [12, 52, 0, 1857])), (4, (.ifCond .ne 5, 3, [9])), (7, (.iconst 0, 1, [0])), (8, (.ireturn, 1, [1]))]]
set_option maxRecDepth 100000 in
theorem sx_q_X12_redo : sx_t_X12_redo = sx_cT sx_d_X12_redo := rfl
set_option maxRecDepth 100000 in
theorem sx_y_X12_redo : sx_yOk 112 sx_t_X12_redo := sx_yok0 (by decide +kernel) sx_q_X12_redo (by decide +kernel)
def sx_d_X12_register : List (List (Nat × sx_I)) := [[(0, (.aload_n 0, 1, [])), (1, (.iconst 0, 1, [0])), (2, (.putfield 170, 3, [12, 4, 0, 0, 0, 1809])), (5, (.aload_n 0, 1, [])), (6, (.iconst (-1), 1, [4294967295])), (7, (.putfield 16, 3, [12, 5, 0, 0, 0, 1810])), (10, (.aload_n 0, 1, [])), (11, (.aload_n 0, 1, [])), (12, (.getfield 274, 3, [12, 2, 0, 1807])), (15, (.putfield 167, 3, [12, 3, 0, 0, 0, 1808]))], [(2, (.iconst 0, 1, [0])), (3, (.istore_n 1, 1, [])), (4, (.iload_n 1, 1, [])), (5, (.aload_n 0, 1, [])), (6, (.getfield 167, 3, [12, 3, 0, 1808])), (9, (.if_icmp .ge 21, 3, [46]))], [(14, (.aload_n 0, 1, [])), (15, (.iconst 0, 1, [0]))], [(0, (.putfield 274, 3, [12, 2, 0, 0, 0, 1807])), (3, (.aload_n 0, 1, [])), (4, (.iconst 0, 1, [0])), (5, (.putfield 209, 3, [12, 7, 0, 0, 0, 1812])), (8, (.aload_n 0, 1, [])), (9, (.iconst 1, 1, [1])), (10, (.aload_n 0, 1, [])), (11, (.getfield 277, 3, [12, 39, 0, 1844])), (14, (.isub, 1, [])), (15, (.putfield 268, 3, [12, 40, 0, 0, 0, 1845]))], [(2, (.aload_n 0, 1, [])), (3, (.invokevirtual 161, 3, [2, 69, 1, 0, 1797])), (6, (.aload_n 0, 1, [])), (7, (.invokevirtual 251, 3, [2, 82, 1, 0, 2050])), (10, (.aload_n 0, 1, [])), (11, (.invokevirtual 247, 3, [2, 92, 1, 0, 2088])), (14, (.ifCond .eq 17, 3, [95]))], [(1, (.aload_n 0, 1, [])), (2, (.getfield 219, 3, [12, 8, 0, 1813])), (5, (.ifCond .eq 10, 3, [95])), (15, (.aload_n 0, 1, []))], [(0, (.invokevirtual 247, 3, [2, 92, 1, 0, 2088])), (3, (.ifCond .ne 5, 3, [104])), (8, (.aload_n 0, 1, [])), (9, (.aload_n 0, 1, [])), (10, (.getfield 268, 3, [12, 40, 0, 1845])), (13, (.putfield 277, 3, [12, 39, 0, 0, 0, 1844]))], [(0, (.aload_n 0, 1, [])), (1, (.invokevirtual 164, 3, [2, 118, 1, 0, 1801])), (4, (.aload_n 0, 1, [])), (5, (.getfield 20, 3, [12, 11, 0, 1816])), (8, (.aload_n 0, 1, [])), (9, (.getfield 277, 3, [12, 39, 0, 1844])), (12, (.iaload, 1, [])), (13, (.ireturn, 1, []))]]
set_option maxRecDepth 100000 in
theorem sx_q_X12_register : sx_t_X12_register = sx_cT sx_d_X12_register := rfl
set_option maxRecDepth 100000 in
theorem sx_y_X12_register : sx_yOk 113 sx_t_X12_register := sx_yok0 (by decide +kernel) sx_q_X12_register (by decide +kernel)
def sx_d_X12_shown : List (List (Nat × sx_I)) := [[(0, (.iload_n 1, 1, [])), (1, (.iconst 0, 1, [0])), (2, (.bipush 99, 2, [99])), (4, (.invokestatic 379, 3, [2, 94, 3, 0, 2212])), (7, (.ifCond .eq 22, 3, [29])), (10, (.iload_n 2, 1, [])), (11, (.iconst 0, 1, [0])), (12, (.bipush 9, 2, [9])), (14, (.invokestatic 379, 3, [2, 94, 3, 0, 2212]))], [(1, (.ifCond .eq 12, 3, [29])), (4, (.aload_n 0, 1, [])), (5, (.getfield 395, 3, [12, 71, 0, 1876])), (8, (.bipush 30, 2, [30])), (10, (.if_icmp .ne 5, 3, [31])), (13, (.iconst (-1), 1, [4294967295])), (14, (.ireturn, 1, [])), (15, (.aload_n 0, 1, []))], [(0, (.iload_n 1, 1, [])), (1, (.iconst (-1), 1, [4294967295])), (2, (.iload_n 2, 1, [])), (3, (.invokevirtual 553, 3, [2, 61, 4, 0, 2505])), (6, (.ireturn, 1, []))]]
set_option maxRecDepth 100000 in
theorem sx_q_X12_shown : sx_t_X12_shown = sx_cT sx_d_X12_shown := rfl
set_option maxRecDepth 100000 in
theorem sx_y_X12_shown : sx_yOk 114 sx_t_X12_shown := sx_yok0 (by decide +kernel) sx_q_X12_shown (by decide +kernel)
def sx_d_X12_sight : List (List (Nat × sx_I)) := [[(0, (.iload_n 1, 1, [])), (1, (.iconst 0, 1, [0])), (2, (.bipush 99, 2, [99])), (4, (.invokestatic 379, 3, [2, 94, 3, 0, 2212])), (7, (.ifCond .eq 37, 3, [44])), (10, (.aload_n 0, 1, [])), (11, (.iload_n 2, 1, [])), (12, (.invokevirtual 383, 3, [2, 93, 2, 0, 2208])), (15, (.ifCond .eq 29, 3, [44]))], [], [(12, (.iconst (-1), 1, [4294967295])), (13, (.ireturn, 1, []))]]
set_option maxRecDepth 100000 in
theorem sx_q_X12_sight : sx_t_X12_sight = sx_cT sx_d_X12_sight := rfl
set_option maxRecDepth 100000 in
theorem sx_y_X12_sight : sx_yOk 115 sx_t_X12_sight := sx_yok0 (by decide +kernel) sx_q_X12_sight (by decide +kernel)
def sx_d_X12_sign : List (List (Nat × sx_I)) := [[(0, (.iload_n 1, 1, [])), (1, (.aload_n 0, 1, [])), (2, (.getfield 167, 3, [12, 3, 0, 1808])), (5, (.if_icmp .ge 16, 3, [21]))], [(5, (.iconst 0, 1, [0])), (6, (.ireturn, 1, []))]]
set_option maxRecDepth 100000 in
theorem sx_q_X12_sign : sx_t_X12_sign = sx_cT sx_d_X12_sign := rfl
set_option maxRecDepth 100000 in
theorem sx_y_X12_sign : sx_yOk 116 sx_t_X12_sign := sx_yok0 (by decide +kernel) sx_q_X12_sign (by decide +kernel)
def sx_d_X12_skillsSeen : List (List (Nat × sx_I)) := [[(0, (.iconst 0, 1, [0])), (1, (.istore_n 2, 1, [])), (2, (.iconst 0, 1, [0])), (3, (.istore_n 3, 1, [])), (4, (.iload_n 3, 1, [])), (5, (.aload_n 0, 1, [])), (6, (.getfield 395, 3, [12, 71, 0, 1876])), (9, (.if_icmp .ge 38, 3, [47]))], [], [(15, (.iload_n 2, 1, []))], [(0, (.ifCond .ne 7, 3, [55])), (3, (.iconst 1, 1, [1])), (4, (.goto 7, 3, [59])), (11, (.ireturn, 1, []))]]
set_option maxRecDepth 100000 in
theorem sx_q_X12_skillsSeen : sx_t_X12_skillsSeen = sx_cT sx_d_X12_skillsSeen := rfl
set_option maxRecDepth 100000 in
theorem sx_y_X12_skillsSeen : sx_yOk 117 sx_t_X12_skillsSeen := sx_yok0 (by decide +kernel) sx_q_X12_skillsSeen (by decide +kernel)
def sx_d_X12_startAnew : List (List (Nat × sx_I)) := [[(0, (.iconst 0, 1, [0])), (1, (.istore_n 1, 1, [])), (2, (.iload_n 1, 1, [])), (3, (.bipush 119, 2, [119])), (5, (.if_icmp .ge 16, 3, [21])), (8, (.aload_n 0, 1, [])), (9, (.getfield 107, 3, [12, 49, 0, 1854])), (12, (.iload_n 1, 1, [])), (13, (.iconst 0, 1, [0])), (14, (.iastore, 1, [])), (15, (.iinc 1 1, 3, [1]))], [(2, (.goto (-16), 3, [2])), (5, (.aload_n 0, 1, [])), (6, (.getfield 107, 3, [12, 49, 0, 1854])), (9, (.iconst 1, 1, [1])), (10, (.aload_n 0, 1, [])), (11, (.getfield 36, 3, [12, 16, 0, 1821])), (14, (.aload_n 0, 1, [])), (15, (.getfield 277, 3, [12, 39, 0, 1844]))], [(2, (.iaload, 1, [])), (3, (.iastore, 1, [])), (4, (.aload_n 0, 1, [])), (5, (.getfield 107, 3, [12, 49, 0, 1854])), (8, (.iconst 2, 1, [2])), (9, (.iconst 1, 1, [1])), (10, (.aload_n 0, 1, [])), (11, (.getfield 20, 3, [12, 11, 0, 1816])), (14, (.aload_n 0, 1, [])), (15, (.getfield 277, 3, [12, 39, 0, 1844]))], [(2, (.iaload, 1, [])), (3, (.ishl, 1, [])), (4, (.iconst 1, 1, [1])), (5, (.isub, 1, [])), (6, (.iastore, 1, [])), (7, (.iconst 0, 1, [0])), (8, (.istore_n 1, 1, [])), (9, (.iload_n 1, 1, [])), (10, (.bipush 56, 2, [56])), (12, (.if_icmp .ge 32, 3, [92])), (15, (.aload_n 0, 1, []))], [(0, (.getfield 107, 3, [12, 49, 0, 1854])), (3, (.bipush 7, 2, [7])), (5, (.iload_n 1, 1, [])), (6, (.iadd, 1, [])), (7, (.aload_n 0, 1, [])), (8, (.getfield 63, 3, [12, 25, 0, 1830])), (11, (.bipush 56, 2, [56])), (13, (.aload_n 0, 1, [])), (14, (.getfield 277, 3, [12, 39, 0, 1844]))], [(1, (.imul, 1, [])), (2, (.iload_n 1, 1, [])), (3, (.iadd, 1, [])), (4, (.iaload, 1, [])), (5, (.iastore, 1, [])), (6, (.iinc 1 1, 3, [1])), (9, (.goto (-32), 3, [57])), (12, (.aload_n 0, 1, [])), (13, (.iconst 0, 1, [0])), (14, (.putfield 386, 3, [12, 51, 0, 0, 0, 1856]))], [(1, (.aload_n 0, 1, [])), (2, (.iconst 0, 1, [0])), (3, (.putfield 389, 3, [12, 52, 0, 0, 0, 1857])), (6, (.aload_n 0, 1, [])), (7, (.iconst 0, 1, [0])), (8, (.putfield 392, 3, [12, 58, 0, 0, 0, 1863])), (11, (.aload_n 0, 1, [])), (12, (.iconst 0, 1, [0])), (13, (.putfield 395, 3, [12, 71, 0, 0, 0, 1876]))], [(0, (.aload_n 0, 1, [])), (1, (.iconst 0, 1, [0])), (2, (.putfield 398, 3, [12, 56, 0, 0, 0, 1861])), (5, (.iconst 0, 1, [0])), (6, (.istore_n 1, 1, [])), (7, (.iload_n 1, 1, [])), (8, (.iconst 3, 1, [3])), (9, (.if_icmp .ge 16, 3, [137])), (12, (.aload_n 0, 1, [])), (13, (.getfield 158, 3, [12, 79, 0, 1884]))], [(0, (.iload_n 1, 1, [])), (1, (.iconst 0, 1, [0])), (2, (.bastore, 1, [2])), (3, (.iinc 1 1, 3, [1])), (6, (.goto (-15), 3, [119])), (9, (.return_, 1, []))]]
set_option maxRecDepth 100000 in
theorem sx_q_X12_startAnew : sx_t_X12_startAnew = sx_cT sx_d_X12_startAnew := rfl
set_option maxRecDepth 100000 in
theorem sx_y_X12_startAnew : sx_yOk 118 sx_t_X12_startAnew := sx_yok0 (by decide +kernel) sx_q_X12_startAnew (by decide +kernel)
def sx_d_X12_stolen : List (List (Nat × sx_I)) := [[(0, (.iload_n 1, 1, [])), (1, (.iconst 0, 1, [0])), (2, (.bipush 99, 2, [99])), (4, (.invokestatic 379, 3, [2, 94, 3, 0, 2212])), (7, (.ifCond .ne 5, 3, [12])), (10, (.iconst (-1), 1, [4294967295])), (11, (.ireturn, 1, [])), (12, (.aload_n 0, 1, [])), (13, (.invokevirtual 547, 3, [2, 109, 1, 0, 2500]))], [(0, (.istore_n 2, 1, [])), (1, (.iconst 0, 1, [0])), (2, (.istore_n 3, 1, [])), (3, (.iconst 0, 1, [0])), (4, (.istore 4, 2, [])), (6, (.iload 4, 2, [])), (8, (.iload_n 1, 1, [])), (9, (.if_icmp .ge 43, 3, [68])), (12, (.aload_n 0, 1, [])), (13, (.aload_n 0, 1, [])), (14, (.getfield 107, 3, [12, 49, 0, 1854]))], [(1, (.iconst 0, 1, [0])), (2, (.iaload, 1, [])), (3, (.iload 4, 2, [])), (5, (.iadd, 1, [])), (6, (.invokevirtual 544, 3, [2, 75, 2, 0, 2480])), (9, (.istore 5, 2, [])), (11, (.iload_n 3, 1, [])), (12, (.iload 5, 2, [])), (14, (.ifCond .lt 9, 3, [55]))], [(7, (.iconst 1, 1, [1])), (8, (.goto 4, 3, [60])), (12, (.iadd, 1, [])), (13, (.istore_n 3, 1, [])), (14, (.iinc 4 1, 3, [1]))], [(1, (.goto (-43), 3, [22])), (4, (.iload_n 3, 1, [])), (5, (.ireturn, 1, []))]]
set_option maxRecDepth 100000 in
theorem sx_q_X12_stolen : sx_t_X12_stolen = sx_cT sx_d_X12_stolen := rfl
set_option maxRecDepth 100000 in
theorem sx_y_X12_stolen : sx_yOk 119 sx_t_X12_stolen := sx_yok0 (by decide +kernel) sx_q_X12_stolen (by decide +kernel)
end
section
/-! data of methods, 6 -/
def sx_d_X12_stranger : List (List (Nat × sx_I)) := [[(0, (.iload_n 1, 1, [])), (1, (.iconst 0, 1, [0])), (2, (.iconst 1, 1, [1])), (3, (.invokestatic 379, 3, [2, 94, 3, 0, 2212])), (6, (.ifCond .ne 5, 3, [11])), (9, (.iconst (-1), 1, [4294967295])), (10, (.ireturn, 1, [])), (11, (.iconst 1, 1, [1])), (12, (.istore_n 3, 1, [])), (13, (.iload_n 3, 1, [])), (14, (.bipush 9, 2, [9]))], [(0, (.if_icmp .gt 32, 3, [48])), (3, (.aload_n 0, 1, [])), (4, (.iload_n 3, 1, [])), (5, (.iload_n 2, 1, [])), (6, (.invokevirtual 589, 3, [2, 96, 3, 0, 2554])), (9, (.ifCond .eq 17, 3, [42])), (12, (.iload_n 1, 1, [])), (13, (.ifCond .ne 11, 3, [40]))], [(0, (.aload_n 0, 1, [])), (1, (.iload_n 2, 1, [])), (2, (.invokevirtual 592, 3, [2, 117, 2, 0, 2558])), (5, (.goto 4, 3, [41])), (8, (.iload_n 3, 1, [])), (9, (.ireturn, 1, []))]]
set_option maxRecDepth 100000 in
theorem sx_q_X12_stranger : sx_t_X12_stranger = sx_cT sx_d_X12_stranger := rfl
set_option maxRecDepth 100000 in
theorem sx_y_X12_stranger : sx_yOk 120 sx_t_X12_stranger := sx_yok0 (by decide +kernel) sx_q_X12_stranger (by decide +kernel)
def sx_d_X12_takes : List (List (Nat × sx_I)) := [[(0, (.aload_n 0, 1, [])), (1, (.invokevirtual 529, 3, [2, 91, 1, 0, 2460])), (4, (.istore_n 3, 1, [])), (5, (.aload_n 0, 1, [])), (6, (.dup, 1, [])), (7, (.getfield 512, 3, [12, 61, 0, 1866])), (10, (.iload_n 3, 1, [])), (11, (.ifCond .eq 7, 3, [18])), (14, (.iconst 1, 1, [1])), (15, (.goto 4, 3, [19]))], [(3, (.iadd, 1, [])), (4, (.putfield 512, 3, [12, 61, 0, 0, 0, 1866])), (7, (.aload_n 0, 1, [])), (8, (.invokevirtual 532, 3, [2, 102, 1, 0, 2468])), (11, (.istore 4, 2, [])), (13, (.iload_n 2, 1, [])), (14, (.ifCond .eq 12, 3, [42]))], [(1, (.iload 4, 2, [])), (3, (.iload_n 1, 1, [])), (4, (.if_icmp .gt 19, 3, [55])), (10, (.iload_n 3, 1, [])), (11, (.ifCond .eq 10, 3, [53])), (14, (.iload_n 1, 1, [])), (15, (.ldc_w 452, 3, [3294967296, 2306]))], [(2, (.if_icmp .le 5, 3, [55])), (7, (.iconst 0, 1, [0])), (8, (.istore 5, 2, [])), (10, (.iload 5, 2, [])), (12, (.bipush 8, 2, [8])), (14, (.if_icmp .ge 23, 3, [85]))], [(1, (.aload_n 0, 1, [])), (2, (.getfield 128, 3, [12, 60, 0, 1865])), (5, (.iload 5, 2, [])), (7, (.aload_n 0, 1, [])), (8, (.getfield 125, 3, [12, 59, 0, 1864])), (11, (.iload 5, 2, [])), (13, (.iaload, 1, [])), (14, (.iastore, 1, [])), (15, (.iinc 5 1, 3, [1]))], [(2, (.goto (-24), 3, [58])), (5, (.iload 4, 2, [])), (7, (.ireturn, 1, []))]]
set_option maxRecDepth 100000 in
theorem sx_q_X12_takes : sx_t_X12_takes = sx_cT sx_d_X12_takes := rfl
set_option maxRecDepth 100000 in
theorem sx_y_X12_takes : sx_yOk 121 sx_t_X12_takes := sx_yok0 (by decide +kernel) sx_q_X12_takes (by decide +kernel)
def sx_d_X12_together : List (List (Nat × sx_I)) := [[(0, (.aload_n 0, 1, [])), (1, (.iconst 0, 1, [0])), (2, (.putfield 398, 3, [12, 56, 0, 0, 0, 1861])), (5, (.aload_n 0, 1, [])), (6, (.iload_n 1, 1, [])), (7, (.invokevirtual 440, 3, [2, 95, 2, 0, 2231])), (10, (.ifCond .eq 10, 3, [20]))], [(4, (.ldc_w 452, 3, [3294967296, 2306])), (7, (.ireturn, 1, []))]]
set_option maxRecDepth 100000 in
theorem sx_q_X12_together : sx_t_X12_together = sx_cT sx_d_X12_together := rfl
set_option maxRecDepth 100000 in
theorem sx_y_X12_together : sx_yOk 122 sx_t_X12_together := sx_yok0 (by decide +kernel) sx_q_X12_together (by decide +kernel)
def sx_d_X12_undo : List (List (Nat × sx_I)) := [[(0, (.aload_n 0, 1, [])), (1, (.getfield 386, 3, [12, 51, 0, 1856])), (4, (.ifCond .ne 5, 3, [9])), (7, (.iconst 0, 1, [0])), (8, (.ireturn, 1, [1]))]]
set_option maxRecDepth 100000 in
theorem sx_q_X12_undo : sx_t_X12_undo = sx_cT sx_d_X12_undo := rfl
set_option maxRecDepth 100000 in
theorem sx_y_X12_undo : sx_yOk 123 sx_t_X12_undo := sx_yok0 (by decide +kernel) sx_q_X12_undo (by decide +kernel)
def sx_d_X12_untell : List (List (Nat × sx_I)) := [[(0, (.iload_n 1, 1, [])), (1, (.iconst 0, 1, [0])), (2, (.aload_n 0, 1, [])), (3, (.getfield 395, 3, [12, 71, 0, 1876])), (6, (.iconst 1, 1, [1])), (7, (.isub, 1, [])), (8, (.invokestatic 379, 3, [2, 94, 3, 0, 2212])), (11, (.ifCond .eq 12, 3, [23]))], [(7, (.iconst 0, 1, [0])), (8, (.ireturn, 1, [1]))]]
set_option maxRecDepth 100000 in
theorem sx_q_X12_untell : sx_t_X12_untell = sx_cT sx_d_X12_untell := rfl
set_option maxRecDepth 100000 in
theorem sx_y_X12_untell : sx_yOk 124 sx_t_X12_untell := sx_yok0 (by decide +kernel) sx_q_X12_untell (by decide +kernel)
def sx_d_X12_who : List (List (Nat × sx_I)) := [[(0, (.aload_n 0, 1, [])), (1, (.iload_n 1, 1, [])), (2, (.invokevirtual 440, 3, [2, 95, 2, 0, 2231])), (5, (.ifCond .eq 13, 3, [18]))], [(2, (.iconst (-1), 1, [4294967295])), (3, (.ireturn, 1, []))]]
set_option maxRecDepth 100000 in
theorem sx_q_X12_who : sx_t_X12_who = sx_cT sx_d_X12_who := rfl
set_option maxRecDepth 100000 in
theorem sx_y_X12_who : sx_yOk 125 sx_t_X12_who := sx_yok0 (by decide +kernel) sx_q_X12_who (by decide +kernel)
def sx_d_X1_init : List (List (Nat × sx_I)) := [[(0, (.aload_n 0, 1, [])), (1, (.invokespecial 5, 3, [0, 507])), (4, (.aload_n 0, 1, [])), (5, (.sipush 2000, 3, [2000])), (8, (.newarray .int, 2, [0])), (10, (.putfield 11, 3, [1, 3, 1, 0, 1, 515])), (13, (.aload_n 0, 1, [])), (14, (.sipush 6000, 3, [6000]))], [(1, (.newarray .int, 2, [0])), (3, (.putfield 15, 3, [1, 4, 1, 0, 1, 518])), (6, (.aload_n 0, 1, [])), (7, (.sipush 2000, 3, [2000])), (10, (.newarray .long, 2, [1])), (12, (.putfield 18, 3, [1, 5, 1, 0, 1, 519])), (15, (.aload_n 0, 1, []))], [(0, (.sipush 2000, 3, [2000])), (3, (.newarray .long, 2, [1])), (5, (.putfield 22, 3, [1, 6, 1, 0, 1, 520])), (8, (.aload_n 0, 1, [])), (9, (.new 25, 3, [5, 508])), (12, (.dup, 1, [])), (13, (.bipush 14, 2, [14])), (15, (.invokespecial 27, 3, [2, 147, 2, 0, 509]))], [(2, (.putfield 30, 3, [1, 7, 1, 0, 1, 521])), (5, (.aload_n 0, 1, [])), (6, (.aload_n 1, 1, [])), (7, (.putfield 34, 3, [1, 0, 1, 0, 1, 510])), (10, (.aload_n 0, 1, [])), (11, (.aload_n 2, 1, [])), (12, (.putfield 38, 3, [1, 1, 1, 0, 1, 511])), (15, (.aload_n 0, 1, []))], [(0, (.aload_n 3, 1, [])), (1, (.putfield 42, 3, [1, 2, 1, 0, 1, 513])), (4, (.return_, 1, []))]]
set_option maxRecDepth 100000 in
theorem sx_q_X1_init : sx_t_X1_init = sx_cT sx_d_X1_init := rfl
set_option maxRecDepth 100000 in
theorem sx_y_X1_init : sx_yOk 126 sx_t_X1_init := sx_yok1 (by decide +kernel) (by decide +kernel) sx_q_X1_init (by decide +kernel)
def sx_d_X2_emptyBoxes : List (List (Nat × sx_I)) := [[(0, (.iconst 0, 1, [0])), (1, (.istore_n 1, 1, [])), (2, (.iload_n 1, 1, [])), (3, (.iconst 3, 1, [3])), (4, (.if_icmp .ge 16, 3, [20])), (7, (.aload_n 0, 1, [])), (8, (.getfield 20, 3, [2, 2, 0, 433])), (11, (.iload_n 1, 1, [])), (12, (.iconst 0, 1, [0])), (13, (.bastore, 1, [2])), (14, (.iinc 1 1, 3, [1]))], [(1, (.goto (-15), 3, [2])), (4, (.return_, 1, []))]]
set_option maxRecDepth 100000 in
theorem sx_q_X2_emptyBoxes : sx_t_X2_emptyBoxes = sx_cT sx_d_X2_emptyBoxes := rfl
set_option maxRecDepth 100000 in
theorem sx_y_X2_emptyBoxes : sx_yOk 127 sx_t_X2_emptyBoxes := sx_yok0 (by decide +kernel) sx_q_X2_emptyBoxes (by decide +kernel)
def sx_d_X2_fillBox : List (List (Nat × sx_I)) := [[(0, (.aload_n 0, 1, [])), (1, (.getfield 17, 3, [2, 1, 0, 432])), (4, (.iload_n 1, 1, [])), (5, (.aaload, 1, [])), (6, (.ifnonnull 16, 3, [22])), (9, (.aload_n 0, 1, [])), (10, (.getfield 17, 3, [2, 1, 0, 432])), (13, (.iload_n 1, 1, [])), (14, (.new 11, 3, [8, 429]))], [(1, (.dup, 1, [])), (2, (.invokespecial 38, 3, [2, 157, 1, 1, 664])), (5, (.aastore, 1, [])), (6, (.aload_n 0, 1, [])), (7, (.getfield 17, 3, [2, 1, 0, 432])), (10, (.iload_n 1, 1, [])), (11, (.aaload, 1, [])), (12, (.aload_n 2, 1, [])), (13, (.invokevirtual 39, 3, [2, 156, 2, 0, 665]))], [(0, (.aload_n 0, 1, [])), (1, (.getfield 20, 3, [2, 2, 0, 433])), (4, (.iload_n 1, 1, [])), (5, (.iconst 1, 1, [1])), (6, (.bastore, 1, [2])), (7, (.return_, 1, []))]]
set_option maxRecDepth 100000 in
theorem sx_q_X2_fillBox : sx_t_X2_fillBox = sx_cT sx_d_X2_fillBox := rfl
set_option maxRecDepth 100000 in
theorem sx_y_X2_fillBox : sx_yOk 128 sx_t_X2_fillBox := sx_yok0 (by decide +kernel) sx_q_X2_fillBox (by decide +kernel)
def sx_d_X2_init : List (List (Nat × sx_I)) := [[(0, (.aload_n 0, 1, [])), (1, (.invokespecial 3, 3, [0, 428])), (4, (.aload_n 0, 1, [])), (5, (.bipush 41, 2, [41])), (7, (.anewarray 11, 3, [429])), (10, (.putfield 13, 3, [2, 0, 1, 0, 1, 431])), (13, (.aload_n 0, 1, [])), (14, (.iconst 3, 1, [3])), (15, (.anewarray 11, 3, [429]))], [(2, (.putfield 17, 3, [2, 1, 1, 0, 1, 432])), (5, (.aload_n 0, 1, [])), (6, (.iconst 3, 1, [3])), (7, (.newarray .boolean, 2, [2])), (9, (.putfield 20, 3, [2, 2, 1, 0, 1, 433])), (12, (.aload_n 0, 1, [])), (13, (.iconst 0, 1, [0])), (14, (.putfield 24, 3, [2, 3, 0, 0, 0, 434]))], [(1, (.aload_n 0, 1, [])), (2, (.iconst 0, 1, [0])), (3, (.putfield 28, 3, [2, 4, 0, 0, 0, 435])), (6, (.aload_n 0, 1, [])), (7, (.iconst 0, 1, [0])), (8, (.putfield 31, 3, [2, 5, 0, 0, 0, 437])), (11, (.return_, 1, []))]]
set_option maxRecDepth 100000 in
theorem sx_q_X2_init : sx_t_X2_init = sx_cT sx_d_X2_init := rfl
set_option maxRecDepth 100000 in
theorem sx_y_X2_init : sx_yOk 129 sx_t_X2_init := sx_yok1 (by decide +kernel) (by decide +kernel) sx_q_X2_init (by decide +kernel)
def sx_d_X2_keepAct : List (List (Nat × sx_I)) := [[(0, (.aload_n 0, 1, [])), (1, (.getfield 28, 3, [2, 4, 0, 435])), (4, (.bipush 40, 2, [40])), (6, (.if_icmp .lt 19, 3, [25]))], [(9, (.aload_n 0, 1, [])), (10, (.dup, 1, [])), (11, (.getfield 28, 3, [2, 4, 0, 435])), (14, (.iconst 1, 1, [1])), (15, (.iadd, 1, []))], [(0, (.putfield 28, 3, [2, 4, 0, 0, 0, 435])), (3, (.aload_n 0, 1, [])), (4, (.iconst 0, 1, [0])), (5, (.putfield 31, 3, [2, 5, 0, 0, 0, 437])), (8, (.aload_n 0, 1, [])), (9, (.aload_n 0, 1, [])), (10, (.getfield 24, 3, [2, 3, 0, 434])), (13, (.aload_n 0, 1, [])), (14, (.getfield 28, 3, [2, 4, 0, 435]))], [(1, (.iadd, 1, [])), (2, (.bipush 41, 2, [41])), (4, (.irem, 1, [])), (5, (.aload_n 1, 1, [])), (6, (.invokevirtual 34, 3, [2, 131, 3, 0, 660])), (9, (.return_, 1, []))]]
set_option maxRecDepth 100000 in
theorem sx_q_X2_keepAct : sx_t_X2_keepAct = sx_cT sx_d_X2_keepAct := rfl
set_option maxRecDepth 100000 in
theorem sx_y_X2_keepAct : sx_yOk 130 sx_t_X2_keepAct := sx_yok0 (by decide +kernel) sx_q_X2_keepAct (by decide +kernel)
def sx_d_X2_keepAt : List (List (Nat × sx_I)) := [[(0, (.iload_n 1, 1, [])), (1, (.ifCond .lt 9, 3, [10])), (4, (.iload_n 1, 1, [])), (5, (.bipush 41, 2, [41])), (7, (.if_icmp .lt 4, 3, [11])), (11, (.aload_n 0, 1, [])), (12, (.getfield 13, 3, [2, 0, 0, 431])), (15, (.iload_n 1, 1, []))], [(0, (.aaload, 1, [])), (1, (.ifnonnull 16, 3, [33])), (4, (.aload_n 0, 1, [])), (5, (.getfield 13, 3, [2, 0, 0, 431])), (8, (.iload_n 1, 1, [])), (9, (.new 11, 3, [8, 429])), (12, (.dup, 1, [])), (13, (.invokespecial 38, 3, [2, 157, 1, 1, 664]))], [(0, (.aastore, 1, [])), (1, (.aload_n 0, 1, [])), (2, (.getfield 13, 3, [2, 0, 0, 431])), (5, (.iload_n 1, 1, [])), (6, (.aaload, 1, [])), (7, (.aload_n 2, 1, [])), (8, (.invokevirtual 39, 3, [2, 156, 2, 0, 665])), (11, (.return_, 1, []))]]
set_option maxRecDepth 100000 in
theorem sx_q_X2_keepAt : sx_t_X2_keepAt = sx_cT sx_d_X2_keepAt := rfl
set_option maxRecDepth 100000 in
theorem sx_y_X2_keepAt : sx_yOk 131 sx_t_X2_keepAt := sx_yok0 (by decide +kernel) sx_q_X2_keepAt (by decide +kernel)
def sx_d_X2_restart : List (List (Nat × sx_I)) := [[(0, (.aload_n 0, 1, [])), (1, (.iconst 0, 1, [0])), (2, (.putfield 24, 3, [2, 3, 0, 0, 0, 434])), (5, (.aload_n 0, 1, [])), (6, (.iconst 0, 1, [0])), (7, (.putfield 28, 3, [2, 4, 0, 0, 0, 435])), (10, (.aload_n 0, 1, [])), (11, (.iconst 0, 1, [0])), (12, (.putfield 31, 3, [2, 5, 0, 0, 0, 437])), (15, (.aload_n 0, 1, []))], [(0, (.iconst 0, 1, [0])), (1, (.aload_n 1, 1, [])), (2, (.invokevirtual 34, 3, [2, 131, 3, 0, 660])), (5, (.return_, 1, []))]]
set_option maxRecDepth 100000 in
theorem sx_q_X2_restart : sx_t_X2_restart = sx_cT sx_d_X2_restart := rfl
set_option maxRecDepth 100000 in
theorem sx_y_X2_restart : sx_yOk 132 sx_t_X2_restart := sx_yok0 (by decide +kernel) sx_q_X2_restart (by decide +kernel)
def sx_d_X2_stepBack : List (List (Nat × sx_I)) := [[(0, (.aload_n 0, 1, [])), (1, (.getfield 28, 3, [2, 4, 0, 435])), (4, (.ifCond .gt 5, 3, [9])), (7, (.iconst 0, 1, [0])), (8, (.ireturn, 1, [1]))]]
set_option maxRecDepth 100000 in
theorem sx_q_X2_stepBack : sx_t_X2_stepBack = sx_cT sx_d_X2_stepBack := rfl
set_option maxRecDepth 100000 in
theorem sx_y_X2_stepBack : sx_yOk 133 sx_t_X2_stepBack := sx_yok0 (by decide +kernel) sx_q_X2_stepBack (by decide +kernel)
def sx_d_X2_stepForth : List (List (Nat × sx_I)) := [[(0, (.aload_n 0, 1, [])), (1, (.getfield 31, 3, [2, 5, 0, 437])), (4, (.ifCond .gt 5, 3, [9])), (7, (.iconst 0, 1, [0])), (8, (.ireturn, 1, [1]))]]
set_option maxRecDepth 100000 in
theorem sx_q_X2_stepForth : sx_t_X2_stepForth = sx_cT sx_d_X2_stepForth := rfl
set_option maxRecDepth 100000 in
theorem sx_y_X2_stepForth : sx_yOk 134 sx_t_X2_stepForth := sx_yok0 (by decide +kernel) sx_q_X2_stepForth (by decide +kernel)
def sx_d_X2_takeFromBox : List (List (Nat × sx_I)) := [[(0, (.aload_n 0, 1, [])), (1, (.getfield 20, 3, [2, 2, 0, 433])), (4, (.iload_n 1, 1, [])), (5, (.baload, 1, [2])), (6, (.ifCond .eq 12, 3, [18]))], [(2, (.iconst 0, 1, [0])), (3, (.ireturn, 1, [1]))]]
set_option maxRecDepth 100000 in
theorem sx_q_X2_takeFromBox : sx_t_X2_takeFromBox = sx_cT sx_d_X2_takeFromBox := rfl
set_option maxRecDepth 100000 in
theorem sx_y_X2_takeFromBox : sx_yOk 135 sx_t_X2_takeFromBox := sx_yok0 (by decide +kernel) sx_q_X2_takeFromBox (by decide +kernel)
def sx_d_X3_extend : List (List (Nat × sx_I)) := [[(0, (.iload_n 1, 1, [])), (1, (.istore_n 3, 1, [])), (2, (.iload_n 3, 1, [])), (3, (.aload_n 0, 1, [])), (4, (.getfield 21, 3, [3, 0, 0, 555])), (7, (.getfield 29, 3, [10, 0, 1, 210])), (10, (.if_icmp .ge 17, 3, [27]))], [(11, (.iload_n 3, 1, [])), (12, (.aload_n 0, 1, [])), (13, (.getfield 21, 3, [3, 0, 0, 555]))], [(0, (.getfield 29, 3, [10, 0, 1, 210])), (3, (.if_icmp .lt 8, 3, [43])), (6, (.aload_n 0, 1, [])), (7, (.invokevirtual 61, 3, [2, 139, 1, 0, 1622])), (10, (.return_, 1, []))]]
set_option maxRecDepth 100000 in
theorem sx_q_X3_extend : sx_t_X3_extend = sx_cT sx_d_X3_extend := rfl
set_option maxRecDepth 100000 in
theorem sx_y_X3_extend : sx_yOk 136 sx_t_X3_extend := sx_yok0 (by decide +kernel) sx_q_X3_extend (by decide +kernel)
def sx_d_X3_init : List (List (Nat × sx_I)) := [[(0, (.aload_n 0, 1, [])), (1, (.invokespecial 3, 3, [0, 554])), (4, (.aload_n 0, 1, [])), (5, (.bipush 8, 2, [8])), (7, (.newarray .int, 2, [0])), (9, (.putfield 9, 3, [3, 2, 1, 0, 1, 557])), (12, (.aload_n 0, 1, [])), (13, (.bipush 8, 2, [8])), (15, (.newarray .int, 2, [0]))], [(1, (.putfield 15, 3, [3, 3, 1, 0, 1, 558])), (4, (.aload_n 0, 1, [])), (5, (.bipush 8, 2, [8])), (7, (.newarray .int, 2, [0])), (9, (.putfield 18, 3, [3, 4, 1, 0, 1, 560])), (12, (.aload_n 0, 1, [])), (13, (.aload_n 1, 1, [])), (14, (.putfield 21, 3, [3, 0, 1, 0, 1, 555]))], [(1, (.aload_n 0, 1, [])), (2, (.aload_n 2, 1, [])), (3, (.putfield 25, 3, [3, 1, 1, 0, 1, 556])), (6, (.return_, 1, []))]]
set_option maxRecDepth 100000 in
theorem sx_q_X3_init : sx_t_X3_init = sx_cT sx_d_X3_init := rfl
set_option maxRecDepth 100000 in
theorem sx_y_X3_init : sx_yOk 137 sx_t_X3_init := sx_yok1 (by decide +kernel) (by decide +kernel) sx_q_X3_init (by decide +kernel)
def sx_d_X3_isFast : List (List (Nat × sx_I)) := [[(0, (.iconst 0, 1, [0])), (1, (.istore_n 1, 1, [])), (2, (.iload_n 1, 1, [])), (3, (.aload_n 0, 1, [])), (4, (.getfield 21, 3, [3, 0, 0, 555])), (7, (.getfield 29, 3, [10, 0, 1, 210])), (10, (.if_icmp .ge 98, 3, [108]))], [], [], [], [], [], [(12, (.iconst 1, 1, [1])), (13, (.ireturn, 1, [1]))]]
set_option maxRecDepth 100000 in
theorem sx_q_X3_isFast : sx_t_X3_isFast = sx_cT sx_d_X3_isFast := rfl
set_option maxRecDepth 100000 in
theorem sx_y_X3_isFast : sx_yOk 138 sx_t_X3_isFast := sx_yok0 (by decide +kernel) sx_q_X3_isFast (by decide +kernel)
def sx_d_X3_judge : List (List (Nat × sx_I)) := [[(0, (.iconst 0, 1, [0])), (1, (.istore_n 1, 1, [])), (2, (.iconst 0, 1, [0])), (3, (.istore_n 2, 1, [])), (4, (.iload_n 2, 1, [])), (5, (.aload_n 0, 1, [])), (6, (.getfield 21, 3, [3, 0, 0, 555])), (9, (.getfield 29, 3, [10, 0, 1, 210])), (12, (.if_icmp .ge 32, 3, [44]))], [], [(12, (.aload_n 0, 1, [])), (13, (.getfield 46, 3, [3, 5, 0, 562]))], [(0, (.ifCond .eq 11, 3, [59])), (11, (.aload_n 0, 1, [])), (12, (.iconst 1, 1, [1])), (13, (.putfield 46, 3, [3, 5, 2, 0, 0, 562]))], [(0, (.aload_n 0, 1, [])), (1, (.iload_n 1, 1, [])), (2, (.putfield 68, 3, [3, 6, 0, 0, 0, 563])), (5, (.aload_n 0, 1, [])), (6, (.getfield 9, 3, [3, 2, 0, 557])), (9, (.iconst 0, 1, [0])), (10, (.aload_n 0, 1, [])), (11, (.getfield 15, 3, [3, 3, 0, 558])), (14, (.iconst 0, 1, [0])), (15, (.bipush 8, 2, [8]))], [(1, (.invokestatic 71, 3, [1, 1632])), (4, (.aload_n 0, 1, [])), (5, (.invokevirtual 77, 3, [2, 138, 1, 0, 1633])), (8, (.ifCond .eq 40, 3, [128])), (11, (.aload_n 0, 1, [])), (12, (.getfield 50, 3, [3, 8, 0, 567])), (15, (.ifCond .ne 23, 3, [118]))], [(2, (.aload_n 0, 1, [])), (3, (.iload_n 1, 1, [])), (4, (.putfield 81, 3, [3, 7, 0, 0, 0, 565])), (7, (.aload_n 0, 1, [])), (8, (.getfield 9, 3, [3, 2, 0, 557])), (11, (.iconst 0, 1, [0])), (12, (.aload_n 0, 1, [])), (13, (.getfield 18, 3, [3, 4, 0, 560]))], [(0, (.iconst 0, 1, [0])), (1, (.bipush 8, 2, [8])), (3, (.invokestatic 71, 3, [1, 1632])), (6, (.aload_n 0, 1, [])), (7, (.dup, 1, [])), (8, (.getfield 50, 3, [3, 8, 0, 567])), (11, (.iconst 1, 1, [1])), (12, (.iadd, 1, [])), (13, (.putfield 50, 3, [3, 8, 0, 0, 0, 567]))], [(0, (.return_, 1, []))]]
set_option maxRecDepth 100000 in
theorem sx_q_X3_judge : sx_t_X3_judge = sx_cT sx_d_X3_judge := rfl
set_option maxRecDepth 100000 in
theorem sx_y_X3_judge : sx_yOk 139 sx_t_X3_judge := sx_yok0 (by decide +kernel) sx_q_X3_judge (by decide +kernel)
def sx_d_X3_search : List (List (Nat × sx_I)) := [[(0, (.iconst 0, 1, [0])), (1, (.istore_n 1, 1, [])), (2, (.iconst 0, 1, [0])), (3, (.istore_n 2, 1, [])), (4, (.iload_n 2, 1, [])), (5, (.aload_n 0, 1, [])), (6, (.getfield 21, 3, [3, 0, 0, 555])), (9, (.getfield 29, 3, [10, 0, 1, 210])), (12, (.if_icmp .ge 21, 3, [33]))], [], [(1, (.aload_n 0, 1, [])), (2, (.getfield 9, 3, [3, 2, 0, 557])), (5, (.bipush (-2), 2, [4294967294])), (7, (.invokestatic 40, 3, [2, 1, 2, 0, 1613])), (10, (.aload_n 0, 1, [])), (11, (.iconst 0, 1, [0])), (12, (.putfield 46, 3, [3, 5, 2, 0, 0, 562])), (15, (.aload_n 0, 1, []))], [(0, (.iconst 0, 1, [0])), (1, (.putfield 50, 3, [3, 8, 0, 0, 0, 567])), (4, (.aload_n 0, 1, [])), (5, (.iconst 0, 1, [0])), (6, (.iload_n 1, 1, [])), (7, (.iconst 2, 1, [2])), (8, (.irem, 1, [])), (9, (.iconst 1, 1, [1])), (10, (.if_icmp .ne 7, 3, [65]))], [(1, (.iconst 0, 1, [0])), (2, (.invokevirtual 53, 3, [2, 136, 3, 0, 1614])), (5, (.return_, 1, []))]]
set_option maxRecDepth 100000 in
theorem sx_q_X3_search : sx_t_X3_search = sx_cT sx_d_X3_search := rfl
set_option maxRecDepth 100000 in
theorem sx_y_X3_search : sx_yOk 140 sx_t_X3_search := sx_yok0 (by decide +kernel) sx_q_X3_search (by decide +kernel)
end
section
/-! data of methods, 7 -/
def sx_d_X3_tellOthers : List (List (Nat × sx_I)) := [[(0, (.iconst 0, 1, [0])), (1, (.istore_n 3, 1, [])), (2, (.iload_n 3, 1, [])), (3, (.aload_n 0, 1, [])), (4, (.getfield 21, 3, [3, 0, 0, 555])), (7, (.getfield 29, 3, [10, 0, 1, 210])), (10, (.if_icmp .ge 41, 3, [51]))], [], [], [(3, (.return_, 1, []))]]
set_option maxRecDepth 100000 in
theorem sx_q_X3_tellOthers : sx_t_X3_tellOthers = sx_cT sx_d_X3_tellOthers := rfl
set_option maxRecDepth 100000 in
theorem sx_y_X3_tellOthers : sx_yOk 141 sx_t_X3_tellOthers := sx_yok0 (by decide +kernel) sx_q_X3_tellOthers (by decide +kernel)
def sx_d_X4_advance : List (List (Nat × sx_I)) := [[(0, (.aload_n 0, 1, [])), (1, (.aload_n 0, 1, [])), (2, (.getfield 57, 3, [4, 13, 0, 340])), (5, (.putfield 203, 3, [4, 9, 0, 0, 0, 336])), (8, (.aload_n 0, 1, [])), (9, (.getfield 203, 3, [4, 9, 0, 336])), (12, (.aload_n 0, 1, [])), (13, (.getfield 32, 3, [4, 6, 0, 331]))], [(0, (.if_icmp .ge 44, 3, [60]))], [], [(12, (.aload_n 0, 1, [])), (13, (.aload_n 0, 1, [])), (14, (.getfield 203, 3, [4, 9, 0, 336]))], [(1, (.putfield 57, 3, [4, 13, 0, 0, 0, 340])), (4, (.aload_n 0, 1, [])), (5, (.getfield 203, 3, [4, 9, 0, 336])), (8, (.aload_n 0, 1, [])), (9, (.getfield 32, 3, [4, 6, 0, 331])), (12, (.if_icmp .lt 11, 3, [87])), (15, (.aload_n 0, 1, []))], [(0, (.iconst 0, 1, [0])), (1, (.putfield 66, 3, [4, 10, 0, 0, 0, 337])), (4, (.goto 116, 3, [200]))], [], [], [], [], [], [], [(8, (.return_, 1, []))]]
set_option maxRecDepth 100000 in
theorem sx_q_X4_advance : sx_t_X4_advance = sx_cT sx_d_X4_advance := rfl
set_option maxRecDepth 100000 in
theorem sx_y_X4_advance : sx_yOk 142 sx_t_X4_advance := sx_yok0 (by decide +kernel) sx_q_X4_advance (by decide +kernel)
def sx_d_X4_init : List (List (Nat × sx_I)) := [[(0, (.aload_n 0, 1, [])), (1, (.invokespecial 3, 3, [0, 321])), (4, (.aload_n 0, 1, [])), (5, (.new 9, 3, [10, 322])), (8, (.dup, 1, [])), (9, (.invokespecial 11, 3, [2, 13, 1, 0, 323])), (12, (.putfield 12, 3, [4, 0, 1, 0, 1, 324])), (15, (.aload_n 0, 1, []))], [(0, (.bipush 8, 2, [8])), (2, (.newarray .long, 2, [1])), (4, (.putfield 18, 3, [4, 1, 1, 0, 1, 326])), (7, (.aload_n 0, 1, [])), (8, (.iconst 4, 1, [4])), (9, (.newarray .long, 2, [1])), (11, (.putfield 22, 3, [4, 2, 1, 0, 1, 327])), (14, (.aload_n 0, 1, [])), (15, (.bipush 6, 2, [6]))], [(1, (.newarray .long, 2, [1])), (3, (.putfield 25, 3, [4, 3, 1, 0, 1, 328])), (6, (.aload_n 0, 1, [])), (7, (.iconst 3, 1, [3])), (8, (.newarray .int, 2, [0])), (10, (.putfield 28, 3, [4, 4, 1, 0, 1, 329])), (13, (.aload_n 0, 1, [])), (14, (.iconst 0, 1, [0])), (15, (.putfield 32, 3, [4, 6, 0, 0, 0, 331]))], [(2, (.aload_n 0, 1, [])), (3, (.iconst 0, 1, [0])), (4, (.putfield 36, 3, [4, 7, 0, 0, 0, 332])), (7, (.aload_n 0, 1, [])), (8, (.iconst (-1), 1, [4294967295])), (9, (.putfield 39, 3, [4, 8, 0, 0, 0, 334])), (12, (.aload_n 0, 1, [])), (13, (.aload_n 1, 1, [])), (14, (.putfield 42, 3, [4, 5, 1, 0, 1, 330]))], [(1, (.return_, 1, []))]]
set_option maxRecDepth 100000 in
theorem sx_q_X4_init : sx_t_X4_init = sx_cT sx_d_X4_init := rfl
set_option maxRecDepth 100000 in
theorem sx_y_X4_init : sx_yOk 143 sx_t_X4_init := sx_yok1 (by decide +kernel) (by decide +kernel) sx_q_X4_init (by decide +kernel)
def sx_d_X4_read : List (List (Nat × sx_I)) := [[(0, (.aload_n 0, 1, [])), (1, (.iconst 0, 1, [0])), (2, (.iload_n 1, 1, [])), (3, (.aload_n 0, 1, [])), (4, (.getfield 42, 3, [4, 5, 0, 330])), (7, (.arraylength, 1, [])), (8, (.invokestatic 45, 3, [4, 729])), (11, (.invokestatic 51, 3, [3, 732])), (14, (.putfield 32, 3, [4, 6, 0, 0, 0, 331]))], [(1, (.aload_n 0, 1, [])), (2, (.getfield 12, 3, [4, 0, 0, 324])), (5, (.invokevirtual 54, 3, [2, 9, 1, 0, 733])), (8, (.aload_n 0, 1, [])), (9, (.iconst 0, 1, [0])), (10, (.putfield 36, 3, [4, 7, 0, 0, 0, 332])), (13, (.aload_n 0, 1, [])), (14, (.iconst (-1), 1, [4294967295])), (15, (.putfield 39, 3, [4, 8, 0, 0, 0, 334]))], [(2, (.aload_n 0, 1, [])), (3, (.iconst 0, 1, [0])), (4, (.putfield 57, 3, [4, 13, 0, 0, 0, 340])), (7, (.aload_n 0, 1, [])), (8, (.iconst 0, 1, [0])), (9, (.putfield 60, 3, [4, 16, 0, 0, 0, 343])), (12, (.aload_n 0, 1, [])), (13, (.invokevirtual 63, 3, [2, 142, 1, 0, 734]))], [(0, (.iconst 1, 1, [1])), (1, (.istore_n 2, 1, [])), (2, (.iconst 0, 1, [0])), (3, (.istore_n 3, 1, [])), (4, (.iload_n 3, 1, [])), (5, (.sipush 1600, 3, [1600])), (8, (.if_icmp .ge 163, 3, [219])), (11, (.iload_n 2, 1, [])), (12, (.ifCond .eq 159, 3, [219])), (15, (.aload_n 0, 1, []))], [(0, (.getfield 66, 3, [4, 10, 0, 337])), (3, (.ifCond .eq 152, 3, [219]))], [], [], [], [], [], [], [], [], [(11, (.iload_n 2, 1, [])), (12, (.ireturn, 1, [1]))]]
set_option maxRecDepth 100000 in
theorem sx_q_X4_read : sx_t_X4_read = sx_cT sx_d_X4_read := rfl
set_option maxRecDepth 100000 in
theorem sx_y_X4_read : sx_yOk 144 sx_t_X4_read := sx_yok0 (by decide +kernel) sx_q_X4_read (by decide +kernel)
def sx_d_X5_at : List (List (Nat × sx_I)) := [[(0, (.iload_n 1, 1, [])), (1, (.ifCond .lt 29, 3, [30])), (4, (.iload_n 1, 1, [])), (5, (.aload_n 0, 1, [])), (6, (.getfield 9, 3, [5, 1, 0, 463])), (9, (.if_icmp .ge 21, 3, [30]))], [(14, (.iconst (-1), 1, [4294967295])), (15, (.ireturn, 1, []))]]
set_option maxRecDepth 100000 in
theorem sx_q_X5_at : sx_t_X5_at = sx_cT sx_d_X5_at := rfl
set_option maxRecDepth 100000 in
theorem sx_y_X5_at : sx_yOk 145 sx_t_X5_at := sx_yok0 (by decide +kernel) sx_q_X5_at (by decide +kernel)
def sx_d_X5_clear : List (List (Nat × sx_I)) := [[(0, (.aload_n 0, 1, [])), (1, (.iconst 0, 1, [0])), (2, (.putfield 9, 3, [5, 1, 0, 0, 0, 463])), (5, (.return_, 1, []))]]
set_option maxRecDepth 100000 in
theorem sx_q_X5_clear : sx_t_X5_clear = sx_cT sx_d_X5_clear := rfl
set_option maxRecDepth 100000 in
theorem sx_y_X5_clear : sx_yOk 146 sx_t_X5_clear := sx_yok0 (by decide +kernel) sx_q_X5_clear (by decide +kernel)
def sx_d_X5_init : List (List (Nat × sx_I)) := [[(0, (.aload_n 0, 1, [])), (1, (.invokespecial 3, 3, [0, 458])), (4, (.aload_n 0, 1, [])), (5, (.iconst 0, 1, [0])), (6, (.putfield 9, 3, [5, 1, 0, 0, 0, 463])), (9, (.aload_n 0, 1, [])), (10, (.iconst 0, 1, [0])), (11, (.iload_n 1, 1, [])), (12, (.invokestatic 15, 3, [3, 459])), (15, (.newarray .int, 2, [0]))], [(1, (.putfield 21, 3, [5, 0, 1, 0, 1, 462])), (4, (.return_, 1, []))]]
set_option maxRecDepth 100000 in
theorem sx_q_X5_init : sx_t_X5_init = sx_cT sx_d_X5_init := rfl
set_option maxRecDepth 100000 in
theorem sx_y_X5_init : sx_yOk 147 sx_t_X5_init := sx_yok1 (by decide +kernel) (by decide +kernel) sx_q_X5_init (by decide +kernel)
def sx_d_X7_clear : List (List (Nat × sx_I)) := [[(0, (.aload_n 0, 1, [])), (1, (.iconst 0, 1, [0])), (2, (.putfield 27, 3, [7, 6, 0, 0, 0, 600])), (5, (.return_, 1, []))]]
set_option maxRecDepth 100000 in
theorem sx_q_X7_clear : sx_t_X7_clear = sx_cT sx_d_X7_clear := rfl
set_option maxRecDepth 100000 in
theorem sx_y_X7_clear : sx_yOk 148 sx_t_X7_clear := sx_yok0 (by decide +kernel) sx_q_X7_clear (by decide +kernel)
def sx_d_X7_explains : List (List (Nat × sx_I)) := [[(0, (.aload_n 0, 1, [])), (1, (.getfield 37, 3, [7, 9, 0, 605])), (4, (.iconst (-1), 1, [4294967295])), (5, (.invokestatic 69, 3, [2, 1, 2, 0, 1724])), (8, (.iconst 0, 1, [0])), (9, (.istore_n 3, 1, [])), (10, (.iload_n 3, 1, [])), (11, (.aload_n 0, 1, [])), (12, (.getfield 27, 3, [7, 6, 0, 600])), (15, (.if_icmp .ge 89, 3, [104]))], [], [], [], [], [], [(8, (.iconst 1, 1, [1])), (9, (.ireturn, 1, [1]))]]
set_option maxRecDepth 100000 in
theorem sx_q_X7_explains : sx_t_X7_explains = sx_cT sx_d_X7_explains := rfl
set_option maxRecDepth 100000 in
theorem sx_y_X7_explains : sx_yOk 149 sx_t_X7_explains := sx_yok0 (by decide +kernel) sx_q_X7_explains (by decide +kernel)
def sx_d_X7_init : List (List (Nat × sx_I)) := [[(0, (.aload_n 0, 1, [])), (1, (.invokespecial 3, 3, [0, 593])), (4, (.aload_n 0, 1, [])), (5, (.bipush 30, 2, [30])), (7, (.newarray .int, 2, [0])), (9, (.putfield 9, 3, [7, 1, 1, 0, 1, 595])), (12, (.aload_n 0, 1, [])), (13, (.bipush 30, 2, [30])), (15, (.newarray .int, 2, [0]))], [(1, (.putfield 15, 3, [7, 2, 1, 0, 1, 596])), (4, (.aload_n 0, 1, [])), (5, (.bipush 30, 2, [30])), (7, (.newarray .int, 2, [0])), (9, (.putfield 18, 3, [7, 3, 1, 0, 1, 597])), (12, (.aload_n 0, 1, [])), (13, (.bipush 30, 2, [30])), (15, (.newarray .int, 2, [0]))], [(1, (.putfield 21, 3, [7, 4, 1, 0, 1, 598])), (4, (.aload_n 0, 1, [])), (5, (.bipush 30, 2, [30])), (7, (.newarray .int, 2, [0])), (9, (.putfield 24, 3, [7, 5, 1, 0, 1, 599])), (12, (.aload_n 0, 1, [])), (13, (.iconst 0, 1, [0])), (14, (.putfield 27, 3, [7, 6, 0, 0, 0, 600]))], [(1, (.aload_n 0, 1, [])), (2, (.iconst 0, 1, [0])), (3, (.putfield 31, 3, [7, 7, 0, 0, 0, 602])), (6, (.aload_n 0, 1, [])), (7, (.bipush 14, 2, [14])), (9, (.newarray .int, 2, [0])), (11, (.putfield 34, 3, [7, 8, 1, 0, 1, 604])), (14, (.aload_n 0, 1, [])), (15, (.bipush 9, 2, [9]))], [(1, (.newarray .int, 2, [0])), (3, (.putfield 37, 3, [7, 9, 1, 0, 1, 605])), (6, (.aload_n 0, 1, [])), (7, (.aload_n 1, 1, [])), (8, (.putfield 40, 3, [7, 0, 1, 0, 1, 594])), (11, (.return_, 1, []))]]
set_option maxRecDepth 100000 in
theorem sx_q_X7_init : sx_t_X7_init = sx_cT sx_d_X7_init := rfl
set_option maxRecDepth 100000 in
theorem sx_y_X7_init : sx_yOk 150 sx_t_X7_init := sx_yok1 (by decide +kernel) (by decide +kernel) sx_q_X7_init (by decide +kernel)
def sx_d_X7_strangerDays : List (List (Nat × sx_I)) := [[(0, (.iconst 1, 1, [1])), (1, (.istore_n 2, 1, [])), (2, (.iload_n 2, 1, [])), (3, (.bipush 9, 2, [9])), (5, (.if_icmp .gt 20, 3, [25])), (8, (.aload_n 0, 1, [])), (9, (.iload_n 2, 1, [])), (10, (.iload_n 1, 1, [])), (11, (.invokevirtual 100, 3, [2, 149, 3, 0, 1756])), (14, (.ifCond .eq 5, 3, [19]))], [(1, (.iload_n 2, 1, [])), (2, (.ireturn, 1, []))]]
set_option maxRecDepth 100000 in
theorem sx_q_X7_strangerDays : sx_t_X7_strangerDays = sx_cT sx_d_X7_strangerDays := rfl
set_option maxRecDepth 100000 in
theorem sx_y_X7_strangerDays : sx_yOk 151 sx_t_X7_strangerDays := sx_yok0 (by decide +kernel) sx_q_X7_strangerDays (by decide +kernel)
def sx_d_X7_strangerHalves : List (List (Nat × sx_I)) := [[(0, (.iconst 0, 1, [0])), (1, (.istore_n 2, 1, [])), (2, (.iconst 0, 1, [0])), (3, (.istore_n 3, 1, [])), (4, (.iload_n 3, 1, [])), (5, (.aload_n 0, 1, [])), (6, (.getfield 27, 3, [7, 6, 0, 600])), (9, (.if_icmp .ge 39, 3, [48]))], [], [], [(0, (.iconst 1, 1, [1])), (1, (.iload_n 2, 1, [])), (2, (.invokestatic 103, 3, [2, 0, 1, 0, 1764])), (5, (.invokestatic 109, 3, [3, 1770])), (8, (.ireturn, 1, []))]]
set_option maxRecDepth 100000 in
theorem sx_q_X7_strangerHalves : sx_t_X7_strangerHalves = sx_cT sx_d_X7_strangerHalves := rfl
set_option maxRecDepth 100000 in
theorem sx_y_X7_strangerHalves : sx_yOk 152 sx_t_X7_strangerHalves := sx_yok0 (by decide +kernel) sx_q_X7_strangerHalves (by decide +kernel)
def sx_d_X7_takeBack : List (List (Nat × sx_I)) := [[(0, (.iload_n 1, 1, [])), (1, (.ifCond .lt 21, 3, [22])), (4, (.iload_n 1, 1, [])), (5, (.aload_n 0, 1, [])), (6, (.getfield 27, 3, [7, 6, 0, 600])), (9, (.if_icmp .ge 13, 3, [22]))], [(6, (.iconst 0, 1, [0])), (7, (.ireturn, 1, [1]))]]
set_option maxRecDepth 100000 in
theorem sx_q_X7_takeBack : sx_t_X7_takeBack = sx_cT sx_d_X7_takeBack := rfl
set_option maxRecDepth 100000 in
theorem sx_y_X7_takeBack : sx_yOk 153 sx_t_X7_takeBack := sx_yok0 (by decide +kernel) sx_q_X7_takeBack (by decide +kernel)
def sx_d_X7_tell : List (List (Nat × sx_I)) := [[(0, (.iload_n 1, 1, [])), (1, (.ifCond .lt 25, 3, [26])), (4, (.iload_n 1, 1, [])), (5, (.bipush 99, 2, [99])), (7, (.if_icmp .gt 19, 3, [26])), (10, (.aload_n 0, 1, [])), (11, (.getfield 27, 3, [7, 6, 0, 600])), (14, (.ifCond .lt 12, 3, [26]))], [(1, (.aload_n 0, 1, [])), (2, (.getfield 27, 3, [7, 6, 0, 600])), (5, (.bipush 30, 2, [30])), (7, (.if_icmp .lt 5, 3, [28])), (10, (.iconst (-1), 1, [4294967295])), (11, (.ireturn, 1, [])), (12, (.aload_n 0, 1, [])), (13, (.getfield 9, 3, [7, 1, 0, 595]))], [(0, (.aload_n 0, 1, [])), (1, (.getfield 27, 3, [7, 6, 0, 600])), (4, (.iload_n 1, 1, [])), (5, (.iastore, 1, [])), (6, (.aload_n 0, 1, [])), (7, (.getfield 15, 3, [7, 2, 0, 596])), (10, (.aload_n 0, 1, [])), (11, (.getfield 27, 3, [7, 6, 0, 600])), (14, (.iload_n 2, 1, [])), (15, (.iastore, 1, []))], [(0, (.aload_n 0, 1, [])), (1, (.getfield 18, 3, [7, 3, 0, 597])), (4, (.aload_n 0, 1, [])), (5, (.getfield 27, 3, [7, 6, 0, 600])), (8, (.iload_n 3, 1, [])), (9, (.iastore, 1, [])), (10, (.aload_n 0, 1, [])), (11, (.getfield 21, 3, [7, 4, 0, 598])), (14, (.aload_n 0, 1, [])), (15, (.getfield 27, 3, [7, 6, 0, 600]))], [(2, (.aload_n 0, 1, [])), (3, (.getfield 31, 3, [7, 7, 0, 602])), (6, (.iastore, 1, [])), (7, (.aload_n 0, 1, [])), (8, (.getfield 24, 3, [7, 5, 0, 599])), (11, (.aload_n 0, 1, [])), (12, (.getfield 27, 3, [7, 6, 0, 600])), (15, (.iconst (-1), 1, [4294967295]))], [(0, (.iastore, 1, [])), (1, (.aload_n 0, 1, [])), (2, (.dup, 1, [])), (3, (.getfield 27, 3, [7, 6, 0, 600])), (6, (.iconst 1, 1, [1])), (7, (.iadd, 1, [])), (8, (.putfield 27, 3, [7, 6, 0, 0, 0, 600])), (11, (.aload_n 0, 1, [])), (12, (.getfield 27, 3, [7, 6, 0, 600])), (15, (.iconst 1, 1, [1]))], [(0, (.isub, 1, [])), (1, (.ireturn, 1, []))]]
set_option maxRecDepth 100000 in
theorem sx_q_X7_tell : sx_t_X7_tell = sx_cT sx_d_X7_tell := rfl
set_option maxRecDepth 100000 in
theorem sx_y_X7_tell : sx_yOk 154 sx_t_X7_tell := sx_yok0 (by decide +kernel) sx_q_X7_tell (by decide +kernel)
def sx_d_X8_begin : List (List (Nat × sx_I)) := [[(0, (.aload_n 0, 1, [])), (1, (.iconst 0, 1, [0])), (2, (.putfield 9, 3, [8, 0, 0, 0, 0, 386])), (5, (.aload_n 0, 1, [])), (6, (.iconst 0, 1, [0])), (7, (.aload_n 1, 1, [])), (8, (.getfield 34, 3, [10, 5, 1, 230])), (11, (.invokestatic 39, 3, [3, 651])), (14, (.putfield 15, 3, [8, 1, 0, 0, 0, 391]))], [(1, (.aload_n 0, 1, [])), (2, (.getfield 18, 3, [8, 2, 0, 393])), (5, (.iconst 0, 1, [0])), (6, (.invokestatic 45, 3, [2, 1, 2, 0, 652])), (9, (.aload_n 1, 1, [])), (10, (.getfield 51, 3, [10, 14, 1, 261])), (13, (.iconst 0, 1, [0])), (14, (.aload_n 0, 1, [])), (15, (.getfield 22, 3, [8, 3, 0, 397]))], [(2, (.iconst 0, 1, [0])), (3, (.bipush 56, 2, [56])), (5, (.invokestatic 52, 3, [1, 653])), (8, (.aload_n 0, 1, [])), (9, (.getfield 25, 3, [8, 4, 0, 399])), (12, (.iconst 1, 1, [1])), (13, (.invokestatic 45, 3, [2, 1, 2, 0, 652]))], [(0, (.aload_n 0, 1, [])), (1, (.getfield 28, 3, [8, 5, 0, 403])), (4, (.iconst 0, 1, [0])), (5, (.invokestatic 45, 3, [2, 1, 2, 0, 652])), (8, (.aload_n 0, 1, [])), (9, (.getfield 31, 3, [8, 6, 0, 405])), (12, (.iconst 0, 1, [0])), (13, (.invokestatic 45, 3, [2, 1, 2, 0, 652]))], [(0, (.return_, 1, []))]]
set_option maxRecDepth 100000 in
theorem sx_q_X8_begin : sx_t_X8_begin = sx_cT sx_d_X8_begin := rfl
set_option maxRecDepth 100000 in
theorem sx_y_X8_begin : sx_yOk 155 sx_t_X8_begin := sx_yok0 (by decide +kernel) sx_q_X8_begin (by decide +kernel)
def sx_d_X8_copyFrom : List (List (Nat × sx_I)) := [[(0, (.aload_n 0, 1, [])), (1, (.aload_n 1, 1, [])), (2, (.getfield 9, 3, [8, 0, 0, 386])), (5, (.putfield 9, 3, [8, 0, 0, 0, 0, 386])), (8, (.aload_n 0, 1, [])), (9, (.aload_n 1, 1, [])), (10, (.getfield 15, 3, [8, 1, 0, 391])), (13, (.putfield 15, 3, [8, 1, 0, 0, 0, 391]))], [(0, (.aload_n 1, 1, [])), (1, (.getfield 18, 3, [8, 2, 0, 393])), (4, (.iconst 0, 1, [0])), (5, (.aload_n 0, 1, [])), (6, (.getfield 18, 3, [8, 2, 0, 393])), (9, (.iconst 0, 1, [0])), (10, (.iconst 4, 1, [4])), (11, (.invokestatic 52, 3, [1, 653])), (14, (.aload_n 1, 1, [])), (15, (.getfield 22, 3, [8, 3, 0, 397]))], [(2, (.iconst 0, 1, [0])), (3, (.aload_n 0, 1, [])), (4, (.getfield 22, 3, [8, 3, 0, 397])), (7, (.iconst 0, 1, [0])), (8, (.bipush 56, 2, [56])), (10, (.invokestatic 52, 3, [1, 653])), (13, (.aload_n 1, 1, [])), (14, (.getfield 25, 3, [8, 4, 0, 399]))], [(1, (.iconst 0, 1, [0])), (2, (.aload_n 0, 1, [])), (3, (.getfield 25, 3, [8, 4, 0, 399])), (6, (.iconst 0, 1, [0])), (7, (.bipush 8, 2, [8])), (9, (.invokestatic 52, 3, [1, 653])), (12, (.aload_n 1, 1, [])), (13, (.getfield 28, 3, [8, 5, 0, 403]))], [(0, (.iconst 0, 1, [0])), (1, (.aload_n 0, 1, [])), (2, (.getfield 28, 3, [8, 5, 0, 403])), (5, (.iconst 0, 1, [0])), (6, (.bipush 48, 2, [48])), (8, (.invokestatic 52, 3, [1, 653])), (11, (.aload_n 1, 1, [])), (12, (.getfield 31, 3, [8, 6, 0, 405])), (15, (.iconst 0, 1, [0]))], [(0, (.aload_n 0, 1, [])), (1, (.getfield 31, 3, [8, 6, 0, 405])), (4, (.iconst 0, 1, [0])), (5, (.bipush 8, 2, [8])), (7, (.invokestatic 52, 3, [1, 653])), (10, (.return_, 1, []))]]
set_option maxRecDepth 100000 in
theorem sx_q_X8_copyFrom : sx_t_X8_copyFrom = sx_cT sx_d_X8_copyFrom := rfl
set_option maxRecDepth 100000 in
theorem sx_y_X8_copyFrom : sx_yOk 156 sx_t_X8_copyFrom := sx_yok0 (by decide +kernel) sx_q_X8_copyFrom (by decide +kernel)
def sx_d_X8_init : List (List (Nat × sx_I)) := [[(0, (.aload_n 0, 1, [])), (1, (.invokespecial 3, 3, [0, 385])), (4, (.aload_n 0, 1, [])), (5, (.iconst 0, 1, [0])), (6, (.putfield 9, 3, [8, 0, 0, 0, 0, 386])), (9, (.aload_n 0, 1, [])), (10, (.iconst 0, 1, [0])), (11, (.putfield 15, 3, [8, 1, 0, 0, 0, 391])), (14, (.aload_n 0, 1, [])), (15, (.iconst 4, 1, [4]))], [(0, (.newarray .int, 2, [0])), (2, (.putfield 18, 3, [8, 2, 1, 0, 1, 393])), (5, (.aload_n 0, 1, [])), (6, (.bipush 56, 2, [56])), (8, (.newarray .int, 2, [0])), (10, (.putfield 22, 3, [8, 3, 1, 0, 1, 397])), (13, (.aload_n 0, 1, [])), (14, (.bipush 8, 2, [8]))], [(0, (.newarray .int, 2, [0])), (2, (.putfield 25, 3, [8, 4, 1, 0, 1, 399])), (5, (.aload_n 0, 1, [])), (6, (.bipush 48, 2, [48])), (8, (.newarray .int, 2, [0])), (10, (.putfield 28, 3, [8, 5, 1, 0, 1, 403])), (13, (.aload_n 0, 1, [])), (14, (.bipush 8, 2, [8]))], [(0, (.newarray .int, 2, [0])), (2, (.putfield 31, 3, [8, 6, 1, 0, 1, 405])), (5, (.return_, 1, []))]]
set_option maxRecDepth 100000 in
theorem sx_q_X8_init : sx_t_X8_init = sx_cT sx_d_X8_init := rfl
set_option maxRecDepth 100000 in
theorem sx_y_X8_init : sx_yOk 157 sx_t_X8_init := sx_yok1 (by decide +kernel) (by decide +kernel) sx_q_X8_init (by decide +kernel)
end
section
/-! data of the law, 0 -/
def sx_d_law0 : List (List (Nat × sx_I)) := [[(0, (.new 7, 3, [11, 188])), (3, (.dup, 1, [])), (4, (.invokespecial 9, 3, [2, 36, 1, 0, 190])), (7, (.astore_n 1, 1, [])), (8, (.new 10, 3, [12, 1791])), (11, (.dup, 1, [])), (12, (.invokespecial 12, 3, [2, 89, 1, 0, 1793])), (15, (.astore_n 2, 1, []))], [(0, (.iconst 0, 1, [0])), (1, (.istore_n 3, 1, [])), (2, (.iload_n 3, 1, [])), (3, (.aload_n 0, 1, [])), (4, (.arraylength, 1, [])), (5, (.bipush 6, 2, [6])), (7, (.isub, 1, [])), (8, (.if_icmp .gt 1400, 3, [1424])), (11, (.aload_n 0, 1, [])), (12, (.iload_n 3, 1, [])), (13, (.iaload, 1, [])), (14, (.bipush 63, 2, [63]))], [(0, (.iand, 1, [])), (1, (.tableswitch 1385 0 41 #[183, 246, 269, 282, 305, 338, 371, 404, 437, 470, 503, 536, 579, 602, 635, 678, 701, 714, 727, 740, 783, 816, 839, 852, 885, 918, 961, 1000, 1013, 1036, 1049, 1072, 1095, 1128, 1161, 1184, 1207, 1240, 1283, 1316, 1339, 1362], 183, [1418, 2147483648, 216, 279, 302, 315, 338, 371, 404, 437, 470, 503, 536, 569, 612, 635, 668, 711, 734, 747, 760, 773, 816, 849, 872, 885, 918, 951, 994, 1033, 1046, 1069, 1082, 1105, 1128, 1161, 1194, 1217, 1240, 1273, 1316, 1349, 1372, 1395]))], [], [], []]
set_option maxRecDepth 100000 in
theorem sx_k_law0 : sx_chkTab "TwoInOneLaw" code 4 false (some .boolean) 0 sx_d_law0 = true := by decide +kernel
def sx_d_law1 : List (List (Nat × sx_I)) := [[], [], [], [], [], []]
set_option maxRecDepth 100000 in
theorem sx_k_law1 : sx_chkTab "TwoInOneLaw" code 4 false (some .boolean) 6 sx_d_law1 = true := by decide +kernel
def sx_d_law2 : List (List (Nat × sx_I)) := [[], [(8, (.aload_n 1, 1, [])), (9, (.aload_n 0, 1, [])), (10, (.iload_n 3, 1, [])), (11, (.iconst 1, 1, [1])), (12, (.iadd, 1, [])), (13, (.iaload, 1, [])), (14, (.aload_n 0, 1, [])), (15, (.iload_n 3, 1, []))], [(0, (.iconst 2, 1, [2])), (1, (.iadd, 1, [])), (2, (.iaload, 1, [])), (3, (.aload_n 0, 1, [])), (4, (.iload_n 3, 1, [])), (5, (.iconst 3, 1, [3])), (6, (.iadd, 1, [])), (7, (.iaload, 1, [])), (8, (.aload_n 0, 1, [])), (9, (.iload_n 3, 1, [])), (10, (.iconst 4, 1, [4])), (11, (.iadd, 1, [])), (12, (.iaload, 1, [])), (13, (.aload_n 0, 1, [])), (14, (.iload_n 3, 1, [])), (15, (.iconst 5, 1, [5]))], [(0, (.iadd, 1, [])), (1, (.iaload, 1, [])), (2, (.invokevirtual 13, 3, [2, 30, 6, 0, 709])), (5, (.aload_n 2, 1, [])), (6, (.aload_n 0, 1, [])), (7, (.iload_n 3, 1, [])), (8, (.iconst 1, 1, [1])), (9, (.iadd, 1, [])), (10, (.iaload, 1, [])), (11, (.aload_n 0, 1, [])), (12, (.iload_n 3, 1, [])), (13, (.iconst 2, 1, [2])), (14, (.iadd, 1, [])), (15, (.iaload, 1, []))], [(0, (.aload_n 0, 1, [])), (1, (.iload_n 3, 1, [])), (2, (.iconst 3, 1, [3])), (3, (.iadd, 1, [])), (4, (.iaload, 1, [])), (5, (.aload_n 0, 1, [])), (6, (.iload_n 3, 1, [])), (7, (.iconst 4, 1, [4])), (8, (.iadd, 1, [])), (9, (.iaload, 1, [])), (10, (.aload_n 0, 1, [])), (11, (.iload_n 3, 1, [])), (12, (.iconst 5, 1, [5])), (13, (.iadd, 1, [])), (14, (.iaload, 1, [])), (15, (.invokevirtual 17, 3, [2, 80, 6, 0, 2574]))], [(2, (.if_icmp .eq 1144, 3, [1418])), (5, (.iconst 0, 1, [0])), (6, (.ireturn, 1, [1])), (7, (.aload_n 1, 1, [])), (8, (.aload_n 0, 1, [])), (9, (.iload_n 3, 1, [])), (10, (.iconst 1, 1, [1])), (11, (.iadd, 1, [])), (12, (.iaload, 1, [])), (13, (.invokevirtual 18, 3, [2, 26, 2, 0, 717]))]]
set_option maxRecDepth 100000 in
theorem sx_k_law2 : sx_chkTab "TwoInOneLaw" code 4 false (some .boolean) 12 sx_d_law2 = true := by decide +kernel
end
section
/-! data of the law, 1 -/
def sx_d_law3 : List (List (Nat × sx_I)) := [[(0, (.aload_n 2, 1, [])), (1, (.aload_n 0, 1, [])), (2, (.iload_n 3, 1, [])), (3, (.iconst 1, 1, [1])), (4, (.iadd, 1, [])), (5, (.iaload, 1, [])), (6, (.invokevirtual 22, 3, [2, 76, 2, 0, 2578])), (9, (.if_icmp .eq 1121, 3, [1418])), (12, (.iconst 0, 1, [0])), (13, (.ireturn, 1, [1])), (14, (.aload_n 1, 1, [])), (15, (.invokevirtual 23, 3, [2, 51, 1, 0, 721]))], [(2, (.aload_n 2, 1, [])), (3, (.invokevirtual 27, 3, [2, 113, 1, 0, 2046])), (6, (.if_icmp .eq 1108, 3, [1418])), (9, (.iconst 0, 1, [0])), (10, (.ireturn, 1, [1])), (11, (.aload_n 1, 1, [])), (12, (.aload_n 0, 1, [])), (13, (.iload_n 3, 1, [])), (14, (.iconst 1, 1, [1])), (15, (.iadd, 1, []))], [(0, (.iaload, 1, [])), (1, (.invokevirtual 28, 3, [2, 29, 2, 0, 904])), (4, (.aload_n 2, 1, [])), (5, (.aload_n 0, 1, [])), (6, (.iload_n 3, 1, [])), (7, (.iconst 1, 1, [1])), (8, (.iadd, 1, [])), (9, (.iaload, 1, [])), (10, (.invokevirtual 31, 3, [2, 79, 2, 0, 2200])), (13, (.if_icmp .eq 1085, 3, [1418]))], [(0, (.iconst 0, 1, [0])), (1, (.ireturn, 1, [1])), (2, (.aload_n 1, 1, [])), (3, (.aload_n 0, 1, [])), (4, (.iload_n 3, 1, [])), (5, (.iconst 1, 1, [1])), (6, (.iadd, 1, [])), (7, (.iaload, 1, [])), (8, (.aload_n 0, 1, [])), (9, (.iload_n 3, 1, [])), (10, (.iconst 2, 1, [2])), (11, (.iadd, 1, [])), (12, (.iaload, 1, [])), (13, (.invokevirtual 32, 3, [2, 32, 3, 0, 908]))], [(0, (.aload_n 2, 1, [])), (1, (.aload_n 0, 1, [])), (2, (.iload_n 3, 1, [])), (3, (.iconst 1, 1, [1])), (4, (.iadd, 1, [])), (5, (.iaload, 1, [])), (6, (.aload_n 0, 1, [])), (7, (.iload_n 3, 1, [])), (8, (.iconst 2, 1, [2])), (9, (.iadd, 1, [])), (10, (.iaload, 1, [])), (11, (.invokevirtual 36, 3, [2, 85, 3, 0, 2204])), (14, (.if_icmp .eq 1052, 3, [1418]))], [(1, (.iconst 0, 1, [0])), (2, (.ireturn, 1, [1])), (3, (.aload_n 1, 1, [])), (4, (.aload_n 0, 1, [])), (5, (.iload_n 3, 1, [])), (6, (.iconst 1, 1, [1])), (7, (.iadd, 1, [])), (8, (.iaload, 1, [])), (9, (.aload_n 0, 1, [])), (10, (.iload_n 3, 1, [])), (11, (.iconst 2, 1, [2])), (12, (.iadd, 1, [])), (13, (.iaload, 1, [])), (14, (.invokevirtual 37, 3, [2, 41, 3, 0, 921]))]]
set_option maxRecDepth 100000 in
theorem sx_k_law3 : sx_chkTab "TwoInOneLaw" code 4 false (some .boolean) 18 sx_d_law3 = true := by decide +kernel
def sx_d_law4 : List (List (Nat × sx_I)) := [[(1, (.aload_n 2, 1, [])), (2, (.aload_n 0, 1, [])), (3, (.iload_n 3, 1, [])), (4, (.iconst 1, 1, [1])), (5, (.iadd, 1, [])), (6, (.iaload, 1, [])), (7, (.aload_n 0, 1, [])), (8, (.iload_n 3, 1, [])), (9, (.iconst 2, 1, [2])), (10, (.iadd, 1, [])), (11, (.iaload, 1, [])), (12, (.invokevirtual 40, 3, [2, 103, 3, 0, 2219])), (15, (.if_icmp .eq 1019, 3, [1418]))], [(2, (.iconst 0, 1, [0])), (3, (.ireturn, 1, [1])), (4, (.aload_n 1, 1, [])), (5, (.aload_n 0, 1, [])), (6, (.iload_n 3, 1, [])), (7, (.iconst 1, 1, [1])), (8, (.iadd, 1, [])), (9, (.iaload, 1, [])), (10, (.aload_n 0, 1, [])), (11, (.iload_n 3, 1, [])), (12, (.iconst 2, 1, [2])), (13, (.iadd, 1, [])), (14, (.iaload, 1, [])), (15, (.invokevirtual 41, 3, [2, 44, 3, 0, 929]))], [(2, (.aload_n 2, 1, [])), (3, (.aload_n 0, 1, [])), (4, (.iload_n 3, 1, [])), (5, (.iconst 1, 1, [1])), (6, (.iadd, 1, [])), (7, (.iaload, 1, [])), (8, (.aload_n 0, 1, [])), (9, (.iload_n 3, 1, [])), (10, (.iconst 2, 1, [2])), (11, (.iadd, 1, [])), (12, (.iaload, 1, [])), (13, (.invokevirtual 44, 3, [2, 107, 3, 0, 2227]))], [(0, (.if_icmp .eq 986, 3, [1418])), (3, (.iconst 0, 1, [0])), (4, (.ireturn, 1, [1])), (5, (.aload_n 1, 1, [])), (6, (.aload_n 0, 1, [])), (7, (.iload_n 3, 1, [])), (8, (.iconst 1, 1, [1])), (9, (.iadd, 1, [])), (10, (.iaload, 1, [])), (11, (.aload_n 0, 1, [])), (12, (.iload_n 3, 1, [])), (13, (.iconst 2, 1, [2])), (14, (.iadd, 1, [])), (15, (.iaload, 1, []))], [(0, (.invokevirtual 45, 3, [2, 35, 3, 0, 937])), (3, (.aload_n 2, 1, [])), (4, (.aload_n 0, 1, [])), (5, (.iload_n 3, 1, [])), (6, (.iconst 1, 1, [1])), (7, (.iadd, 1, [])), (8, (.iaload, 1, [])), (9, (.aload_n 0, 1, [])), (10, (.iload_n 3, 1, [])), (11, (.iconst 2, 1, [2])), (12, (.iadd, 1, [])), (13, (.iaload, 1, [])), (14, (.invokevirtual 48, 3, [2, 88, 3, 0, 2239]))], [(1, (.if_icmp .eq 953, 3, [1418])), (4, (.iconst 0, 1, [0])), (5, (.ireturn, 1, [1])), (6, (.aload_n 1, 1, [])), (7, (.aload_n 0, 1, [])), (8, (.iload_n 3, 1, [])), (9, (.iconst 1, 1, [1])), (10, (.iadd, 1, [])), (11, (.iaload, 1, [])), (12, (.aload_n 0, 1, [])), (13, (.iload_n 3, 1, [])), (14, (.iconst 2, 1, [2])), (15, (.iadd, 1, []))]]
set_option maxRecDepth 100000 in
theorem sx_k_law4 : sx_chkTab "TwoInOneLaw" code 4 false (some .boolean) 24 sx_d_law4 = true := by decide +kernel
def sx_d_law5 : List (List (Nat × sx_I)) := [[(0, (.iaload, 1, [])), (1, (.invokevirtual 49, 3, [2, 21, 3, 0, 947])), (4, (.aload_n 2, 1, [])), (5, (.aload_n 0, 1, [])), (6, (.iload_n 3, 1, [])), (7, (.iconst 1, 1, [1])), (8, (.iadd, 1, [])), (9, (.iaload, 1, [])), (10, (.aload_n 0, 1, [])), (11, (.iload_n 3, 1, [])), (12, (.iconst 2, 1, [2])), (13, (.iadd, 1, [])), (14, (.iaload, 1, [])), (15, (.invokevirtual 52, 3, [2, 68, 3, 0, 2251]))], [(2, (.if_icmp .eq 920, 3, [1418])), (5, (.iconst 0, 1, [0])), (6, (.ireturn, 1, [1])), (7, (.aload_n 1, 1, [])), (8, (.aload_n 0, 1, [])), (9, (.iload_n 3, 1, [])), (10, (.iconst 1, 1, [1])), (11, (.iadd, 1, [])), (12, (.iaload, 1, [])), (13, (.aload_n 0, 1, [])), (14, (.iload_n 3, 1, [])), (15, (.iconst 2, 1, [2]))], [(0, (.iadd, 1, [])), (1, (.iaload, 1, [])), (2, (.invokevirtual 53, 3, [2, 37, 3, 0, 996])), (5, (.aload_n 2, 1, [])), (6, (.aload_n 0, 1, [])), (7, (.iload_n 3, 1, [])), (8, (.iconst 1, 1, [1])), (9, (.iadd, 1, [])), (10, (.iaload, 1, [])), (11, (.aload_n 0, 1, [])), (12, (.iload_n 3, 1, [])), (13, (.iconst 2, 1, [2])), (14, (.iadd, 1, [])), (15, (.iaload, 1, []))], [(0, (.invokevirtual 56, 3, [2, 97, 3, 0, 2298])), (3, (.if_icmp .eq 887, 3, [1418])), (6, (.iconst 0, 1, [0])), (7, (.ireturn, 1, [1])), (8, (.aload_n 1, 1, [])), (9, (.aload_n 0, 1, [])), (10, (.iload_n 3, 1, [])), (11, (.iconst 1, 1, [1])), (12, (.iadd, 1, [])), (13, (.iaload, 1, [])), (14, (.aload_n 0, 1, [])), (15, (.iload_n 3, 1, []))], [(0, (.iconst 2, 1, [2])), (1, (.iadd, 1, [])), (2, (.iaload, 1, [])), (3, (.invokevirtual 57, 3, [2, 49, 3, 0, 1008])), (6, (.aload_n 2, 1, [])), (7, (.aload_n 0, 1, [])), (8, (.iload_n 3, 1, [])), (9, (.iconst 1, 1, [1])), (10, (.iadd, 1, [])), (11, (.iaload, 1, [])), (12, (.aload_n 0, 1, [])), (13, (.iload_n 3, 1, [])), (14, (.iconst 2, 1, [2])), (15, (.iadd, 1, []))], [(0, (.iaload, 1, [])), (1, (.invokevirtual 60, 3, [2, 111, 3, 0, 2307])), (4, (.if_icmp .eq 854, 3, [1418])), (7, (.iconst 0, 1, [0])), (8, (.ireturn, 1, [1])), (9, (.aload_n 1, 1, [])), (10, (.aload_n 0, 1, [])), (11, (.iload_n 3, 1, [])), (12, (.iconst 1, 1, [1])), (13, (.iadd, 1, [])), (14, (.iaload, 1, [])), (15, (.aload_n 0, 1, []))]]
set_option maxRecDepth 100000 in
theorem sx_k_law5 : sx_chkTab "TwoInOneLaw" code 4 false (some .boolean) 30 sx_d_law5 = true := by decide +kernel
end
section
/-! data of the law, 2 -/
def sx_d_law6 : List (List (Nat × sx_I)) := [[(0, (.iload_n 3, 1, [])), (1, (.iconst 2, 1, [2])), (2, (.iadd, 1, [])), (3, (.iaload, 1, [])), (4, (.aload_n 0, 1, [])), (5, (.iload_n 3, 1, [])), (6, (.iconst 3, 1, [3])), (7, (.iadd, 1, [])), (8, (.iaload, 1, [])), (9, (.invokevirtual 61, 3, [2, 31, 4, 0, 1016])), (12, (.aload_n 2, 1, [])), (13, (.aload_n 0, 1, [])), (14, (.iload_n 3, 1, [])), (15, (.iconst 1, 1, [1]))], [(0, (.iadd, 1, [])), (1, (.iaload, 1, [])), (2, (.aload_n 0, 1, [])), (3, (.iload_n 3, 1, [])), (4, (.iconst 2, 1, [2])), (5, (.iadd, 1, [])), (6, (.iaload, 1, [])), (7, (.aload_n 0, 1, [])), (8, (.iload_n 3, 1, [])), (9, (.iconst 3, 1, [3])), (10, (.iadd, 1, [])), (11, (.iaload, 1, [])), (12, (.invokevirtual 65, 3, [2, 84, 4, 0, 2311])), (15, (.if_icmp .eq 811, 3, [1418]))], [(2, (.iconst 0, 1, [0])), (3, (.ireturn, 1, [1])), (4, (.aload_n 1, 1, [])), (5, (.aload_n 0, 1, [])), (6, (.iload_n 3, 1, [])), (7, (.iconst 1, 1, [1])), (8, (.iadd, 1, [])), (9, (.iaload, 1, [])), (10, (.invokevirtual 66, 3, [2, 22, 2, 0, 1023])), (13, (.aload_n 2, 1, [])), (14, (.aload_n 0, 1, [])), (15, (.iload_n 3, 1, []))], [(0, (.iconst 1, 1, [1])), (1, (.iadd, 1, [])), (2, (.iaload, 1, [])), (3, (.invokevirtual 69, 3, [2, 71, 2, 0, 2318])), (6, (.if_icmp .eq 788, 3, [1418])), (9, (.iconst 0, 1, [0])), (10, (.ireturn, 1, [1])), (11, (.aload_n 1, 1, [])), (12, (.aload_n 0, 1, [])), (13, (.iload_n 3, 1, [])), (14, (.iconst 1, 1, [1])), (15, (.iadd, 1, []))], [(0, (.iaload, 1, [])), (1, (.aload_n 0, 1, [])), (2, (.iload_n 3, 1, [])), (3, (.iconst 2, 1, [2])), (4, (.iadd, 1, [])), (5, (.iaload, 1, [])), (6, (.invokevirtual 70, 3, [2, 23, 3, 0, 1040])), (9, (.aload_n 2, 1, [])), (10, (.aload_n 0, 1, [])), (11, (.iload_n 3, 1, [])), (12, (.iconst 1, 1, [1])), (13, (.iadd, 1, [])), (14, (.iaload, 1, [])), (15, (.aload_n 0, 1, []))], [(0, (.iload_n 3, 1, [])), (1, (.iconst 2, 1, [2])), (2, (.iadd, 1, [])), (3, (.iaload, 1, [])), (4, (.invokevirtual 73, 3, [2, 72, 3, 0, 2334])), (7, (.if_icmp .eq 755, 3, [1418])), (10, (.iconst 0, 1, [0])), (11, (.ireturn, 1, [1])), (12, (.aload_n 1, 1, [])), (13, (.aload_n 0, 1, [])), (14, (.iload_n 3, 1, [])), (15, (.iconst 1, 1, [1]))]]
set_option maxRecDepth 100000 in
theorem sx_k_law6 : sx_chkTab "TwoInOneLaw" code 4 false (some .boolean) 36 sx_d_law6 = true := by decide +kernel
def sx_d_law7 : List (List (Nat × sx_I)) := [[(0, (.iadd, 1, [])), (1, (.iaload, 1, [])), (2, (.aload_n 0, 1, [])), (3, (.iload_n 3, 1, [])), (4, (.iconst 2, 1, [2])), (5, (.iadd, 1, [])), (6, (.iaload, 1, [])), (7, (.aload_n 0, 1, [])), (8, (.iload_n 3, 1, [])), (9, (.iconst 3, 1, [3])), (10, (.iadd, 1, [])), (11, (.iaload, 1, [])), (12, (.invokevirtual 74, 3, [2, 27, 4, 0, 1044])), (15, (.aload_n 2, 1, []))], [(0, (.aload_n 0, 1, [])), (1, (.iload_n 3, 1, [])), (2, (.iconst 1, 1, [1])), (3, (.iadd, 1, [])), (4, (.iaload, 1, [])), (5, (.aload_n 0, 1, [])), (6, (.iload_n 3, 1, [])), (7, (.iconst 2, 1, [2])), (8, (.iadd, 1, [])), (9, (.iaload, 1, [])), (10, (.aload_n 0, 1, [])), (11, (.iload_n 3, 1, [])), (12, (.iconst 3, 1, [3])), (13, (.iadd, 1, [])), (14, (.iaload, 1, [])), (15, (.invokevirtual 78, 3, [2, 77, 4, 0, 2338]))], [(2, (.if_icmp .eq 712, 3, [1418])), (5, (.iconst 0, 1, [0])), (6, (.ireturn, 1, [1])), (7, (.aload_n 1, 1, [])), (8, (.aload_n 0, 1, [])), (9, (.iload_n 3, 1, [])), (10, (.iconst 1, 1, [1])), (11, (.iadd, 1, [])), (12, (.iaload, 1, [])), (13, (.invokevirtual 79, 3, [2, 24, 2, 0, 1056]))], [(0, (.aload_n 2, 1, [])), (1, (.aload_n 0, 1, [])), (2, (.iload_n 3, 1, [])), (3, (.iconst 1, 1, [1])), (4, (.iadd, 1, [])), (5, (.iaload, 1, [])), (6, (.invokevirtual 82, 3, [2, 73, 2, 0, 2342])), (9, (.if_icmp .eq 689, 3, [1418])), (12, (.iconst 0, 1, [0])), (13, (.ireturn, 1, [1])), (14, (.aload_n 1, 1, [])), (15, (.invokevirtual 83, 3, [2, 47, 1, 0, 1060]))], [(2, (.aload_n 2, 1, [])), (3, (.invokevirtual 86, 3, [2, 110, 1, 0, 2346])), (6, (.if_icmp .eq 676, 3, [1418])), (9, (.iconst 0, 1, [0])), (10, (.ireturn, 1, [1])), (11, (.aload_n 1, 1, [])), (12, (.invokevirtual 87, 3, [2, 57, 1, 0, 1069])), (15, (.aload_n 2, 1, []))], [(0, (.invokevirtual 91, 3, [2, 123, 1, 0, 2350])), (3, (.if_icmp .eq 663, 3, [1418])), (6, (.iconst 0, 1, [0])), (7, (.ireturn, 1, [1])), (8, (.aload_n 1, 1, [])), (9, (.invokevirtual 92, 3, [2, 50, 1, 0, 1081])), (12, (.aload_n 2, 1, [])), (13, (.invokevirtual 95, 3, [2, 112, 1, 0, 2358]))]]
set_option maxRecDepth 100000 in
theorem sx_k_law7 : sx_chkTab "TwoInOneLaw" code 4 false (some .boolean) 42 sx_d_law7 = true := by decide +kernel
def sx_d_law8 : List (List (Nat × sx_I)) := [[(0, (.if_icmp .eq 650, 3, [1418])), (3, (.iconst 0, 1, [0])), (4, (.ireturn, 1, [1])), (5, (.aload_n 1, 1, [])), (6, (.aload_n 0, 1, [])), (7, (.iload_n 3, 1, [])), (8, (.iconst 1, 1, [1])), (9, (.iadd, 1, [])), (10, (.iaload, 1, [])), (11, (.aload_n 0, 1, [])), (12, (.iload_n 3, 1, [])), (13, (.iconst 2, 1, [2])), (14, (.iadd, 1, [])), (15, (.iaload, 1, []))], [(0, (.aload_n 0, 1, [])), (1, (.iload_n 3, 1, [])), (2, (.iconst 3, 1, [3])), (3, (.iadd, 1, [])), (4, (.iaload, 1, [])), (5, (.invokevirtual 96, 3, [2, 45, 4, 0, 1089])), (8, (.aload_n 2, 1, [])), (9, (.aload_n 0, 1, [])), (10, (.iload_n 3, 1, [])), (11, (.iconst 1, 1, [1])), (12, (.iadd, 1, [])), (13, (.iaload, 1, [])), (14, (.aload_n 0, 1, [])), (15, (.iload_n 3, 1, []))], [(0, (.iconst 2, 1, [2])), (1, (.iadd, 1, [])), (2, (.iaload, 1, [])), (3, (.aload_n 0, 1, [])), (4, (.iload_n 3, 1, [])), (5, (.iconst 3, 1, [3])), (6, (.iadd, 1, [])), (7, (.iaload, 1, [])), (8, (.invokevirtual 99, 3, [2, 108, 4, 0, 2366])), (11, (.if_icmp .eq 607, 3, [1418])), (14, (.iconst 0, 1, [0])), (15, (.ireturn, 1, [1]))], [(0, (.aload_n 1, 1, [])), (1, (.aload_n 0, 1, [])), (2, (.iload_n 3, 1, [])), (3, (.iconst 1, 1, [1])), (4, (.iadd, 1, [])), (5, (.iaload, 1, [])), (6, (.aload_n 0, 1, [])), (7, (.iload_n 3, 1, [])), (8, (.iconst 2, 1, [2])), (9, (.iadd, 1, [])), (10, (.iaload, 1, [])), (11, (.invokevirtual 100, 3, [2, 56, 3, 0, 1140])), (14, (.aload_n 2, 1, [])), (15, (.aload_n 0, 1, []))], [(0, (.iload_n 3, 1, [])), (1, (.iconst 1, 1, [1])), (2, (.iadd, 1, [])), (3, (.iaload, 1, [])), (4, (.aload_n 0, 1, [])), (5, (.iload_n 3, 1, [])), (6, (.iconst 2, 1, [2])), (7, (.iadd, 1, [])), (8, (.iaload, 1, [])), (9, (.invokevirtual 103, 3, [2, 122, 3, 0, 2397])), (12, (.if_icmp .eq 574, 3, [1418])), (15, (.iconst 0, 1, [0]))], [(0, (.ireturn, 1, [1])), (1, (.aload_n 1, 1, [])), (2, (.aload_n 0, 1, [])), (3, (.iload_n 3, 1, [])), (4, (.iconst 1, 1, [1])), (5, (.iadd, 1, [])), (6, (.iaload, 1, [])), (7, (.invokevirtual 104, 3, [2, 42, 2, 0, 1557])), (10, (.aload_n 2, 1, [])), (11, (.aload_n 0, 1, [])), (12, (.iload_n 3, 1, [])), (13, (.iconst 1, 1, [1])), (14, (.iadd, 1, [])), (15, (.iaload, 1, []))]]
set_option maxRecDepth 100000 in
theorem sx_k_law8 : sx_chkTab "TwoInOneLaw" code 4 false (some .boolean) 48 sx_d_law8 = true := by decide +kernel
end
section
/-! data of the law, 3 -/
def sx_d_law9 : List (List (Nat × sx_I)) := [[(0, (.invokevirtual 107, 3, [2, 105, 2, 0, 2401])), (3, (.if_icmp .eq 551, 3, [1418])), (6, (.iconst 0, 1, [0])), (7, (.ireturn, 1, [1])), (8, (.aload_n 1, 1, [])), (9, (.invokevirtual 108, 3, [2, 33, 1, 0, 1562])), (12, (.aload_n 2, 1, [])), (13, (.invokevirtual 111, 3, [2, 86, 1, 0, 2405]))], [(0, (.if_icmp .eq 538, 3, [1418])), (3, (.iconst 0, 1, [0])), (4, (.ireturn, 1, [1])), (5, (.aload_n 1, 1, [])), (6, (.aload_n 0, 1, [])), (7, (.iload_n 3, 1, [])), (8, (.iconst 1, 1, [1])), (9, (.iadd, 1, [])), (10, (.iaload, 1, [])), (11, (.aload_n 0, 1, [])), (12, (.iload_n 3, 1, [])), (13, (.iconst 2, 1, [2])), (14, (.iadd, 1, [])), (15, (.iaload, 1, []))], [(0, (.invokevirtual 112, 3, [2, 18, 3, 0, 1566])), (3, (.aload_n 2, 1, [])), (4, (.aload_n 0, 1, [])), (5, (.iload_n 3, 1, [])), (6, (.iconst 1, 1, [1])), (7, (.iadd, 1, [])), (8, (.iaload, 1, [])), (9, (.aload_n 0, 1, [])), (10, (.iload_n 3, 1, [])), (11, (.iconst 2, 1, [2])), (12, (.iadd, 1, [])), (13, (.iaload, 1, [])), (14, (.invokevirtual 115, 3, [2, 65, 3, 0, 2409]))], [(1, (.if_icmp .eq 505, 3, [1418])), (4, (.iconst 0, 1, [0])), (5, (.ireturn, 1, [1])), (6, (.aload_n 1, 1, [])), (7, (.aload_n 0, 1, [])), (8, (.iload_n 3, 1, [])), (9, (.iconst 1, 1, [1])), (10, (.iadd, 1, [])), (11, (.iaload, 1, [])), (12, (.aload_n 0, 1, [])), (13, (.iload_n 3, 1, [])), (14, (.iconst 2, 1, [2])), (15, (.iadd, 1, []))], [(0, (.iaload, 1, [])), (1, (.invokevirtual 116, 3, [2, 20, 3, 0, 1591])), (4, (.aload_n 2, 1, [])), (5, (.aload_n 0, 1, [])), (6, (.iload_n 3, 1, [])), (7, (.iconst 1, 1, [1])), (8, (.iadd, 1, [])), (9, (.iaload, 1, [])), (10, (.aload_n 0, 1, [])), (11, (.iload_n 3, 1, [])), (12, (.iconst 2, 1, [2])), (13, (.iadd, 1, [])), (14, (.iaload, 1, [])), (15, (.invokevirtual 119, 3, [2, 67, 3, 0, 2425]))], [(2, (.if_icmp .eq 472, 3, [1418])), (5, (.iconst 0, 1, [0])), (6, (.ireturn, 1, [1])), (7, (.aload_n 1, 1, [])), (8, (.aload_n 0, 1, [])), (9, (.iload_n 3, 1, [])), (10, (.iconst 1, 1, [1])), (11, (.iadd, 1, [])), (12, (.iaload, 1, [])), (13, (.aload_n 0, 1, [])), (14, (.iload_n 3, 1, [])), (15, (.iconst 2, 1, [2]))]]
set_option maxRecDepth 100000 in
theorem sx_k_law9 : sx_chkTab "TwoInOneLaw" code 4 false (some .boolean) 54 sx_d_law9 = true := by decide +kernel
def sx_d_law10 : List (List (Nat × sx_I)) := [[(0, (.iadd, 1, [])), (1, (.iaload, 1, [])), (2, (.aload_n 0, 1, [])), (3, (.iload_n 3, 1, [])), (4, (.iconst 3, 1, [3])), (5, (.iadd, 1, [])), (6, (.iaload, 1, [])), (7, (.invokevirtual 120, 3, [2, 38, 4, 0, 1600])), (10, (.aload_n 2, 1, [])), (11, (.aload_n 0, 1, [])), (12, (.iload_n 3, 1, [])), (13, (.iconst 1, 1, [1])), (14, (.iadd, 1, [])), (15, (.iaload, 1, []))], [(0, (.aload_n 0, 1, [])), (1, (.iload_n 3, 1, [])), (2, (.iconst 2, 1, [2])), (3, (.iadd, 1, [])), (4, (.iaload, 1, [])), (5, (.aload_n 0, 1, [])), (6, (.iload_n 3, 1, [])), (7, (.iconst 3, 1, [3])), (8, (.iadd, 1, [])), (9, (.iaload, 1, [])), (10, (.invokevirtual 123, 3, [2, 99, 4, 0, 2433])), (13, (.if_icmp .eq 429, 3, [1418]))], [(0, (.iconst 0, 1, [0])), (1, (.ireturn, 1, [1])), (2, (.aload_n 1, 1, [])), (3, (.aload_n 0, 1, [])), (4, (.iload_n 3, 1, [])), (5, (.iconst 1, 1, [1])), (6, (.iadd, 1, [])), (7, (.iaload, 1, [])), (8, (.ifCond .eq 7, 3, [1007])), (11, (.iconst 1, 1, [1])), (12, (.goto 4, 3, [1008])), (15, (.iconst 0, 1, [0]))], [(0, (.invokevirtual 124, 3, [2, 43, 2, 0, 1605])), (3, (.aload_n 2, 1, [])), (4, (.aload_n 0, 1, [])), (5, (.iload_n 3, 1, [])), (6, (.iconst 1, 1, [1])), (7, (.iadd, 1, [])), (8, (.iaload, 1, [])), (9, (.ifCond .eq 7, 3, [1024])), (12, (.iconst 1, 1, [1])), (13, (.goto 4, 3, [1025]))], [(0, (.iconst 0, 1, [0])), (1, (.invokevirtual 128, 3, [2, 106, 2, 0, 2437])), (4, (.if_icmp .eq 390, 3, [1418])), (7, (.iconst 0, 1, [0])), (8, (.ireturn, 1, [1])), (9, (.aload_n 1, 1, [])), (10, (.invokevirtual 129, 3, [2, 28, 1, 0, 1642])), (13, (.aload_n 2, 1, [])), (14, (.invokevirtual 132, 3, [2, 78, 1, 0, 2472]))], [(1, (.if_icmp .eq 377, 3, [1418])), (4, (.iconst 0, 1, [0])), (5, (.ireturn, 1, [1])), (6, (.aload_n 1, 1, [])), (7, (.aload_n 0, 1, [])), (8, (.iload_n 3, 1, [])), (9, (.iconst 1, 1, [1])), (10, (.iadd, 1, [])), (11, (.iaload, 1, [])), (12, (.invokevirtual 133, 3, [2, 25, 2, 0, 1646])), (15, (.aload_n 2, 1, []))]]
set_option maxRecDepth 100000 in
theorem sx_k_law10 : sx_chkTab "TwoInOneLaw" code 4 false (some .boolean) 60 sx_d_law10 = true := by decide +kernel
def sx_d_law11 : List (List (Nat × sx_I)) := [[(0, (.aload_n 0, 1, [])), (1, (.iload_n 3, 1, [])), (2, (.iconst 1, 1, [1])), (3, (.iadd, 1, [])), (4, (.iaload, 1, [])), (5, (.invokevirtual 136, 3, [2, 74, 2, 0, 2476])), (8, (.if_icmp .eq 354, 3, [1418])), (11, (.iconst 0, 1, [0])), (12, (.ireturn, 1, [1])), (13, (.aload_n 1, 1, [])), (14, (.invokevirtual 137, 3, [2, 46, 1, 0, 1664]))], [(1, (.aload_n 2, 1, [])), (2, (.invokevirtual 140, 3, [2, 109, 1, 0, 2492])), (5, (.if_icmp .eq 341, 3, [1418])), (8, (.iconst 0, 1, [0])), (9, (.ireturn, 1, [1])), (10, (.aload_n 1, 1, [])), (11, (.aload_n 0, 1, [])), (12, (.iload_n 3, 1, [])), (13, (.iconst 1, 1, [1])), (14, (.iadd, 1, [])), (15, (.iaload, 1, []))], [(0, (.invokevirtual 141, 3, [2, 54, 2, 0, 1672])), (3, (.aload_n 2, 1, [])), (4, (.aload_n 0, 1, [])), (5, (.iload_n 3, 1, [])), (6, (.iconst 1, 1, [1])), (7, (.iadd, 1, [])), (8, (.iaload, 1, [])), (9, (.invokevirtual 144, 3, [2, 119, 2, 0, 2496])), (12, (.if_icmp .eq 318, 3, [1418])), (15, (.iconst 0, 1, [0]))], [(0, (.ireturn, 1, [1])), (1, (.aload_n 1, 1, [])), (2, (.aload_n 0, 1, [])), (3, (.iload_n 3, 1, [])), (4, (.iconst 1, 1, [1])), (5, (.iadd, 1, [])), (6, (.iaload, 1, [])), (7, (.invokevirtual 145, 3, [2, 40, 2, 0, 1682])), (10, (.aload_n 2, 1, [])), (11, (.aload_n 0, 1, [])), (12, (.iload_n 3, 1, [])), (13, (.iconst 1, 1, [1])), (14, (.iadd, 1, [])), (15, (.iaload, 1, []))], [(0, (.invokevirtual 148, 3, [2, 101, 2, 0, 2362])), (3, (.if_icmp .eq 295, 3, [1418])), (6, (.iconst 0, 1, [0])), (7, (.ireturn, 1, [1])), (8, (.aload_n 1, 1, [])), (9, (.aload_n 0, 1, [])), (10, (.iload_n 3, 1, [])), (11, (.iconst 1, 1, [1])), (12, (.iadd, 1, [])), (13, (.iaload, 1, [])), (14, (.aload_n 0, 1, [])), (15, (.iload_n 3, 1, []))], [(0, (.iconst 2, 1, [2])), (1, (.iadd, 1, [])), (2, (.iaload, 1, [])), (3, (.invokevirtual 149, 3, [2, 53, 3, 0, 1687])), (6, (.aload_n 2, 1, [])), (7, (.aload_n 0, 1, [])), (8, (.iload_n 3, 1, [])), (9, (.iconst 1, 1, [1])), (10, (.iadd, 1, [])), (11, (.iaload, 1, [])), (12, (.aload_n 0, 1, [])), (13, (.iload_n 3, 1, [])), (14, (.iconst 2, 1, [2])), (15, (.iadd, 1, []))]]
set_option maxRecDepth 100000 in
theorem sx_k_law11 : sx_chkTab "TwoInOneLaw" code 4 false (some .boolean) 66 sx_d_law11 = true := by decide +kernel
end
section
/-! data of the law, 4 -/
def sx_d_law12 : List (List (Nat × sx_I)) := [[(0, (.iaload, 1, [])), (1, (.invokevirtual 152, 3, [2, 115, 3, 0, 2501])), (4, (.if_icmp .eq 262, 3, [1418])), (7, (.iconst 0, 1, [0])), (8, (.ireturn, 1, [1])), (9, (.aload_n 1, 1, [])), (10, (.aload_n 0, 1, [])), (11, (.iload_n 3, 1, [])), (12, (.iconst 1, 1, [1])), (13, (.iadd, 1, [])), (14, (.iaload, 1, [])), (15, (.aload_n 0, 1, []))], [(0, (.iload_n 3, 1, [])), (1, (.iconst 2, 1, [2])), (2, (.iadd, 1, [])), (3, (.iaload, 1, [])), (4, (.invokevirtual 153, 3, [2, 52, 3, 0, 1695])), (7, (.aload_n 2, 1, [])), (8, (.aload_n 0, 1, [])), (9, (.iload_n 3, 1, [])), (10, (.iconst 1, 1, [1])), (11, (.iadd, 1, [])), (12, (.iaload, 1, [])), (13, (.aload_n 0, 1, [])), (14, (.iload_n 3, 1, [])), (15, (.iconst 2, 1, [2]))], [(0, (.iadd, 1, [])), (1, (.iaload, 1, [])), (2, (.invokevirtual 156, 3, [2, 114, 3, 0, 2509])), (5, (.if_icmp .eq 229, 3, [1418])), (8, (.iconst 0, 1, [0])), (9, (.ireturn, 1, [1])), (10, (.aload_n 1, 1, [])), (11, (.aload_n 0, 1, [])), (12, (.iload_n 3, 1, [])), (13, (.iconst 1, 1, [1])), (14, (.iadd, 1, [])), (15, (.iaload, 1, []))], [(0, (.invokevirtual 157, 3, [2, 58, 2, 0, 1699])), (3, (.aload_n 2, 1, [])), (4, (.aload_n 0, 1, [])), (5, (.iload_n 3, 1, [])), (6, (.iconst 1, 1, [1])), (7, (.iadd, 1, [])), (8, (.iaload, 1, [])), (9, (.invokevirtual 161, 3, [2, 124, 2, 0, 2513])), (12, (.if_icmp .eq 206, 3, [1418])), (15, (.iconst 0, 1, [0]))], [(0, (.ireturn, 1, [1])), (1, (.aload_n 1, 1, [])), (2, (.aload_n 0, 1, [])), (3, (.iload_n 3, 1, [])), (4, (.iconst 1, 1, [1])), (5, (.iadd, 1, [])), (6, (.iaload, 1, [])), (7, (.invokevirtual 162, 3, [2, 39, 2, 0, 1707])), (10, (.aload_n 2, 1, [])), (11, (.aload_n 0, 1, [])), (12, (.iload_n 3, 1, [])), (13, (.iconst 1, 1, [1])), (14, (.iadd, 1, [])), (15, (.iaload, 1, []))], [(0, (.invokevirtual 165, 3, [2, 100, 2, 0, 2517])), (3, (.if_icmp .eq 183, 3, [1418])), (6, (.iconst 0, 1, [0])), (7, (.ireturn, 1, [1])), (8, (.aload_n 1, 1, [])), (9, (.aload_n 0, 1, [])), (10, (.iload_n 3, 1, [])), (11, (.iconst 1, 1, [1])), (12, (.iadd, 1, [])), (13, (.iaload, 1, [])), (14, (.aload_n 0, 1, [])), (15, (.iload_n 3, 1, []))]]
set_option maxRecDepth 100000 in
theorem sx_k_law12 : sx_chkTab "TwoInOneLaw" code 4 false (some .boolean) 72 sx_d_law12 = true := by decide +kernel
def sx_d_law13 : List (List (Nat × sx_I)) := [[(0, (.iconst 2, 1, [2])), (1, (.iadd, 1, [])), (2, (.iaload, 1, [])), (3, (.invokevirtual 166, 3, [2, 16, 3, 0, 1712])), (6, (.aload_n 2, 1, [])), (7, (.aload_n 0, 1, [])), (8, (.iload_n 3, 1, [])), (9, (.iconst 1, 1, [1])), (10, (.iadd, 1, [])), (11, (.iaload, 1, [])), (12, (.aload_n 0, 1, [])), (13, (.iload_n 3, 1, [])), (14, (.iconst 2, 1, [2])), (15, (.iadd, 1, []))], [(0, (.iaload, 1, [])), (1, (.invokevirtual 169, 3, [2, 62, 3, 0, 2522])), (4, (.if_icmp .eq 150, 3, [1418])), (7, (.iconst 0, 1, [0])), (8, (.ireturn, 1, [1])), (9, (.aload_n 1, 1, [])), (10, (.aload_n 0, 1, [])), (11, (.iload_n 3, 1, [])), (12, (.iconst 1, 1, [1])), (13, (.iadd, 1, [])), (14, (.iaload, 1, [])), (15, (.aload_n 0, 1, []))], [(0, (.iload_n 3, 1, [])), (1, (.iconst 2, 1, [2])), (2, (.iadd, 1, [])), (3, (.iaload, 1, [])), (4, (.aload_n 0, 1, [])), (5, (.iload_n 3, 1, [])), (6, (.iconst 3, 1, [3])), (7, (.iadd, 1, [])), (8, (.iaload, 1, [])), (9, (.invokevirtual 170, 3, [2, 59, 4, 0, 1744])), (12, (.aload_n 2, 1, [])), (13, (.aload_n 0, 1, [])), (14, (.iload_n 3, 1, [])), (15, (.iconst 1, 1, [1]))], [(0, (.iadd, 1, [])), (1, (.iaload, 1, [])), (2, (.aload_n 0, 1, [])), (3, (.iload_n 3, 1, [])), (4, (.iconst 2, 1, [2])), (5, (.iadd, 1, [])), (6, (.iaload, 1, [])), (7, (.aload_n 0, 1, [])), (8, (.iload_n 3, 1, [])), (9, (.iconst 3, 1, [3])), (10, (.iadd, 1, [])), (11, (.iaload, 1, [])), (12, (.invokevirtual 173, 3, [2, 125, 4, 0, 2546])), (15, (.if_icmp .eq 107, 3, [1418]))], [(2, (.iconst 0, 1, [0])), (3, (.ireturn, 1, [1])), (4, (.aload_n 1, 1, [])), (5, (.aload_n 0, 1, [])), (6, (.iload_n 3, 1, [])), (7, (.iconst 1, 1, [1])), (8, (.iadd, 1, [])), (9, (.iaload, 1, [])), (10, (.aload_n 0, 1, [])), (11, (.iload_n 3, 1, [])), (12, (.iconst 2, 1, [2])), (13, (.iadd, 1, [])), (14, (.iaload, 1, [])), (15, (.invokevirtual 174, 3, [2, 55, 3, 0, 1748]))], [(2, (.aload_n 2, 1, [])), (3, (.aload_n 0, 1, [])), (4, (.iload_n 3, 1, [])), (5, (.iconst 1, 1, [1])), (6, (.iadd, 1, [])), (7, (.iaload, 1, [])), (8, (.aload_n 0, 1, [])), (9, (.iload_n 3, 1, [])), (10, (.iconst 2, 1, [2])), (11, (.iadd, 1, [])), (12, (.iaload, 1, [])), (13, (.invokevirtual 177, 3, [2, 120, 3, 0, 2550]))]]
set_option maxRecDepth 100000 in
theorem sx_k_law13 : sx_chkTab "TwoInOneLaw" code 4 false (some .boolean) 78 sx_d_law13 = true := by decide +kernel
def sx_d_law14 : List (List (Nat × sx_I)) := [[(0, (.if_icmp .eq 74, 3, [1418])), (3, (.iconst 0, 1, [0])), (4, (.ireturn, 1, [1])), (5, (.aload_n 1, 1, [])), (6, (.aload_n 0, 1, [])), (7, (.iload_n 3, 1, [])), (8, (.iconst 1, 1, [1])), (9, (.iadd, 1, [])), (10, (.iaload, 1, [])), (11, (.invokevirtual 178, 3, [2, 34, 2, 0, 1771])), (14, (.aload_n 2, 1, [])), (15, (.aload_n 0, 1, []))], [(0, (.iload_n 3, 1, [])), (1, (.iconst 1, 1, [1])), (2, (.iadd, 1, [])), (3, (.iaload, 1, [])), (4, (.invokevirtual 181, 3, [2, 87, 2, 0, 2562])), (7, (.if_icmp .eq 51, 3, [1418])), (10, (.iconst 0, 1, [0])), (11, (.ireturn, 1, [1])), (12, (.aload_n 1, 1, [])), (13, (.aload_n 0, 1, [])), (14, (.iload_n 3, 1, [])), (15, (.iconst 1, 1, [1]))], [(0, (.iadd, 1, [])), (1, (.iaload, 1, [])), (2, (.invokevirtual 182, 3, [2, 17, 2, 0, 1779])), (5, (.aload_n 2, 1, [])), (6, (.aload_n 0, 1, [])), (7, (.iload_n 3, 1, [])), (8, (.iconst 1, 1, [1])), (9, (.iadd, 1, [])), (10, (.iaload, 1, [])), (11, (.invokevirtual 185, 3, [2, 63, 2, 0, 2566])), (14, (.if_icmp .eq 28, 3, [1418]))], [(1, (.iconst 0, 1, [0])), (2, (.ireturn, 1, [1])), (3, (.aload_n 1, 1, [])), (4, (.aload_n 0, 1, [])), (5, (.iload_n 3, 1, [])), (6, (.iconst 1, 1, [1])), (7, (.iadd, 1, [])), (8, (.iaload, 1, [])), (9, (.invokevirtual 186, 3, [2, 15, 2, 0, 1787])), (12, (.aload_n 2, 1, [])), (13, (.aload_n 0, 1, [])), (14, (.iload_n 3, 1, [])), (15, (.iconst 1, 1, [1]))], [(0, (.iadd, 1, [])), (1, (.iaload, 1, [])), (2, (.invokevirtual 189, 3, [2, 60, 2, 0, 2570])), (5, (.if_icmp .eq 5, 3, [1418])), (8, (.iconst 0, 1, [0])), (9, (.ireturn, 1, [1])), (10, (.iinc 3 6, 3, [6])), (13, (.goto (-1403), 3, [18]))], [(0, (.iconst 1, 1, [1])), (1, (.ireturn, 1, [1]))]]
set_option maxRecDepth 100000 in
theorem sx_k_law14 : sx_chkTab "TwoInOneLaw" code 4 false (some .boolean) 84 sx_d_law14 = true := by decide +kernel
end
section
/-! data of the law -/
theorem sx_chk_app {own : String} {cc : ByteArray} {nL : Nat} {init : Bool} {rt : Option FieldType} : ∀ {a t : List (List (Nat × sx_I))} {r : Nat}, sx_chkTab own cc nL init rt r a = true → sx_chkTab own cc nL init rt (r + a.length) t = true → sx_chkTab own cc nL init rt r (a ++ t) = true
  | [], t, r, _, h => h
  | x :: a, t, r, h, h2 => by
    simp only [sx_chkTab, Bool.and_eq_true, List.cons_append] at h ⊢
    refine ⟨h.1, sx_chk_app h.2 ?_⟩
    rwa [show r + 1 + a.length = r + (x :: a).length by rw [List.length_cons]; omega]
def sx_d_law : List (List (Nat × sx_I)) := sx_d_law0 ++ (sx_d_law1 ++ (sx_d_law2 ++ (sx_d_law3 ++ (sx_d_law4 ++ (sx_d_law5 ++ (sx_d_law6 ++ (sx_d_law7 ++ (sx_d_law8 ++ (sx_d_law9 ++ (sx_d_law10 ++ (sx_d_law11 ++ (sx_d_law12 ++ (sx_d_law13 ++ (sx_d_law14))))))))))))))
set_option maxRecDepth 100000 in
theorem sx_q_law : sx_t_law = sx_cT sx_d_law := rfl
theorem sx_k_law : sx_chkTab "TwoInOneLaw" code 4 false (some .boolean) 0 sx_d_law = true := sx_chk_app sx_k_law0 (sx_chk_app sx_k_law1 (sx_chk_app sx_k_law2 (sx_chk_app sx_k_law3 (sx_chk_app sx_k_law4 (sx_chk_app sx_k_law5 (sx_chk_app sx_k_law6 (sx_chk_app sx_k_law7 (sx_chk_app sx_k_law8 (sx_chk_app sx_k_law9 (sx_chk_app sx_k_law10 (sx_chk_app sx_k_law11 (sx_chk_app sx_k_law12 (sx_chk_app sx_k_law13 (sx_k_law14))))))))))))))
theorem sx_lawOk : sx_tabOk "TwoInOneLaw" code 4 false (some .boolean) (sx_find sx_t_law) := sx_tab_ok sx_q_law sx_k_law
end
section
/-! all methods' tables are sound -/
def sx_rowsOk {α : Type} (P : Nat → α → Prop) : Nat → List (List (Nat × α)) → Prop
  | _, [] => True
  | r, row :: t => (∀ q ∈ row, P (16 * r + q.1) q.2) ∧ sx_rowsOk P (r + 1) t
theorem sx_rowsOk_at {α : Type} {P : Nat → α → Prop} : ∀ {t : List (List (Nat × α))} {r k : Nat} {row : List (Nat × α)}, sx_rowsOk P r t → t[k]? = some row → ∀ q ∈ row, P (16 * (r + k) + q.1) q.2
  | [], _, _, _, _, h => by simp at h
  | x :: t, r, 0, row, h, hk => by
    cases hk
    exact h.1
  | x :: t, r, k + 1, row, h, hk => by
    have h2 := sx_rowsOk_at (r := r + 1) (k := k) h.2 hk
    rwa [show r + 1 + k = r + (k + 1) by omega] at h2
theorem sx_find_ok {α : Type} {P : Nat → α → Prop} {t : List (List (Nat × α))} {k : Nat} {x : α} (hP : sx_rowsOk P 0 t) (h : sx_find t k = some x) : P k x := by
  unfold sx_find at h
  split at h
  next l hl =>
    have h2 := sx_rowsOk_at hP hl _ (sx_row_mem h)
    have e : 16 * (0 + k / 16) + k % 16 = k := by omega
    have h3 : P (16 * (0 + k / 16) + k % 16) x := h2
    rwa [e] at h3
  next => cases h
theorem sx_mlr0 : ∀ q ∈ ([(0, sx_t_J6_bitCount_0f7a4), (1, sx_t_J7_fill_53178), (2, sx_t_X0_daysLost), (3, sx_t_X0_init), (4, sx_t_X0_mostFavoured), (5, sx_t_X0_passDay), (6, sx_t_X0_winner), (7, sx_t_X0_winnerOn), (8, sx_t_X10_copyFrom), (9, sx_t_X10_empty), (10, sx_t_X10_hasDeed), (11, sx_t_X10_hasHalf), (12, sx_t_X10_hasPerson), (13, sx_t_X10_init), (14, sx_t_X10_isMember), (15, sx_t_X11_about)] : List (Nat × List (List (Nat × sx_Q)))), sx_yOk (16 * 0 + q.1) q.2 := List.forall_mem_cons.mpr ⟨sx_y_J6_bitCount_0f7a4, List.forall_mem_cons.mpr ⟨sx_y_J7_fill_53178, List.forall_mem_cons.mpr ⟨sx_y_X0_daysLost, List.forall_mem_cons.mpr ⟨sx_y_X0_init, List.forall_mem_cons.mpr ⟨sx_y_X0_mostFavoured, List.forall_mem_cons.mpr ⟨sx_y_X0_passDay, List.forall_mem_cons.mpr ⟨sx_y_X0_winner, List.forall_mem_cons.mpr ⟨sx_y_X0_winnerOn, List.forall_mem_cons.mpr ⟨sx_y_X10_copyFrom, List.forall_mem_cons.mpr ⟨sx_y_X10_empty, List.forall_mem_cons.mpr ⟨sx_y_X10_hasDeed, List.forall_mem_cons.mpr ⟨sx_y_X10_hasHalf, List.forall_mem_cons.mpr ⟨sx_y_X10_hasPerson, List.forall_mem_cons.mpr ⟨sx_y_X10_init, List.forall_mem_cons.mpr ⟨sx_y_X10_isMember, List.forall_mem_cons.mpr ⟨sx_y_X11_about, fun _ h => absurd h List.not_mem_nil⟩⟩⟩⟩⟩⟩⟩⟩⟩⟩⟩⟩⟩⟩⟩⟩
theorem sx_mlr1 : ∀ q ∈ ([(0, sx_t_X11_alibis), (1, sx_t_X11_back), (2, sx_t_X11_breaks), (3, sx_t_X11_canDo), (4, sx_t_X11_cares), (5, sx_t_X11_chooses), (6, sx_t_X11_days), (7, sx_t_X11_decree), (8, sx_t_X11_die), (9, sx_t_X11_elected), (10, sx_t_X11_end), (11, sx_t_X11_exchange), (12, sx_t_X11_fast), (13, sx_t_X11_fault), (14, sx_t_X11_feed), (15, sx_t_X11_guilt)] : List (Nat × List (List (Nat × sx_Q)))), sx_yOk (16 * 1 + q.1) q.2 := List.forall_mem_cons.mpr ⟨sx_y_X11_alibis, List.forall_mem_cons.mpr ⟨sx_y_X11_back, List.forall_mem_cons.mpr ⟨sx_y_X11_breaks, List.forall_mem_cons.mpr ⟨sx_y_X11_canDo, List.forall_mem_cons.mpr ⟨sx_y_X11_cares, List.forall_mem_cons.mpr ⟨sx_y_X11_chooses, List.forall_mem_cons.mpr ⟨sx_y_X11_days, List.forall_mem_cons.mpr ⟨sx_y_X11_decree, List.forall_mem_cons.mpr ⟨sx_y_X11_die, List.forall_mem_cons.mpr ⟨sx_y_X11_elected, List.forall_mem_cons.mpr ⟨sx_y_X11_end, List.forall_mem_cons.mpr ⟨sx_y_X11_exchange, List.forall_mem_cons.mpr ⟨sx_y_X11_fast, List.forall_mem_cons.mpr ⟨sx_y_X11_fault, List.forall_mem_cons.mpr ⟨sx_y_X11_feed, List.forall_mem_cons.mpr ⟨sx_y_X11_guilt, fun _ h => absurd h List.not_mem_nil⟩⟩⟩⟩⟩⟩⟩⟩⟩⟩⟩⟩⟩⟩⟩⟩
theorem sx_mlr2 : ∀ q ∈ ([(0, sx_t_X11_half), (1, sx_t_X11_hush), (2, sx_t_X11_image), (3, sx_t_X11_in), (4, sx_t_X11_init), (5, sx_t_X11_joy), (6, sx_t_X11_keeps), (7, sx_t_X11_later), (8, sx_t_X11_lies), (9, sx_t_X11_likes), (10, sx_t_X11_next), (11, sx_t_X11_pairing), (12, sx_t_X11_person), (13, sx_t_X11_played), (14, sx_t_X11_popular), (15, sx_t_X11_prank)] : List (Nat × List (List (Nat × sx_Q)))), sx_yOk (16 * 2 + q.1) q.2 := List.forall_mem_cons.mpr ⟨sx_y_X11_half, List.forall_mem_cons.mpr ⟨sx_y_X11_hush, List.forall_mem_cons.mpr ⟨sx_y_X11_image, List.forall_mem_cons.mpr ⟨sx_y_X11_in, List.forall_mem_cons.mpr ⟨sx_y_X11_init, List.forall_mem_cons.mpr ⟨sx_y_X11_joy, List.forall_mem_cons.mpr ⟨sx_y_X11_keeps, List.forall_mem_cons.mpr ⟨sx_y_X11_later, List.forall_mem_cons.mpr ⟨sx_y_X11_lies, List.forall_mem_cons.mpr ⟨sx_y_X11_likes, List.forall_mem_cons.mpr ⟨sx_y_X11_next, List.forall_mem_cons.mpr ⟨sx_y_X11_pairing, List.forall_mem_cons.mpr ⟨sx_y_X11_person, List.forall_mem_cons.mpr ⟨sx_y_X11_played, List.forall_mem_cons.mpr ⟨sx_y_X11_popular, List.forall_mem_cons.mpr ⟨sx_y_X11_prank, fun _ h => absurd h List.not_mem_nil⟩⟩⟩⟩⟩⟩⟩⟩⟩⟩⟩⟩⟩⟩⟩⟩
theorem sx_mlr3 : ∀ q ∈ ([(0, sx_t_X11_put), (1, sx_t_X11_record), (2, sx_t_X11_redo), (3, sx_t_X11_register), (4, sx_t_X11_shown), (5, sx_t_X11_sight), (6, sx_t_X11_stolen), (7, sx_t_X11_stranger), (8, sx_t_X11_together), (9, sx_t_X11_undo), (10, sx_t_X11_untell), (11, sx_t_X11_who), (12, sx_t_X12_about), (13, sx_t_X12_add), (14, sx_t_X12_alibis), (15, sx_t_X12_back)] : List (Nat × List (List (Nat × sx_Q)))), sx_yOk (16 * 3 + q.1) q.2 := List.forall_mem_cons.mpr ⟨sx_y_X11_put, List.forall_mem_cons.mpr ⟨sx_y_X11_record, List.forall_mem_cons.mpr ⟨sx_y_X11_redo, List.forall_mem_cons.mpr ⟨sx_y_X11_register, List.forall_mem_cons.mpr ⟨sx_y_X11_shown, List.forall_mem_cons.mpr ⟨sx_y_X11_sight, List.forall_mem_cons.mpr ⟨sx_y_X11_stolen, List.forall_mem_cons.mpr ⟨sx_y_X11_stranger, List.forall_mem_cons.mpr ⟨sx_y_X11_together, List.forall_mem_cons.mpr ⟨sx_y_X11_undo, List.forall_mem_cons.mpr ⟨sx_y_X11_untell, List.forall_mem_cons.mpr ⟨sx_y_X11_who, List.forall_mem_cons.mpr ⟨sx_y_X12_about, List.forall_mem_cons.mpr ⟨sx_y_X12_add, List.forall_mem_cons.mpr ⟨sx_y_X12_alibis, List.forall_mem_cons.mpr ⟨sx_y_X12_back, fun _ h => absurd h List.not_mem_nil⟩⟩⟩⟩⟩⟩⟩⟩⟩⟩⟩⟩⟩⟩⟩⟩
theorem sx_mlr4 : ∀ q ∈ ([(0, sx_t_X12_bitsOf), (1, sx_t_X12_breaks), (2, sx_t_X12_canBargain), (3, sx_t_X12_cares), (4, sx_t_X12_chooses), (5, sx_t_X12_clearBank), (6, sx_t_X12_clearVotes), (7, sx_t_X12_days), (8, sx_t_X12_decree), (9, sx_t_X12_die), (10, sx_t_X12_elected), (11, sx_t_X12_electedOn), (12, sx_t_X12_end), (13, sx_t_X12_exchange), (14, sx_t_X12_fast), (15, sx_t_X12_fault)] : List (Nat × List (List (Nat × sx_Q)))), sx_yOk (16 * 4 + q.1) q.2 := List.forall_mem_cons.mpr ⟨sx_y_X12_bitsOf, List.forall_mem_cons.mpr ⟨sx_y_X12_breaks, List.forall_mem_cons.mpr ⟨sx_y_X12_canBargain, List.forall_mem_cons.mpr ⟨sx_y_X12_cares, List.forall_mem_cons.mpr ⟨sx_y_X12_chooses, List.forall_mem_cons.mpr ⟨sx_y_X12_clearBank, List.forall_mem_cons.mpr ⟨sx_y_X12_clearVotes, List.forall_mem_cons.mpr ⟨sx_y_X12_days, List.forall_mem_cons.mpr ⟨sx_y_X12_decree, List.forall_mem_cons.mpr ⟨sx_y_X12_die, List.forall_mem_cons.mpr ⟨sx_y_X12_elected, List.forall_mem_cons.mpr ⟨sx_y_X12_electedOn, List.forall_mem_cons.mpr ⟨sx_y_X12_end, List.forall_mem_cons.mpr ⟨sx_y_X12_exchange, List.forall_mem_cons.mpr ⟨sx_y_X12_fast, List.forall_mem_cons.mpr ⟨sx_y_X12_fault, fun _ h => absurd h List.not_mem_nil⟩⟩⟩⟩⟩⟩⟩⟩⟩⟩⟩⟩⟩⟩⟩⟩
theorem sx_mlr5 : ∀ q ∈ ([(0, sx_t_X12_feed), (1, sx_t_X12_firstFree), (2, sx_t_X12_goOn), (3, sx_t_X12_goThrough), (4, sx_t_X12_guilt), (5, sx_t_X12_half), (6, sx_t_X12_hush), (7, sx_t_X12_image), (8, sx_t_X12_in), (9, sx_t_X12_init), (10, sx_t_X12_isDeed), (11, sx_t_X12_isFast), (12, sx_t_X12_isGood), (13, sx_t_X12_isHalf), (14, sx_t_X12_isIn), (15, sx_t_X12_isPerson)] : List (Nat × List (List (Nat × sx_Q)))), sx_yOk (16 * 5 + q.1) q.2 := List.forall_mem_cons.mpr ⟨sx_y_X12_feed, List.forall_mem_cons.mpr ⟨sx_y_X12_firstFree, List.forall_mem_cons.mpr ⟨sx_y_X12_goOn, List.forall_mem_cons.mpr ⟨sx_y_X12_goThrough, List.forall_mem_cons.mpr ⟨sx_y_X12_guilt, List.forall_mem_cons.mpr ⟨sx_y_X12_half, List.forall_mem_cons.mpr ⟨sx_y_X12_hush, List.forall_mem_cons.mpr ⟨sx_y_X12_image, List.forall_mem_cons.mpr ⟨sx_y_X12_in, List.forall_mem_cons.mpr ⟨sx_y_X12_init, List.forall_mem_cons.mpr ⟨sx_y_X12_isDeed, List.forall_mem_cons.mpr ⟨sx_y_X12_isFast, List.forall_mem_cons.mpr ⟨sx_y_X12_isGood, List.forall_mem_cons.mpr ⟨sx_y_X12_isHalf, List.forall_mem_cons.mpr ⟨sx_y_X12_isIn, List.forall_mem_cons.mpr ⟨sx_y_X12_isPerson, fun _ h => absurd h List.not_mem_nil⟩⟩⟩⟩⟩⟩⟩⟩⟩⟩⟩⟩⟩⟩⟩⟩
theorem sx_mlr6 : ∀ q ∈ ([(0, sx_t_X12_isStranger), (1, sx_t_X12_joy), (2, sx_t_X12_keepAct), (3, sx_t_X12_keeps), (4, sx_t_X12_later), (5, sx_t_X12_lies), (6, sx_t_X12_likedInAll), (7, sx_t_X12_likes), (8, sx_t_X12_mostVotes), (9, sx_t_X12_next), (10, sx_t_X12_pairing), (11, sx_t_X12_person), (12, sx_t_X12_played), (13, sx_t_X12_popular), (14, sx_t_X12_prank), (15, sx_t_X12_record)] : List (Nat × List (List (Nat × sx_Q)))), sx_yOk (16 * 6 + q.1) q.2 := List.forall_mem_cons.mpr ⟨sx_y_X12_isStranger, List.forall_mem_cons.mpr ⟨sx_y_X12_joy, List.forall_mem_cons.mpr ⟨sx_y_X12_keepAct, List.forall_mem_cons.mpr ⟨sx_y_X12_keeps, List.forall_mem_cons.mpr ⟨sx_y_X12_later, List.forall_mem_cons.mpr ⟨sx_y_X12_lies, List.forall_mem_cons.mpr ⟨sx_y_X12_likedInAll, List.forall_mem_cons.mpr ⟨sx_y_X12_likes, List.forall_mem_cons.mpr ⟨sx_y_X12_mostVotes, List.forall_mem_cons.mpr ⟨sx_y_X12_next, List.forall_mem_cons.mpr ⟨sx_y_X12_pairing, List.forall_mem_cons.mpr ⟨sx_y_X12_person, List.forall_mem_cons.mpr ⟨sx_y_X12_played, List.forall_mem_cons.mpr ⟨sx_y_X12_popular, List.forall_mem_cons.mpr ⟨sx_y_X12_prank, List.forall_mem_cons.mpr ⟨sx_y_X12_record, fun _ h => absurd h List.not_mem_nil⟩⟩⟩⟩⟩⟩⟩⟩⟩⟩⟩⟩⟩⟩⟩⟩
theorem sx_mlr7 : ∀ q ∈ ([(0, sx_t_X12_redo), (1, sx_t_X12_register), (2, sx_t_X12_shown), (3, sx_t_X12_sight), (4, sx_t_X12_sign), (5, sx_t_X12_skillsSeen), (6, sx_t_X12_startAnew), (7, sx_t_X12_stolen), (8, sx_t_X12_stranger), (9, sx_t_X12_takes), (10, sx_t_X12_together), (11, sx_t_X12_undo), (12, sx_t_X12_untell), (13, sx_t_X12_who), (14, sx_t_X1_init), (15, sx_t_X2_emptyBoxes)] : List (Nat × List (List (Nat × sx_Q)))), sx_yOk (16 * 7 + q.1) q.2 := List.forall_mem_cons.mpr ⟨sx_y_X12_redo, List.forall_mem_cons.mpr ⟨sx_y_X12_register, List.forall_mem_cons.mpr ⟨sx_y_X12_shown, List.forall_mem_cons.mpr ⟨sx_y_X12_sight, List.forall_mem_cons.mpr ⟨sx_y_X12_sign, List.forall_mem_cons.mpr ⟨sx_y_X12_skillsSeen, List.forall_mem_cons.mpr ⟨sx_y_X12_startAnew, List.forall_mem_cons.mpr ⟨sx_y_X12_stolen, List.forall_mem_cons.mpr ⟨sx_y_X12_stranger, List.forall_mem_cons.mpr ⟨sx_y_X12_takes, List.forall_mem_cons.mpr ⟨sx_y_X12_together, List.forall_mem_cons.mpr ⟨sx_y_X12_undo, List.forall_mem_cons.mpr ⟨sx_y_X12_untell, List.forall_mem_cons.mpr ⟨sx_y_X12_who, List.forall_mem_cons.mpr ⟨sx_y_X1_init, List.forall_mem_cons.mpr ⟨sx_y_X2_emptyBoxes, fun _ h => absurd h List.not_mem_nil⟩⟩⟩⟩⟩⟩⟩⟩⟩⟩⟩⟩⟩⟩⟩⟩
theorem sx_mlr8 : ∀ q ∈ ([(0, sx_t_X2_fillBox), (1, sx_t_X2_init), (2, sx_t_X2_keepAct), (3, sx_t_X2_keepAt), (4, sx_t_X2_restart), (5, sx_t_X2_stepBack), (6, sx_t_X2_stepForth), (7, sx_t_X2_takeFromBox), (8, sx_t_X3_extend), (9, sx_t_X3_init), (10, sx_t_X3_isFast), (11, sx_t_X3_judge), (12, sx_t_X3_search), (13, sx_t_X3_tellOthers), (14, sx_t_X4_advance), (15, sx_t_X4_init)] : List (Nat × List (List (Nat × sx_Q)))), sx_yOk (16 * 8 + q.1) q.2 := List.forall_mem_cons.mpr ⟨sx_y_X2_fillBox, List.forall_mem_cons.mpr ⟨sx_y_X2_init, List.forall_mem_cons.mpr ⟨sx_y_X2_keepAct, List.forall_mem_cons.mpr ⟨sx_y_X2_keepAt, List.forall_mem_cons.mpr ⟨sx_y_X2_restart, List.forall_mem_cons.mpr ⟨sx_y_X2_stepBack, List.forall_mem_cons.mpr ⟨sx_y_X2_stepForth, List.forall_mem_cons.mpr ⟨sx_y_X2_takeFromBox, List.forall_mem_cons.mpr ⟨sx_y_X3_extend, List.forall_mem_cons.mpr ⟨sx_y_X3_init, List.forall_mem_cons.mpr ⟨sx_y_X3_isFast, List.forall_mem_cons.mpr ⟨sx_y_X3_judge, List.forall_mem_cons.mpr ⟨sx_y_X3_search, List.forall_mem_cons.mpr ⟨sx_y_X3_tellOthers, List.forall_mem_cons.mpr ⟨sx_y_X4_advance, List.forall_mem_cons.mpr ⟨sx_y_X4_init, fun _ h => absurd h List.not_mem_nil⟩⟩⟩⟩⟩⟩⟩⟩⟩⟩⟩⟩⟩⟩⟩⟩
theorem sx_mlr9 : ∀ q ∈ ([(0, sx_t_X4_read), (1, sx_t_X5_at), (2, sx_t_X5_clear), (3, sx_t_X5_init), (4, sx_t_X7_clear), (5, sx_t_X7_explains), (6, sx_t_X7_init), (7, sx_t_X7_strangerDays), (8, sx_t_X7_strangerHalves), (9, sx_t_X7_takeBack), (10, sx_t_X7_tell), (11, sx_t_X8_begin), (12, sx_t_X8_copyFrom), (13, sx_t_X8_init)] : List (Nat × List (List (Nat × sx_Q)))), sx_yOk (16 * 9 + q.1) q.2 := List.forall_mem_cons.mpr ⟨sx_y_X4_read, List.forall_mem_cons.mpr ⟨sx_y_X5_at, List.forall_mem_cons.mpr ⟨sx_y_X5_clear, List.forall_mem_cons.mpr ⟨sx_y_X5_init, List.forall_mem_cons.mpr ⟨sx_y_X7_clear, List.forall_mem_cons.mpr ⟨sx_y_X7_explains, List.forall_mem_cons.mpr ⟨sx_y_X7_init, List.forall_mem_cons.mpr ⟨sx_y_X7_strangerDays, List.forall_mem_cons.mpr ⟨sx_y_X7_strangerHalves, List.forall_mem_cons.mpr ⟨sx_y_X7_takeBack, List.forall_mem_cons.mpr ⟨sx_y_X7_tell, List.forall_mem_cons.mpr ⟨sx_y_X8_begin, List.forall_mem_cons.mpr ⟨sx_y_X8_copyFrom, List.forall_mem_cons.mpr ⟨sx_y_X8_init, fun _ h => absurd h List.not_mem_nil⟩⟩⟩⟩⟩⟩⟩⟩⟩⟩⟩⟩⟩⟩
theorem sx_mlOk : sx_rowsOk sx_yOk 0 sx_ml := ⟨sx_mlr0, sx_mlr1, sx_mlr2, sx_mlr3, sx_mlr4, sx_mlr5, sx_mlr6, sx_mlr7, sx_mlr8, sx_mlr9, trivial⟩
theorem sx_mtok : sx_mtOk := by
  intro y tab h
  unfold sx_mt at h
  split at h
  next t ht =>
    cases h
    exact sx_find_ok sx_mlOk ht
  next => cases h
end
section
/-! a state that covers another -/
noncomputable def sx_cvV (iv : sx_Iv) (a g : sx_V) : Bool := sx_eqV a g || sx_eqV a (sx_nm iv g)
noncomputable def sx_cvP (iv : sx_Iv) (a g : Nat × sx_V) : Bool := Nat.beq a.1 g.1 && sx_cvV iv a.2 g.2
noncomputable def sx_cvE (iv : sx_Iv) : sx_E → sx_E → Bool
  | .inl (a, l), .inl (b, m) => Nat.beq a b && sx_eqL (sx_cvV iv) l m
  | .inr (a, n, l), .inr (b, k, m) => Nat.beq a b && (Nat.beq n k && sx_eqL (sx_cvP iv) l m)
  | _, _ => false
noncomputable def sx_cvI (a g : Nat × Nat) : Bool := Nat.ble g.1 a.1 && Nat.ble a.2 g.2
noncomputable def sx_cvr (G τ : sx_S) : Bool := match G, τ with
  | (gpc, gls, gst, gw, giv, gmc, gms), (pc, ls, st, w, iv, mc, ms) => Nat.beq pc gpc && (Nat.beq mc gmc && (Nat.beq ms gms && (sx_eqL sx_cvI iv giv && (sx_eqL (sx_cvP iv) ls gls && (sx_eqL (sx_cvV iv) st gst && sx_eqL (sx_cvE iv) w gw)))))
theorem sx_eqL_at {α : Type} {f : α → α → Bool} : ∀ {l m : List α}, sx_eqL f l m = true → l.length = m.length ∧ ∀ (k : Nat) (y : α), m[k]? = some y → ∃ x, l[k]? = some x ∧ f x y = true
  | [], [], _ => ⟨rfl, fun k y h => by simp at h⟩
  | a :: l, b :: m, h => by
    simp only [sx_eqL, Bool.and_eq_true] at h
    obtain ⟨h1, h2⟩ := sx_eqL_at h.2
    refine ⟨by rw [List.length_cons, List.length_cons, h1], fun k y hk => ?_⟩
    cases k with
    | zero => cases hk; exact ⟨a, rfl, h.1⟩
    | succ k => exact h2 k y hk
  | [], _ :: _, h => by simp [sx_eqL] at h
  | _ :: _, [], h => by simp [sx_eqL] at h
theorem sx_eqL_map {α β : Type} {f : α → α → Bool} {g : α → β} (hf : ∀ a b, f a b = true → g a = g b) : ∀ {l m : List α}, sx_eqL f l m = true → l.map g = m.map g
  | [], [], _ => rfl
  | a :: l, b :: m, h => by
    simp only [sx_eqL, Bool.and_eq_true] at h
    rw [List.map_cons, List.map_cons, hf a b h.1, sx_eqL_map hf h.2]
  | [], _ :: _, h => by simp [sx_eqL] at h
  | _ :: _, [], h => by simp [sx_eqL] at h
theorem sx_nm_xi {ρ : Nat → Int32} {ad : Nat → Nat} {iv : sx_Iv} (h : sx_ivOk ρ iv) (v : sx_V) : sx_xi ρ (sx_nm iv v) = sx_xi ρ v ∧ sx_xr ad (sx_nm iv v) = sx_xr ad v := by
  match v with
  | .inl _ => exact ⟨rfl, rfl⟩
  | .inr (.inr _) => exact ⟨rfl, rfl⟩
  | .inr (.inl k) =>
    have h1 := sx_nm_eq (ad := ad) (b := 0) h (.inr (.inl k))
    simp only [sx_nm] at h1 ⊢
    split at h1
    next lo hi hk =>
      split at h1
      next hb => exact ⟨Value.int.inj h1, rfl⟩
      next => exact ⟨rfl, rfl⟩
    next => exact ⟨rfl, rfl⟩
theorem sx_cvV_or {iv : sx_Iv} {a g : sx_V} (h : sx_cvV iv a g = true) : a = g ∨ a = sx_nm iv g := by
  unfold sx_cvV at h
  rw [Bool.or_eq_true] at h
  rcases h with h | h
  · exact Or.inl (sx_eqV_ok _ _ h)
  · exact Or.inr (sx_eqV_ok _ _ h)
theorem sx_cvV_ok {ρ : Nat → Int32} {ad : Nat → Nat} {b : Nat} {iv : sx_Iv} (hi : sx_ivOk ρ iv) {a g : sx_V} (h : sx_cvV iv a g = true) : sx_cv ρ ad b a = sx_cv ρ ad b g ∧ sx_xi ρ a = sx_xi ρ g ∧ sx_xr ad a = sx_xr ad g := by
  rcases sx_cvV_or h with e | e
  · rw [e]; exact ⟨rfl, rfl, rfl⟩
  · rw [e]; exact ⟨sx_nm_eq hi g, (sx_nm_xi (ad := ad) hi g).1, (sx_nm_xi hi g).2⟩
theorem sx_cvL_look {ρ : Nat → Int32} {ad : Nat → Nat} {iv : sx_Iv} (hi : sx_ivOk ρ iv) (kd j : Nat) : ∀ {l m : List (Nat × sx_V)}, sx_eqL (sx_cvP iv) l m = true → sx_xi ρ (sx_ald kd l j) = sx_xi ρ (sx_ald kd m j) ∧ sx_xr ad (sx_ald kd l j) = sx_xr ad (sx_ald kd m j)
  | [], [], _ => ⟨rfl, rfl⟩
  | (k, a) :: l, (k', g) :: m, h => by
    simp only [sx_eqL, Bool.and_eq_true] at h
    have h1 := h.1
    simp only [sx_cvP, Bool.and_eq_true] at h1
    have ek := Nat.eq_of_beq_eq_true h1.1
    subst ek
    have h2 := sx_cvV_ok (ad := ad) (b := 0) hi h1.2
    have ih := sx_cvL_look (ad := ad) hi kd j h.2
    unfold sx_ald at ih ⊢
    simp only [sx_look]
    cases Nat.beq k j with
    | true => exact h2.2
    | false => exact ih
  | [], _ :: _, h => by simp [sx_eqL] at h
  | _ :: _, [], h => by simp [sx_eqL] at h
theorem sx_cvE_ok {ρ : Nat → Int32} {ad : Nat → Nat} {b : Nat} {cA : Nat → ClassId} {iv : sx_Iv} (hi : sx_ivOk ρ iv) : ∀ {a g : sx_E}, sx_cvE iv a g = true → sx_cE ρ ad b cA a = sx_cE ρ ad b cA g
  | .inl (a, l), .inl (c, m), h => by
    simp only [sx_cvE, Bool.and_eq_true] at h
    rw [Nat.eq_of_beq_eq_true h.1]
    show Sum.inr (c, l.map (sx_cv ρ ad b)) = Sum.inr (c, m.map (sx_cv ρ ad b))
    have e := sx_eqL_map (f := sx_cvV iv) (g := sx_cv ρ ad b) (fun x y hxy => (sx_cvV_ok (ad := ad) (b := b) hi hxy).1) h.2
    rw [e]
  | .inr (a, n, l), .inr (c, k, m), h => by
    simp only [sx_cvE, Bool.and_eq_true] at h
    rw [Nat.eq_of_beq_eq_true h.1, Nat.eq_of_beq_eq_true h.2.1]
    have e0 : (fun j => sx_xi ρ (sx_ald 0 l j)) = (fun j => sx_xi ρ (sx_ald 0 m j)) := funext fun j => (sx_cvL_look (ad := ad) hi 0 j h.2.2).1
    have e4 : (fun j => sx_xr ad (sx_ald 4 l j)) = (fun j => sx_xr ad (sx_ald 4 m j)) := funext fun j => (sx_cvL_look hi 4 j h.2.2).2
    unfold sx_cE
    simp only [e0, e4]
  | .inl _, .inr _, h => by simp [sx_cvE] at h
  | .inr _, .inl _, h => by simp [sx_cvE] at h
theorem sx_cvW_ok {ρ : Nat → Int32} {ad : Nat → Nat} {b : Nat} {cA : Nat → ClassId} {iv : sx_Iv} (hi : sx_ivOk ρ iv) {w g : List sx_E} (h : sx_eqL (sx_cvE iv) w g = true) : sx_cW ρ ad b cA w = sx_cW ρ ad b cA g := by
  obtain ⟨h1, h2⟩ := sx_eqL_at h
  apply List.ext_getElem?
  intro k
  rw [sx_cW_at, sx_cW_at]
  cases hg : g[k]? with
  | none =>
    have : w[k]? = none := by
      rw [List.getElem?_eq_none_iff] at hg ⊢
      omega
    rw [this]
  | some y =>
    obtain ⟨x, hx, hxy⟩ := h2 k y hg
    rw [hx]
    show some (ad k, sx_cE ρ ad b cA x) = some (ad k, sx_cE ρ ad b cA y)
    rw [sx_cvE_ok hi hxy]
section sxCover
variable {p : Program} {l : Launch} {e : Env} {R : Room} {s : State} {m : MethodId} {args : Array Value} {below : List Frame} {meth : Method} {c : Code} {Q : State → Prop} {D : va_G} {cA : Nat → ClassId} {A : Nat → Prop} {b nL : Nat} {ρ0 : Nat → Int32} {ad0 : Nat → Nat} {n0 m0 : Nat} {cc : ByteArray}
theorem sx_cover {G τ : sx_S} (h : sx_cvr G τ = true) (K : sx_Ok p l e R s m args below meth c Q D cA A b nL ρ0 ad0 n0 m0 G) : sx_Ok p l e R s m args below meth c Q D cA A b nL ρ0 ad0 n0 m0 τ := by
  obtain ⟨gpc, gls, gst, gw, giv, gmc, gms⟩ := G
  obtain ⟨pc, L, st, w, iv, mc, ms⟩ := τ
  simp only [sx_cvr, Bool.and_eq_true] at h
  obtain ⟨c1, c2, c3, c4, c5, c6, c7⟩ := h
  have c1 := Nat.eq_of_beq_eq_true c1
  have c2 := Nat.eq_of_beq_eq_true c2
  have c3 := Nat.eq_of_beq_eq_true c3
  subst c1; subst c2; subst c3
  intro ρ ad H locs ls h1 h2 h3 h4 h5 hP hD hS hl
  have h1' : sx_ivOk ρ iv := h1
  obtain ⟨l4, a4⟩ := sx_eqL_at c4
  have hiv : sx_ivOk ρ giv := by
    intro k lo hi hk
    obtain ⟨⟨x1, x2⟩, hx, hxy⟩ := a4 k (lo, hi) hk
    have g := h1' k x1 x2 hx
    simp only [sx_cvI, Bool.and_eq_true] at hxy
    have y1 := Nat.le_of_ble_eq_true hxy.1
    have y2 := Nat.le_of_ble_eq_true hxy.2
    exact ⟨Nat.le_trans y1 g.1, Nat.le_trans g.2 y2⟩
  have eW : sx_cW ρ ad b cA w = sx_cW ρ ad b cA gw := sx_cvW_ok h1' c7
  have eS : st.map (sx_cv ρ ad b) = gst.map (sx_cv ρ ad b) := sx_eqL_map (f := sx_cvV iv) (g := sx_cv ρ ad b) (fun x y hxy => (sx_cvV_ok (ad := ad) (b := b) h1' hxy).1) c6
  have eL : sx_cL ρ ad b L = sx_cL ρ ad b gls := sx_eqL_map (f := sx_cvP iv) (g := fun q : Nat × sx_V => (q.1, sx_cv ρ ad b q.2)) (fun x y hxy => by
    simp only [sx_cvP, Bool.and_eq_true] at hxy
    rw [Nat.eq_of_beq_eq_true hxy.1, (sx_cvV_ok (ad := ad) (b := b) h1' hxy.2).1]) c5
  have hP' : va_P D sx_clL (sx_cW ρ ad b cA gw) H := eW ▸ hP
  have hD' : va_D A (sx_cW ρ ad b cA gw) := eW ▸ hD
  have hl' : lv_has ls nL (sx_cL ρ ad b gls) := eL ▸ hl
  show W p l e R s m args below meth c H locs mc ms Q (F0 m pc ls (st.map (sx_cv ρ ad b)))
  rw [eS]
  exact K ρ ad H locs ls hiv h2 h3 (by show n0 ≤ giv.length; rw [← l4]; exact h4) (by show m0 ≤ gw.length; rw [← (sx_eqL_at c7).1]; exact h5) hP' hD' hS hl'
end sxCover
noncomputable def sx_covs (r : sx_N) (Gs : List sx_S) : Bool := match r with
  | some ss => ss.all (fun τ => Gs.any (fun G => sx_cvr G τ))
  | none => false
end
section
/-! every way from the switch: the end is 1 -/
noncomputable def sx_gd (σ : sx_S) : Bool := match σ with
  | (pc, _, [v], _, iv, mc, ms) => match sx_find sx_t_law pc, sx_nm iv v with
    | some (1, _, _, _), .inl n => Nat.beq n 1 && (Nat.ble mc 600000 && Nat.ble ms 7302250)
    | _, _ => false
  | _ => false
noncomputable def sx_fn (r : sx_N) : Bool := match r with
  | some ss => ss.all sx_gd
  | none => false
noncomputable def sx_oS (k j : Nat) : sx_S := (33, [(3, .inl 0), (2, .inr (.inr (.inl 75))), (1, .inr (.inr (.inl 0))), (0, .inr (.inr (.inr 2)))], [.inr (.inl 7)], sx_W0, sx_iv0 2147483654 2147483654 ++ [(2147483648 + k, 2147483648 + j)], 124, 36542)
set_option maxRecDepth 1000000 in
theorem sx_at33 : sx_law 33 (18, [(3, .inl 0), (2, .inr (.inr (.inl 75))), (1, .inr (.inr (.inl 0))), (0, .inr (.inr (.inr 2)))], [], sx_W0, sx_iv0 2147483654 2147483654, 124, 36542) = some [sx_oS 0 63] := sx_eqO_ok _ _ (by decide +kernel)
set_option maxRecDepth 1000000 in
theorem sx_short : sx_fn (sx_law sx_far (0, [(0, .inr (.inr (.inr 2)))], [], [], sx_iv0 2147483648 2147483653, 0, 0)) = true := by decide +kernel
end
section
/-! the ways but days and stolen -/
set_option maxRecDepth 1000000 in
theorem sx_o0 : sx_fn (sx_law sx_far (sx_oS 0 0)) = true := by decide +kernel
set_option maxRecDepth 1000000 in
theorem sx_o1 : sx_fn (sx_law sx_far (sx_oS 1 1)) = true := by decide +kernel
set_option maxRecDepth 1000000 in
theorem sx_o2 : sx_fn (sx_law sx_far (sx_oS 2 2)) = true := by decide +kernel
set_option maxRecDepth 1000000 in
theorem sx_o3 : sx_fn (sx_law sx_far (sx_oS 3 3)) = true := by decide +kernel
set_option maxRecDepth 1000000 in
theorem sx_o4 : sx_fn (sx_law sx_far (sx_oS 4 4)) = true := by decide +kernel
set_option maxRecDepth 1000000 in
theorem sx_o5 : sx_fn (sx_law sx_far (sx_oS 5 5)) = true := by decide +kernel
set_option maxRecDepth 1000000 in
theorem sx_o6 : sx_fn (sx_law sx_far (sx_oS 6 6)) = true := by decide +kernel
set_option maxRecDepth 1000000 in
theorem sx_o7 : sx_fn (sx_law sx_far (sx_oS 7 7)) = true := by decide +kernel
set_option maxRecDepth 1000000 in
theorem sx_o8 : sx_fn (sx_law sx_far (sx_oS 8 8)) = true := by decide +kernel
set_option maxRecDepth 1000000 in
theorem sx_o9 : sx_fn (sx_law sx_far (sx_oS 9 9)) = true := by decide +kernel
set_option maxRecDepth 1000000 in
theorem sx_o10 : sx_fn (sx_law sx_far (sx_oS 10 10)) = true := by decide +kernel
set_option maxRecDepth 1000000 in
theorem sx_o11 : sx_fn (sx_law sx_far (sx_oS 11 11)) = true := by decide +kernel
set_option maxRecDepth 1000000 in
theorem sx_o13 : sx_fn (sx_law sx_far (sx_oS 13 13)) = true := by decide +kernel
set_option maxRecDepth 1000000 in
theorem sx_o14 : sx_fn (sx_law sx_far (sx_oS 14 14)) = true := by decide +kernel
set_option maxRecDepth 1000000 in
theorem sx_o15 : sx_fn (sx_law sx_far (sx_oS 15 15)) = true := by decide +kernel
set_option maxRecDepth 1000000 in
theorem sx_o16 : sx_fn (sx_law sx_far (sx_oS 16 16)) = true := by decide +kernel
set_option maxRecDepth 1000000 in
theorem sx_o17 : sx_fn (sx_law sx_far (sx_oS 17 17)) = true := by decide +kernel
set_option maxRecDepth 1000000 in
theorem sx_o18 : sx_fn (sx_law sx_far (sx_oS 18 18)) = true := by decide +kernel
set_option maxRecDepth 1000000 in
theorem sx_o19 : sx_fn (sx_law sx_far (sx_oS 19 19)) = true := by decide +kernel
set_option maxRecDepth 1000000 in
theorem sx_o20 : sx_fn (sx_law sx_far (sx_oS 20 20)) = true := by decide +kernel
set_option maxRecDepth 1000000 in
theorem sx_o21 : sx_fn (sx_law sx_far (sx_oS 21 21)) = true := by decide +kernel
set_option maxRecDepth 1000000 in
theorem sx_o22 : sx_fn (sx_law sx_far (sx_oS 22 22)) = true := by decide +kernel
set_option maxRecDepth 1000000 in
theorem sx_o23 : sx_fn (sx_law sx_far (sx_oS 23 23)) = true := by decide +kernel
set_option maxRecDepth 1000000 in
theorem sx_o24 : sx_fn (sx_law sx_far (sx_oS 24 24)) = true := by decide +kernel
set_option maxRecDepth 1000000 in
theorem sx_o25 : sx_fn (sx_law sx_far (sx_oS 25 25)) = true := by decide +kernel
set_option maxRecDepth 1000000 in
theorem sx_o26 : sx_fn (sx_law sx_far (sx_oS 26 26)) = true := by decide +kernel
set_option maxRecDepth 1000000 in
theorem sx_o27 : sx_fn (sx_law sx_far (sx_oS 27 27)) = true := by decide +kernel
set_option maxRecDepth 1000000 in
theorem sx_o28 : sx_fn (sx_law sx_far (sx_oS 28 28)) = true := by decide +kernel
set_option maxRecDepth 1000000 in
theorem sx_o29 : sx_fn (sx_law sx_far (sx_oS 29 29)) = true := by decide +kernel
set_option maxRecDepth 1000000 in
theorem sx_o31 : sx_fn (sx_law sx_far (sx_oS 31 31)) = true := by decide +kernel
set_option maxRecDepth 1000000 in
theorem sx_o32 : sx_fn (sx_law sx_far (sx_oS 32 32)) = true := by decide +kernel
set_option maxRecDepth 1000000 in
theorem sx_o33 : sx_fn (sx_law sx_far (sx_oS 33 33)) = true := by decide +kernel
set_option maxRecDepth 1000000 in
theorem sx_o34 : sx_fn (sx_law sx_far (sx_oS 34 34)) = true := by decide +kernel
set_option maxRecDepth 1000000 in
theorem sx_o35 : sx_fn (sx_law sx_far (sx_oS 35 35)) = true := by decide +kernel
set_option maxRecDepth 1000000 in
theorem sx_o36 : sx_fn (sx_law sx_far (sx_oS 36 36)) = true := by decide +kernel
set_option maxRecDepth 1000000 in
theorem sx_o37 : sx_fn (sx_law sx_far (sx_oS 37 37)) = true := by decide +kernel
set_option maxRecDepth 1000000 in
theorem sx_o38 : sx_fn (sx_law sx_far (sx_oS 38 38)) = true := by decide +kernel
set_option maxRecDepth 1000000 in
theorem sx_o39 : sx_fn (sx_law sx_far (sx_oS 39 39)) = true := by decide +kernel
set_option maxRecDepth 1000000 in
theorem sx_o40 : sx_fn (sx_law sx_far (sx_oS 40 40)) = true := by decide +kernel
set_option maxRecDepth 1000000 in
theorem sx_o41 : sx_fn (sx_law sx_far (sx_oS 41 41)) = true := by decide +kernel
set_option maxRecDepth 1000000 in
theorem sx_o42 : sx_fn (sx_law sx_far (sx_oS 42 63)) = true := by decide +kernel
end
section
/-! days: the leaves of the class joined -/
def sx_G12_0 : sx_S := (621, [(3, .inl 0), (2, .inr (.inr (.inl 75))), (1, .inr (.inr (.inl 0))), (0, .inr (.inr (.inr 2)))], [.inl 4294967295], [.inl (11, [.inr (.inr (.inl 1)), .inl 0, .inr (.inr (.inl 2)), .inr (.inr (.inl 16)), .inr (.inr (.inl 35)), .inr (.inr (.inl 41)), .inr (.inr (.inl 45)), .inr (.inr (.inl 47)), .inr (.inr (.inl 50)), .inr (.inr (.inr 0)), .inr (.inr (.inr 0)), .inr (.inr (.inl 57)), .inr (.inr (.inl 61))]), .inr (0, 1600, []), .inl (10, [.inl 0, .inl 0, .inl 0, .inl 0, .inl 0, .inl 4294967295, .inr (.inr (.inl 3)), .inr (.inr (.inl 4)), .inr (.inr (.inl 5)), .inr (.inr (.inl 6)), .inr (.inr (.inl 7)), .inr (.inr (.inl 8)), .inr (.inr (.inl 9)), .inr (.inr (.inl 10)), .inr (.inr (.inl 11)), .inr (.inr (.inl 12)), .inr (.inr (.inl 13)), .inr (.inr (.inl 14)), .inr (.inr (.inl 15))]), .inr (0, 8, []), .inr (0, 8, []), .inr (0, 8, [(7, .inl 4294967295), (6, .inl 4294967295), (5, .inl 4294967295), (4, .inl 4294967295), (3, .inl 4294967295), (2, .inl 4294967295), (1, .inl 4294967295), (0, .inl 4294967295)]), .inr (0, 8, [(7, .inl 4294967295), (6, .inl 4294967295), (5, .inl 4294967295), (4, .inl 4294967295), (3, .inl 4294967295), (2, .inl 4294967295), (1, .inl 4294967295), (0, .inl 4294967295)]), .inr (0, 8, []), .inr (0, 64, [(63, .inl 4294967295), (62, .inl 4294967295), (61, .inl 4294967295), (60, .inl 4294967295), (59, .inl 4294967295), (58, .inl 4294967295), (57, .inl 4294967295), (56, .inl 4294967295), (55, .inl 4294967295), (54, .inl 4294967295), (53, .inl 4294967295), (52, .inl 4294967295), (51, .inl 4294967295), (50, .inl 4294967295), (49, .inl 4294967295), (48, .inl 4294967295), (47, .inl 4294967295), (46, .inl 4294967295), (45, .inl 4294967295), (44, .inl 4294967295), (43, .inl 4294967295), (42, .inl 4294967295), (41, .inl 4294967295), (40, .inl 4294967295), (39, .inl 4294967295), (38, .inl 4294967295), (37, .inl 4294967295), (36, .inl 4294967295), (35, .inl 4294967295), (34, .inl 4294967295), (33, .inl 4294967295), (32, .inl 4294967295), (31, .inl 4294967295), (30, .inl 4294967295), (29, .inl 4294967295), (28, .inl 4294967295), (27, .inl 4294967295), (26, .inl 4294967295), (25, .inl 4294967295), (24, .inl 4294967295), (23, .inl 4294967295), (22, .inl 4294967295), (21, .inl 4294967295), (20, .inl 4294967295), (19, .inl 4294967295), (18, .inl 4294967295), (17, .inl 4294967295), (16, .inl 4294967295), (15, .inl 4294967295), (14, .inl 4294967295), (13, .inl 4294967295), (12, .inl 4294967295), (11, .inl 4294967295), (10, .inl 4294967295), (9, .inl 4294967295), (8, .inl 4294967295), (7, .inl 4294967295), (6, .inl 4294967295), (5, .inl 4294967295), (4, .inl 4294967295), (3, .inl 4294967295), (2, .inl 4294967295), (1, .inl 4294967295), (0, .inl 4294967295)]), .inr (0, 4, []), .inr (0, 4, []), .inr (0, 56, []), .inr (0, 6, []), .inr (0, 6, []), .inr (0, 6, []), .inr (0, 640, []), .inl (4, [.inr (.inr (.inl 17)), .inr (.inr (.inl 31)), .inr (.inr (.inl 32)), .inr (.inr (.inl 33)), .inr (.inr (.inl 34)), .inr (.inr (.inl 1)), .inl 0, .inl 0, .inl 4294967295, .inl 0, .inl 0, .inr (.inr (.inr 1)), .inl 0, .inl 0, .inl 0, .inl 0, .inl 0]), .inl (10, [.inl 0, .inl 0, .inl 0, .inl 0, .inl 0, .inl 4294967295, .inr (.inr (.inl 18)), .inr (.inr (.inl 19)), .inr (.inr (.inl 20)), .inr (.inr (.inl 21)), .inr (.inr (.inl 22)), .inr (.inr (.inl 23)), .inr (.inr (.inl 24)), .inr (.inr (.inl 25)), .inr (.inr (.inl 26)), .inr (.inr (.inl 27)), .inr (.inr (.inl 28)), .inr (.inr (.inl 29)), .inr (.inr (.inl 30))]), .inr (0, 8, []), .inr (0, 8, []), .inr (0, 8, [(7, .inl 4294967295), (6, .inl 4294967295), (5, .inl 4294967295), (4, .inl 4294967295), (3, .inl 4294967295), (2, .inl 4294967295), (1, .inl 4294967295), (0, .inl 4294967295)]), .inr (0, 8, [(7, .inl 4294967295), (6, .inl 4294967295), (5, .inl 4294967295), (4, .inl 4294967295), (3, .inl 4294967295), (2, .inl 4294967295), (1, .inl 4294967295), (0, .inl 4294967295)]), .inr (0, 8, []), .inr (0, 64, [(63, .inl 4294967295), (62, .inl 4294967295), (61, .inl 4294967295), (60, .inl 4294967295), (59, .inl 4294967295), (58, .inl 4294967295), (57, .inl 4294967295), (56, .inl 4294967295), (55, .inl 4294967295), (54, .inl 4294967295), (53, .inl 4294967295), (52, .inl 4294967295), (51, .inl 4294967295), (50, .inl 4294967295), (49, .inl 4294967295), (48, .inl 4294967295), (47, .inl 4294967295), (46, .inl 4294967295), (45, .inl 4294967295), (44, .inl 4294967295), (43, .inl 4294967295), (42, .inl 4294967295), (41, .inl 4294967295), (40, .inl 4294967295), (39, .inl 4294967295), (38, .inl 4294967295), (37, .inl 4294967295), (36, .inl 4294967295), (35, .inl 4294967295), (34, .inl 4294967295), (33, .inl 4294967295), (32, .inl 4294967295), (31, .inl 4294967295), (30, .inl 4294967295), (29, .inl 4294967295), (28, .inl 4294967295), (27, .inl 4294967295), (26, .inl 4294967295), (25, .inl 4294967295), (24, .inl 4294967295), (23, .inl 4294967295), (22, .inl 4294967295), (21, .inl 4294967295), (20, .inl 4294967295), (19, .inl 4294967295), (18, .inl 4294967295), (17, .inl 4294967295), (16, .inl 4294967295), (15, .inl 4294967295), (14, .inl 4294967295), (13, .inl 4294967295), (12, .inl 4294967295), (11, .inl 4294967295), (10, .inl 4294967295), (9, .inl 4294967295), (8, .inl 4294967295), (7, .inl 4294967295), (6, .inl 4294967295), (5, .inl 4294967295), (4, .inl 4294967295), (3, .inl 4294967295), (2, .inl 4294967295), (1, .inl 4294967295), (0, .inl 4294967295)]), .inr (0, 4, []), .inr (0, 4, []), .inr (0, 56, []), .inr (0, 6, []), .inr (0, 6, []), .inr (0, 6, []), .inr (0, 640, []), .inr (1, 8, []), .inr (1, 4, []), .inr (1, 6, []), .inr (0, 3, []), .inl (8, [.inl 0, .inl 0, .inr (.inr (.inl 36)), .inr (.inr (.inl 37)), .inr (.inr (.inl 38)), .inr (.inr (.inl 39)), .inr (.inr (.inl 40))]), .inr (0, 4, []), .inr (0, 56, []), .inr (0, 8, [(7, .inl 1), (6, .inl 1), (5, .inl 1), (4, .inl 1), (3, .inl 1), (2, .inl 1), (1, .inl 1), (0, .inl 1)]), .inr (0, 48, []), .inr (0, 8, []), .inl (2, [.inr (.inr (.inl 42)), .inr (.inr (.inl 43)), .inr (.inr (.inl 44)), .inl 0, .inl 0, .inl 0]), .inr (4, 41, [(0, .inr (.inr (.inl 69)))]), .inr (4, 3, []), .inr (2, 3, []), .inl (5, [.inr (.inr (.inl 46)), .inl 0]), .inr (0, 20, []), .inl (0, [.inr (.inr (.inl 2)), .inr (.inr (.inl 35)), .inr (.inr (.inl 48)), .inr (.inr (.inl 49)), .inl 0, .inl 0, .inl 0, .inl 0]), .inr (0, 30, []), .inr (0, 3, []), .inl (1, [.inr (.inr (.inl 2)), .inr (.inr (.inl 35)), .inr (.inr (.inl 47)), .inr (.inr (.inl 51)), .inr (.inr (.inl 52)), .inr (.inr (.inl 53)), .inr (.inr (.inl 54)), .inr (.inr (.inl 55)), .inl 0, .inl 0]), .inr (0, 2000, []), .inr (0, 6000, []), .inr (1, 2000, []), .inr (1, 2000, []), .inl (5, [.inr (.inr (.inl 56)), .inl 0]), .inr (0, 14, []), .inl (3, [.inr (.inr (.inl 2)), .inr (.inr (.inl 35)), .inr (.inr (.inl 58)), .inr (.inr (.inl 59)), .inr (.inr (.inl 60)), .inl 0, .inl 0, .inl 0, .inl 0]), .inr (0, 8, []), .inr (0, 8, []), .inr (0, 8, []), .inl (7, [.inr (.inr (.inl 2)), .inr (.inr (.inl 62)), .inr (.inr (.inl 63)), .inr (.inr (.inl 64)), .inr (.inr (.inl 65)), .inr (.inr (.inl 66)), .inl 0, .inl 0, .inr (.inr (.inl 67)), .inr (.inr (.inl 68)), .inl 0, .inl 0, .inl 0, .inl 0, .inl 0]), .inr (0, 30, []), .inr (0, 30, []), .inr (0, 30, []), .inr (0, 30, []), .inr (0, 30, []), .inr (0, 14, []), .inr (0, 9, []), .inl (8, [.inl 0, .inl 0, .inr (.inr (.inl 70)), .inr (.inr (.inl 71)), .inr (.inr (.inl 72)), .inr (.inr (.inl 73)), .inr (.inr (.inl 74))]), .inr (0, 4, []), .inr (0, 56, []), .inr (0, 8, [(7, .inl 1), (6, .inl 1), (5, .inl 1), (4, .inl 1), (3, .inl 1), (2, .inl 1), (1, .inl 1), (0, .inl 1)]), .inr (0, 48, []), .inr (0, 8, []), .inl (12, [.inr (.inr (.inl 76)), .inr (.inr (.inl 77)), .inl 0, .inl 0, .inl 0, .inl 4294967295, .inl 0, .inl 0, .inl 0, .inl 0, .inr (.inr (.inr 1)), .inr (.inr (.inl 78)), .inr (.inr (.inl 79)), .inr (.inr (.inl 80)), .inr (.inr (.inl 81)), .inr (.inr (.inl 82)), .inr (.inr (.inl 83)), .inr (.inr (.inl 84)), .inr (.inr (.inl 85)), .inr (.inr (.inl 86)), .inr (.inr (.inl 87)), .inr (.inr (.inl 88)), .inr (.inr (.inl 89)), .inr (.inr (.inl 90)), .inr (.inr (.inl 91)), .inr (.inr (.inl 92)), .inr (.inr (.inl 93)), .inr (.inr (.inl 94)), .inr (.inr (.inl 95)), .inr (.inr (.inl 96)), .inr (.inr (.inl 97)), .inr (.inr (.inl 98)), .inr (.inr (.inl 99)), .inr (.inr (.inl 100)), .inr (.inr (.inl 101)), .inr (.inr (.inl 102)), .inr (.inr (.inl 103)), .inr (.inr (.inl 104)), .inr (.inr (.inl 105)), .inl 0, .inl 0, .inl 0, .inl 0, .inl 0, .inl 0, .inl 0, .inl 0, .inl 0, .inl 0, .inr (.inr (.inl 106)), .inr (.inr (.inl 107)), .inl 0, .inl 0, .inr (.inr (.inl 108)), .inr (.inr (.inl 109)), .inr (.inr (.inl 110)), .inl 0, .inr (.inr (.inl 111)), .inl 0, .inr (.inr (.inl 112)), .inr (.inr (.inl 113)), .inl 0, .inr (.inr (.inl 114)), .inl 0, .inr (.inr (.inl 115)), .inr (.inr (.inl 116)), .inr (.inr (.inl 117)), .inr (.inr (.inl 118)), .inr (.inr (.inl 119)), .inr (.inr (.inl 120)), .inr (.inr (.inl 121)), .inl 0, .inl 0, .inl 0, .inl 0, .inl 0, .inl 0, .inl 0, .inr (.inr (.inl 122)), .inr (.inr (.inl 123))]), .inr (3, 1620, []), .inr (3, 1600, []), .inr (0, 2, []), .inr (0, 2, []), .inr (0, 2, []), .inr (0, 2, []), .inr (0, 2, []), .inr (0, 2, []), .inr (0, 16, []), .inr (0, 16, []), .inr (0, 16, []), .inr (0, 16, []), .inr (0, 128, []), .inr (0, 8, []), .inr (0, 24, []), .inr (0, 8, []), .inr (0, 112, []), .inr (0, 24, []), .inr (0, 24, []), .inr (2, 2, []), .inr (2, 16, []), .inr (2, 128, []), .inr (1, 16, []), .inr (1, 8, []), .inr (1, 12, []), .inr (0, 1280, []), .inr (0, 1280, []), .inr (0, 90, []), .inr (0, 90, []), .inr (0, 60, []), .inr (0, 119, []), .inr (0, 4879, []), .inr (0, 6300, []), .inr (0, 2000, []), .inr (0, 20, []), .inr (0, 14, []), .inr (0, 8, []), .inr (0, 8, []), .inr (0, 9, []), .inr (0, 3, []), .inr (0, 30, []), .inr (0, 30, []), .inr (0, 30, []), .inr (0, 30, []), .inr (0, 30, []), .inr (0, 14, []), .inr (0, 357, []), .inr (2, 3, [])], [(0, 4294967295), (2147483709, 4294967295), (0, 4294967295), (0, 4294967295), (0, 4294967295), (0, 4294967295), (2147483654, 2147483654), (2147483660, 2147483660)], 130, 36673)
def sx_G12_1 : sx_S := (621, [(3, .inl 0), (2, .inr (.inr (.inl 75))), (1, .inr (.inr (.inl 0))), (0, .inr (.inr (.inr 2)))], [.inl 0], [.inl (11, [.inr (.inr (.inl 1)), .inl 0, .inr (.inr (.inl 2)), .inr (.inr (.inl 16)), .inr (.inr (.inl 35)), .inr (.inr (.inl 41)), .inr (.inr (.inl 45)), .inr (.inr (.inl 47)), .inr (.inr (.inl 50)), .inr (.inr (.inr 0)), .inr (.inr (.inr 0)), .inr (.inr (.inl 57)), .inr (.inr (.inl 61))]), .inr (0, 1600, []), .inl (10, [.inl 0, .inl 0, .inl 0, .inl 0, .inl 0, .inl 4294967295, .inr (.inr (.inl 3)), .inr (.inr (.inl 4)), .inr (.inr (.inl 5)), .inr (.inr (.inl 6)), .inr (.inr (.inl 7)), .inr (.inr (.inl 8)), .inr (.inr (.inl 9)), .inr (.inr (.inl 10)), .inr (.inr (.inl 11)), .inr (.inr (.inl 12)), .inr (.inr (.inl 13)), .inr (.inr (.inl 14)), .inr (.inr (.inl 15))]), .inr (0, 8, []), .inr (0, 8, []), .inr (0, 8, [(7, .inl 4294967295), (6, .inl 4294967295), (5, .inl 4294967295), (4, .inl 4294967295), (3, .inl 4294967295), (2, .inl 4294967295), (1, .inl 4294967295), (0, .inl 4294967295)]), .inr (0, 8, [(7, .inl 4294967295), (6, .inl 4294967295), (5, .inl 4294967295), (4, .inl 4294967295), (3, .inl 4294967295), (2, .inl 4294967295), (1, .inl 4294967295), (0, .inl 4294967295)]), .inr (0, 8, []), .inr (0, 64, [(63, .inl 4294967295), (62, .inl 4294967295), (61, .inl 4294967295), (60, .inl 4294967295), (59, .inl 4294967295), (58, .inl 4294967295), (57, .inl 4294967295), (56, .inl 4294967295), (55, .inl 4294967295), (54, .inl 4294967295), (53, .inl 4294967295), (52, .inl 4294967295), (51, .inl 4294967295), (50, .inl 4294967295), (49, .inl 4294967295), (48, .inl 4294967295), (47, .inl 4294967295), (46, .inl 4294967295), (45, .inl 4294967295), (44, .inl 4294967295), (43, .inl 4294967295), (42, .inl 4294967295), (41, .inl 4294967295), (40, .inl 4294967295), (39, .inl 4294967295), (38, .inl 4294967295), (37, .inl 4294967295), (36, .inl 4294967295), (35, .inl 4294967295), (34, .inl 4294967295), (33, .inl 4294967295), (32, .inl 4294967295), (31, .inl 4294967295), (30, .inl 4294967295), (29, .inl 4294967295), (28, .inl 4294967295), (27, .inl 4294967295), (26, .inl 4294967295), (25, .inl 4294967295), (24, .inl 4294967295), (23, .inl 4294967295), (22, .inl 4294967295), (21, .inl 4294967295), (20, .inl 4294967295), (19, .inl 4294967295), (18, .inl 4294967295), (17, .inl 4294967295), (16, .inl 4294967295), (15, .inl 4294967295), (14, .inl 4294967295), (13, .inl 4294967295), (12, .inl 4294967295), (11, .inl 4294967295), (10, .inl 4294967295), (9, .inl 4294967295), (8, .inl 4294967295), (7, .inl 4294967295), (6, .inl 4294967295), (5, .inl 4294967295), (4, .inl 4294967295), (3, .inl 4294967295), (2, .inl 4294967295), (1, .inl 4294967295), (0, .inl 4294967295)]), .inr (0, 4, []), .inr (0, 4, []), .inr (0, 56, []), .inr (0, 6, []), .inr (0, 6, []), .inr (0, 6, []), .inr (0, 640, []), .inl (4, [.inr (.inr (.inl 17)), .inr (.inr (.inl 31)), .inr (.inr (.inl 32)), .inr (.inr (.inl 33)), .inr (.inr (.inl 34)), .inr (.inr (.inl 1)), .inl 0, .inl 0, .inl 4294967295, .inl 0, .inl 0, .inr (.inr (.inr 1)), .inl 0, .inl 0, .inl 0, .inl 0, .inl 0]), .inl (10, [.inl 0, .inl 0, .inl 0, .inl 0, .inl 0, .inl 4294967295, .inr (.inr (.inl 18)), .inr (.inr (.inl 19)), .inr (.inr (.inl 20)), .inr (.inr (.inl 21)), .inr (.inr (.inl 22)), .inr (.inr (.inl 23)), .inr (.inr (.inl 24)), .inr (.inr (.inl 25)), .inr (.inr (.inl 26)), .inr (.inr (.inl 27)), .inr (.inr (.inl 28)), .inr (.inr (.inl 29)), .inr (.inr (.inl 30))]), .inr (0, 8, []), .inr (0, 8, []), .inr (0, 8, [(7, .inl 4294967295), (6, .inl 4294967295), (5, .inl 4294967295), (4, .inl 4294967295), (3, .inl 4294967295), (2, .inl 4294967295), (1, .inl 4294967295), (0, .inl 4294967295)]), .inr (0, 8, [(7, .inl 4294967295), (6, .inl 4294967295), (5, .inl 4294967295), (4, .inl 4294967295), (3, .inl 4294967295), (2, .inl 4294967295), (1, .inl 4294967295), (0, .inl 4294967295)]), .inr (0, 8, []), .inr (0, 64, [(63, .inl 4294967295), (62, .inl 4294967295), (61, .inl 4294967295), (60, .inl 4294967295), (59, .inl 4294967295), (58, .inl 4294967295), (57, .inl 4294967295), (56, .inl 4294967295), (55, .inl 4294967295), (54, .inl 4294967295), (53, .inl 4294967295), (52, .inl 4294967295), (51, .inl 4294967295), (50, .inl 4294967295), (49, .inl 4294967295), (48, .inl 4294967295), (47, .inl 4294967295), (46, .inl 4294967295), (45, .inl 4294967295), (44, .inl 4294967295), (43, .inl 4294967295), (42, .inl 4294967295), (41, .inl 4294967295), (40, .inl 4294967295), (39, .inl 4294967295), (38, .inl 4294967295), (37, .inl 4294967295), (36, .inl 4294967295), (35, .inl 4294967295), (34, .inl 4294967295), (33, .inl 4294967295), (32, .inl 4294967295), (31, .inl 4294967295), (30, .inl 4294967295), (29, .inl 4294967295), (28, .inl 4294967295), (27, .inl 4294967295), (26, .inl 4294967295), (25, .inl 4294967295), (24, .inl 4294967295), (23, .inl 4294967295), (22, .inl 4294967295), (21, .inl 4294967295), (20, .inl 4294967295), (19, .inl 4294967295), (18, .inl 4294967295), (17, .inl 4294967295), (16, .inl 4294967295), (15, .inl 4294967295), (14, .inl 4294967295), (13, .inl 4294967295), (12, .inl 4294967295), (11, .inl 4294967295), (10, .inl 4294967295), (9, .inl 4294967295), (8, .inl 4294967295), (7, .inl 4294967295), (6, .inl 4294967295), (5, .inl 4294967295), (4, .inl 4294967295), (3, .inl 4294967295), (2, .inl 4294967295), (1, .inl 4294967295), (0, .inl 4294967295)]), .inr (0, 4, []), .inr (0, 4, []), .inr (0, 56, []), .inr (0, 6, []), .inr (0, 6, []), .inr (0, 6, []), .inr (0, 640, []), .inr (1, 8, []), .inr (1, 4, []), .inr (1, 6, []), .inr (0, 3, []), .inl (8, [.inl 0, .inl 0, .inr (.inr (.inl 36)), .inr (.inr (.inl 37)), .inr (.inr (.inl 38)), .inr (.inr (.inl 39)), .inr (.inr (.inl 40))]), .inr (0, 4, []), .inr (0, 56, []), .inr (0, 8, [(7, .inl 1), (6, .inl 1), (5, .inl 1), (4, .inl 1), (3, .inl 1), (2, .inl 1), (1, .inl 1), (0, .inl 1)]), .inr (0, 48, []), .inr (0, 8, []), .inl (2, [.inr (.inr (.inl 42)), .inr (.inr (.inl 43)), .inr (.inr (.inl 44)), .inl 0, .inl 1, .inl 0]), .inr (4, 41, [(1, .inr (.inr (.inl 124))), (0, .inr (.inr (.inl 69)))]), .inr (4, 3, []), .inr (2, 3, []), .inl (5, [.inr (.inr (.inl 46)), .inl 0]), .inr (0, 20, []), .inl (0, [.inr (.inr (.inl 2)), .inr (.inr (.inl 35)), .inr (.inr (.inl 48)), .inr (.inr (.inl 49)), .inl 0, .inl 0, .inl 0, .inl 0]), .inr (0, 30, []), .inr (0, 3, []), .inl (1, [.inr (.inr (.inl 2)), .inr (.inr (.inl 35)), .inr (.inr (.inl 47)), .inr (.inr (.inl 51)), .inr (.inr (.inl 52)), .inr (.inr (.inl 53)), .inr (.inr (.inl 54)), .inr (.inr (.inl 55)), .inl 0, .inl 0]), .inr (0, 2000, []), .inr (0, 6000, []), .inr (1, 2000, []), .inr (1, 2000, []), .inl (5, [.inr (.inr (.inl 56)), .inl 0]), .inr (0, 14, []), .inl (3, [.inr (.inr (.inl 2)), .inr (.inr (.inl 35)), .inr (.inr (.inl 58)), .inr (.inr (.inl 59)), .inr (.inr (.inl 60)), .inl 0, .inl 0, .inl 0, .inl 0]), .inr (0, 8, []), .inr (0, 8, []), .inr (0, 8, []), .inl (7, [.inr (.inr (.inl 2)), .inr (.inr (.inl 62)), .inr (.inr (.inl 63)), .inr (.inr (.inl 64)), .inr (.inr (.inl 65)), .inr (.inr (.inl 66)), .inl 0, .inl 0, .inr (.inr (.inl 67)), .inr (.inr (.inl 68)), .inl 0, .inl 0, .inl 0, .inl 0, .inl 0]), .inr (0, 30, []), .inr (0, 30, []), .inr (0, 30, []), .inr (0, 30, []), .inr (0, 30, []), .inr (0, 14, []), .inr (0, 9, []), .inl (8, [.inl 0, .inl 0, .inr (.inr (.inl 70)), .inr (.inr (.inl 71)), .inr (.inr (.inl 72)), .inr (.inr (.inl 73)), .inr (.inr (.inl 74))]), .inr (0, 4, []), .inr (0, 56, []), .inr (0, 8, [(7, .inl 1), (6, .inl 1), (5, .inl 1), (4, .inl 1), (3, .inl 1), (2, .inl 1), (1, .inl 1), (0, .inl 1)]), .inr (0, 48, []), .inr (0, 8, []), .inl (12, [.inr (.inr (.inl 76)), .inr (.inr (.inl 77)), .inl 0, .inl 0, .inl 0, .inl 4294967295, .inl 0, .inl 0, .inl 0, .inl 0, .inr (.inr (.inr 1)), .inr (.inr (.inl 78)), .inr (.inr (.inl 79)), .inr (.inr (.inl 80)), .inr (.inr (.inl 81)), .inr (.inr (.inl 82)), .inr (.inr (.inl 83)), .inr (.inr (.inl 84)), .inr (.inr (.inl 85)), .inr (.inr (.inl 86)), .inr (.inr (.inl 87)), .inr (.inr (.inl 88)), .inr (.inr (.inl 89)), .inr (.inr (.inl 90)), .inr (.inr (.inl 91)), .inr (.inr (.inl 92)), .inr (.inr (.inl 93)), .inr (.inr (.inl 94)), .inr (.inr (.inl 95)), .inr (.inr (.inl 96)), .inr (.inr (.inl 97)), .inr (.inr (.inl 98)), .inr (.inr (.inl 99)), .inr (.inr (.inl 100)), .inr (.inr (.inl 101)), .inr (.inr (.inl 102)), .inr (.inr (.inl 103)), .inr (.inr (.inl 104)), .inr (.inr (.inl 105)), .inl 0, .inl 0, .inl 0, .inl 0, .inl 0, .inl 0, .inl 0, .inl 0, .inl 0, .inl 0, .inr (.inr (.inl 106)), .inr (.inr (.inl 107)), .inl 0, .inl 0, .inr (.inr (.inl 108)), .inr (.inr (.inl 109)), .inr (.inr (.inl 110)), .inl 0, .inr (.inr (.inl 111)), .inl 0, .inr (.inr (.inl 112)), .inr (.inr (.inl 113)), .inl 0, .inr (.inr (.inl 114)), .inl 0, .inr (.inr (.inl 115)), .inr (.inr (.inl 116)), .inr (.inr (.inl 117)), .inr (.inr (.inl 118)), .inr (.inr (.inl 119)), .inr (.inr (.inl 120)), .inr (.inr (.inl 121)), .inl 0, .inl 0, .inl 0, .inl 0, .inl 0, .inl 0, .inl 0, .inr (.inr (.inl 122)), .inr (.inr (.inl 123))]), .inr (3, 1620, []), .inr (3, 1600, []), .inr (0, 2, []), .inr (0, 2, []), .inr (0, 2, []), .inr (0, 2, []), .inr (0, 2, []), .inr (0, 2, []), .inr (0, 16, []), .inr (0, 16, []), .inr (0, 16, []), .inr (0, 16, []), .inr (0, 128, []), .inr (0, 8, []), .inr (0, 24, []), .inr (0, 8, []), .inr (0, 112, []), .inr (0, 24, []), .inr (0, 24, []), .inr (2, 2, []), .inr (2, 16, []), .inr (2, 128, []), .inr (1, 16, []), .inr (1, 8, []), .inr (1, 12, []), .inr (0, 1280, []), .inr (0, 1280, []), .inr (0, 90, []), .inr (0, 90, []), .inr (0, 60, []), .inr (0, 119, []), .inr (0, 4879, []), .inr (0, 6300, []), .inr (0, 2000, []), .inr (0, 20, []), .inr (0, 14, []), .inr (0, 8, []), .inr (0, 8, []), .inr (0, 9, []), .inr (0, 3, []), .inr (0, 30, []), .inr (0, 30, []), .inr (0, 30, []), .inr (0, 30, []), .inr (0, 30, []), .inr (0, 14, []), .inr (0, 357, []), .inr (2, 3, []), .inl (8, [.inl 0, .inl 0, .inr (.inr (.inl 125)), .inr (.inr (.inl 126)), .inr (.inr (.inl 127)), .inr (.inr (.inl 128)), .inr (.inr (.inl 129))]), .inr (0, 4, []), .inr (0, 56, []), .inr (0, 8, [(7, .inl 1), (6, .inl 1), (5, .inl 1), (4, .inl 1), (3, .inl 1), (2, .inl 1), (1, .inl 1), (0, .inl 1)]), .inr (0, 48, []), .inr (0, 8, [])], [(0, 4294967295), (2147483648, 2147483648), (0, 4294967295), (0, 4294967295), (0, 4294967295), (0, 4294967295), (2147483654, 2147483654), (2147483660, 2147483660)], 130, 36673)
def sx_G12_2 : sx_S := (621, [(3, .inl 0), (2, .inr (.inr (.inl 75))), (1, .inr (.inr (.inl 0))), (0, .inr (.inr (.inr 2)))], [.inl 4294967295], [.inl (11, [.inr (.inr (.inl 1)), .inl 0, .inr (.inr (.inl 2)), .inr (.inr (.inl 16)), .inr (.inr (.inl 35)), .inr (.inr (.inl 41)), .inr (.inr (.inl 45)), .inr (.inr (.inl 47)), .inr (.inr (.inl 50)), .inr (.inr (.inr 0)), .inr (.inr (.inr 0)), .inr (.inr (.inl 57)), .inr (.inr (.inl 61))]), .inr (0, 1600, []), .inl (10, [.inl 0, .inl 0, .inl 0, .inl 0, .inl 0, .inl 4294967295, .inr (.inr (.inl 3)), .inr (.inr (.inl 4)), .inr (.inr (.inl 5)), .inr (.inr (.inl 6)), .inr (.inr (.inl 7)), .inr (.inr (.inl 8)), .inr (.inr (.inl 9)), .inr (.inr (.inl 10)), .inr (.inr (.inl 11)), .inr (.inr (.inl 12)), .inr (.inr (.inl 13)), .inr (.inr (.inl 14)), .inr (.inr (.inl 15))]), .inr (0, 8, []), .inr (0, 8, []), .inr (0, 8, [(7, .inl 4294967295), (6, .inl 4294967295), (5, .inl 4294967295), (4, .inl 4294967295), (3, .inl 4294967295), (2, .inl 4294967295), (1, .inl 4294967295), (0, .inl 4294967295)]), .inr (0, 8, [(7, .inl 4294967295), (6, .inl 4294967295), (5, .inl 4294967295), (4, .inl 4294967295), (3, .inl 4294967295), (2, .inl 4294967295), (1, .inl 4294967295), (0, .inl 4294967295)]), .inr (0, 8, []), .inr (0, 64, [(63, .inl 4294967295), (62, .inl 4294967295), (61, .inl 4294967295), (60, .inl 4294967295), (59, .inl 4294967295), (58, .inl 4294967295), (57, .inl 4294967295), (56, .inl 4294967295), (55, .inl 4294967295), (54, .inl 4294967295), (53, .inl 4294967295), (52, .inl 4294967295), (51, .inl 4294967295), (50, .inl 4294967295), (49, .inl 4294967295), (48, .inl 4294967295), (47, .inl 4294967295), (46, .inl 4294967295), (45, .inl 4294967295), (44, .inl 4294967295), (43, .inl 4294967295), (42, .inl 4294967295), (41, .inl 4294967295), (40, .inl 4294967295), (39, .inl 4294967295), (38, .inl 4294967295), (37, .inl 4294967295), (36, .inl 4294967295), (35, .inl 4294967295), (34, .inl 4294967295), (33, .inl 4294967295), (32, .inl 4294967295), (31, .inl 4294967295), (30, .inl 4294967295), (29, .inl 4294967295), (28, .inl 4294967295), (27, .inl 4294967295), (26, .inl 4294967295), (25, .inl 4294967295), (24, .inl 4294967295), (23, .inl 4294967295), (22, .inl 4294967295), (21, .inl 4294967295), (20, .inl 4294967295), (19, .inl 4294967295), (18, .inl 4294967295), (17, .inl 4294967295), (16, .inl 4294967295), (15, .inl 4294967295), (14, .inl 4294967295), (13, .inl 4294967295), (12, .inl 4294967295), (11, .inl 4294967295), (10, .inl 4294967295), (9, .inl 4294967295), (8, .inl 4294967295), (7, .inl 4294967295), (6, .inl 4294967295), (5, .inl 4294967295), (4, .inl 4294967295), (3, .inl 4294967295), (2, .inl 4294967295), (1, .inl 4294967295), (0, .inl 4294967295)]), .inr (0, 4, []), .inr (0, 4, []), .inr (0, 56, []), .inr (0, 6, []), .inr (0, 6, []), .inr (0, 6, []), .inr (0, 640, []), .inl (4, [.inr (.inr (.inl 17)), .inr (.inr (.inl 31)), .inr (.inr (.inl 32)), .inr (.inr (.inl 33)), .inr (.inr (.inl 34)), .inr (.inr (.inl 1)), .inl 0, .inl 0, .inl 4294967295, .inl 0, .inl 0, .inr (.inr (.inr 1)), .inl 0, .inl 0, .inl 0, .inl 0, .inl 0]), .inl (10, [.inl 0, .inl 0, .inl 0, .inl 0, .inl 0, .inl 4294967295, .inr (.inr (.inl 18)), .inr (.inr (.inl 19)), .inr (.inr (.inl 20)), .inr (.inr (.inl 21)), .inr (.inr (.inl 22)), .inr (.inr (.inl 23)), .inr (.inr (.inl 24)), .inr (.inr (.inl 25)), .inr (.inr (.inl 26)), .inr (.inr (.inl 27)), .inr (.inr (.inl 28)), .inr (.inr (.inl 29)), .inr (.inr (.inl 30))]), .inr (0, 8, []), .inr (0, 8, []), .inr (0, 8, [(7, .inl 4294967295), (6, .inl 4294967295), (5, .inl 4294967295), (4, .inl 4294967295), (3, .inl 4294967295), (2, .inl 4294967295), (1, .inl 4294967295), (0, .inl 4294967295)]), .inr (0, 8, [(7, .inl 4294967295), (6, .inl 4294967295), (5, .inl 4294967295), (4, .inl 4294967295), (3, .inl 4294967295), (2, .inl 4294967295), (1, .inl 4294967295), (0, .inl 4294967295)]), .inr (0, 8, []), .inr (0, 64, [(63, .inl 4294967295), (62, .inl 4294967295), (61, .inl 4294967295), (60, .inl 4294967295), (59, .inl 4294967295), (58, .inl 4294967295), (57, .inl 4294967295), (56, .inl 4294967295), (55, .inl 4294967295), (54, .inl 4294967295), (53, .inl 4294967295), (52, .inl 4294967295), (51, .inl 4294967295), (50, .inl 4294967295), (49, .inl 4294967295), (48, .inl 4294967295), (47, .inl 4294967295), (46, .inl 4294967295), (45, .inl 4294967295), (44, .inl 4294967295), (43, .inl 4294967295), (42, .inl 4294967295), (41, .inl 4294967295), (40, .inl 4294967295), (39, .inl 4294967295), (38, .inl 4294967295), (37, .inl 4294967295), (36, .inl 4294967295), (35, .inl 4294967295), (34, .inl 4294967295), (33, .inl 4294967295), (32, .inl 4294967295), (31, .inl 4294967295), (30, .inl 4294967295), (29, .inl 4294967295), (28, .inl 4294967295), (27, .inl 4294967295), (26, .inl 4294967295), (25, .inl 4294967295), (24, .inl 4294967295), (23, .inl 4294967295), (22, .inl 4294967295), (21, .inl 4294967295), (20, .inl 4294967295), (19, .inl 4294967295), (18, .inl 4294967295), (17, .inl 4294967295), (16, .inl 4294967295), (15, .inl 4294967295), (14, .inl 4294967295), (13, .inl 4294967295), (12, .inl 4294967295), (11, .inl 4294967295), (10, .inl 4294967295), (9, .inl 4294967295), (8, .inl 4294967295), (7, .inl 4294967295), (6, .inl 4294967295), (5, .inl 4294967295), (4, .inl 4294967295), (3, .inl 4294967295), (2, .inl 4294967295), (1, .inl 4294967295), (0, .inl 4294967295)]), .inr (0, 4, []), .inr (0, 4, []), .inr (0, 56, []), .inr (0, 6, []), .inr (0, 6, []), .inr (0, 6, []), .inr (0, 640, []), .inr (1, 8, []), .inr (1, 4, []), .inr (1, 6, []), .inr (0, 3, []), .inl (8, [.inl 0, .inl 0, .inr (.inr (.inl 36)), .inr (.inr (.inl 37)), .inr (.inr (.inl 38)), .inr (.inr (.inl 39)), .inr (.inr (.inl 40))]), .inr (0, 4, []), .inr (0, 56, []), .inr (0, 8, [(7, .inl 1), (6, .inl 1), (5, .inl 1), (4, .inl 1), (3, .inl 1), (2, .inl 1), (1, .inl 1), (0, .inl 1)]), .inr (0, 48, []), .inr (0, 8, []), .inl (2, [.inr (.inr (.inl 42)), .inr (.inr (.inl 43)), .inr (.inr (.inl 44)), .inl 0, .inl 0, .inl 0]), .inr (4, 41, [(0, .inr (.inr (.inl 69)))]), .inr (4, 3, []), .inr (2, 3, []), .inl (5, [.inr (.inr (.inl 46)), .inl 0]), .inr (0, 20, []), .inl (0, [.inr (.inr (.inl 2)), .inr (.inr (.inl 35)), .inr (.inr (.inl 48)), .inr (.inr (.inl 49)), .inl 0, .inl 0, .inl 0, .inl 0]), .inr (0, 30, []), .inr (0, 3, []), .inl (1, [.inr (.inr (.inl 2)), .inr (.inr (.inl 35)), .inr (.inr (.inl 47)), .inr (.inr (.inl 51)), .inr (.inr (.inl 52)), .inr (.inr (.inl 53)), .inr (.inr (.inl 54)), .inr (.inr (.inl 55)), .inl 0, .inl 0]), .inr (0, 2000, []), .inr (0, 6000, []), .inr (1, 2000, []), .inr (1, 2000, []), .inl (5, [.inr (.inr (.inl 56)), .inl 0]), .inr (0, 14, []), .inl (3, [.inr (.inr (.inl 2)), .inr (.inr (.inl 35)), .inr (.inr (.inl 58)), .inr (.inr (.inl 59)), .inr (.inr (.inl 60)), .inl 0, .inl 0, .inl 0, .inl 0]), .inr (0, 8, []), .inr (0, 8, []), .inr (0, 8, []), .inl (7, [.inr (.inr (.inl 2)), .inr (.inr (.inl 62)), .inr (.inr (.inl 63)), .inr (.inr (.inl 64)), .inr (.inr (.inl 65)), .inr (.inr (.inl 66)), .inl 0, .inl 0, .inr (.inr (.inl 67)), .inr (.inr (.inl 68)), .inl 0, .inl 0, .inl 0, .inl 0, .inl 0]), .inr (0, 30, []), .inr (0, 30, []), .inr (0, 30, []), .inr (0, 30, []), .inr (0, 30, []), .inr (0, 14, []), .inr (0, 9, []), .inl (8, [.inl 0, .inl 0, .inr (.inr (.inl 70)), .inr (.inr (.inl 71)), .inr (.inr (.inl 72)), .inr (.inr (.inl 73)), .inr (.inr (.inl 74))]), .inr (0, 4, []), .inr (0, 56, []), .inr (0, 8, [(7, .inl 1), (6, .inl 1), (5, .inl 1), (4, .inl 1), (3, .inl 1), (2, .inl 1), (1, .inl 1), (0, .inl 1)]), .inr (0, 48, []), .inr (0, 8, []), .inl (12, [.inr (.inr (.inl 76)), .inr (.inr (.inl 77)), .inl 0, .inl 0, .inl 0, .inl 4294967295, .inl 0, .inl 0, .inl 0, .inl 0, .inr (.inr (.inr 1)), .inr (.inr (.inl 78)), .inr (.inr (.inl 79)), .inr (.inr (.inl 80)), .inr (.inr (.inl 81)), .inr (.inr (.inl 82)), .inr (.inr (.inl 83)), .inr (.inr (.inl 84)), .inr (.inr (.inl 85)), .inr (.inr (.inl 86)), .inr (.inr (.inl 87)), .inr (.inr (.inl 88)), .inr (.inr (.inl 89)), .inr (.inr (.inl 90)), .inr (.inr (.inl 91)), .inr (.inr (.inl 92)), .inr (.inr (.inl 93)), .inr (.inr (.inl 94)), .inr (.inr (.inl 95)), .inr (.inr (.inl 96)), .inr (.inr (.inl 97)), .inr (.inr (.inl 98)), .inr (.inr (.inl 99)), .inr (.inr (.inl 100)), .inr (.inr (.inl 101)), .inr (.inr (.inl 102)), .inr (.inr (.inl 103)), .inr (.inr (.inl 104)), .inr (.inr (.inl 105)), .inl 0, .inl 0, .inl 0, .inl 0, .inl 0, .inl 0, .inl 0, .inl 0, .inl 0, .inl 0, .inr (.inr (.inl 106)), .inr (.inr (.inl 107)), .inl 0, .inl 0, .inr (.inr (.inl 108)), .inr (.inr (.inl 109)), .inr (.inr (.inl 110)), .inl 0, .inr (.inr (.inl 111)), .inl 0, .inr (.inr (.inl 112)), .inr (.inr (.inl 113)), .inl 0, .inr (.inr (.inl 114)), .inl 0, .inr (.inr (.inl 115)), .inr (.inr (.inl 116)), .inr (.inr (.inl 117)), .inr (.inr (.inl 118)), .inr (.inr (.inl 119)), .inr (.inr (.inl 120)), .inr (.inr (.inl 121)), .inl 0, .inl 0, .inl 0, .inl 0, .inl 0, .inl 0, .inl 0, .inr (.inr (.inl 122)), .inr (.inr (.inl 123))]), .inr (3, 1620, []), .inr (3, 1600, []), .inr (0, 2, []), .inr (0, 2, []), .inr (0, 2, []), .inr (0, 2, []), .inr (0, 2, []), .inr (0, 2, []), .inr (0, 16, []), .inr (0, 16, []), .inr (0, 16, []), .inr (0, 16, []), .inr (0, 128, []), .inr (0, 8, []), .inr (0, 24, []), .inr (0, 8, []), .inr (0, 112, []), .inr (0, 24, []), .inr (0, 24, []), .inr (2, 2, []), .inr (2, 16, []), .inr (2, 128, []), .inr (1, 16, []), .inr (1, 8, []), .inr (1, 12, []), .inr (0, 1280, []), .inr (0, 1280, []), .inr (0, 90, []), .inr (0, 90, []), .inr (0, 60, []), .inr (0, 119, []), .inr (0, 4879, []), .inr (0, 6300, []), .inr (0, 2000, []), .inr (0, 20, []), .inr (0, 14, []), .inr (0, 8, []), .inr (0, 8, []), .inr (0, 9, []), .inr (0, 3, []), .inr (0, 30, []), .inr (0, 30, []), .inr (0, 30, []), .inr (0, 30, []), .inr (0, 30, []), .inr (0, 14, []), .inr (0, 357, []), .inr (2, 3, [])], [(0, 4294967295), (0, 2147483647), (0, 4294967295), (0, 4294967295), (0, 4294967295), (0, 4294967295), (2147483654, 2147483654), (2147483660, 2147483660)], 130, 36673)
def sx_G12_3 : sx_S := (621, [(3, .inl 0), (2, .inr (.inr (.inl 75))), (1, .inr (.inr (.inl 0))), (0, .inr (.inr (.inr 2)))], [.inr (.inl 1)], [.inl (11, [.inr (.inr (.inl 1)), .inl 0, .inr (.inr (.inl 2)), .inr (.inr (.inl 16)), .inr (.inr (.inl 35)), .inr (.inr (.inl 41)), .inr (.inr (.inl 45)), .inr (.inr (.inl 47)), .inr (.inr (.inl 50)), .inr (.inr (.inr 0)), .inr (.inr (.inr 0)), .inr (.inr (.inl 57)), .inr (.inr (.inl 61))]), .inr (0, 1600, []), .inl (10, [.inl 0, .inl 0, .inl 0, .inl 0, .inl 0, .inl 4294967295, .inr (.inr (.inl 3)), .inr (.inr (.inl 4)), .inr (.inr (.inl 5)), .inr (.inr (.inl 6)), .inr (.inr (.inl 7)), .inr (.inr (.inl 8)), .inr (.inr (.inl 9)), .inr (.inr (.inl 10)), .inr (.inr (.inl 11)), .inr (.inr (.inl 12)), .inr (.inr (.inl 13)), .inr (.inr (.inl 14)), .inr (.inr (.inl 15))]), .inr (0, 8, []), .inr (0, 8, []), .inr (0, 8, [(7, .inl 4294967295), (6, .inl 4294967295), (5, .inl 4294967295), (4, .inl 4294967295), (3, .inl 4294967295), (2, .inl 4294967295), (1, .inl 4294967295), (0, .inl 4294967295)]), .inr (0, 8, [(7, .inl 4294967295), (6, .inl 4294967295), (5, .inl 4294967295), (4, .inl 4294967295), (3, .inl 4294967295), (2, .inl 4294967295), (1, .inl 4294967295), (0, .inl 4294967295)]), .inr (0, 8, []), .inr (0, 64, [(63, .inl 4294967295), (62, .inl 4294967295), (61, .inl 4294967295), (60, .inl 4294967295), (59, .inl 4294967295), (58, .inl 4294967295), (57, .inl 4294967295), (56, .inl 4294967295), (55, .inl 4294967295), (54, .inl 4294967295), (53, .inl 4294967295), (52, .inl 4294967295), (51, .inl 4294967295), (50, .inl 4294967295), (49, .inl 4294967295), (48, .inl 4294967295), (47, .inl 4294967295), (46, .inl 4294967295), (45, .inl 4294967295), (44, .inl 4294967295), (43, .inl 4294967295), (42, .inl 4294967295), (41, .inl 4294967295), (40, .inl 4294967295), (39, .inl 4294967295), (38, .inl 4294967295), (37, .inl 4294967295), (36, .inl 4294967295), (35, .inl 4294967295), (34, .inl 4294967295), (33, .inl 4294967295), (32, .inl 4294967295), (31, .inl 4294967295), (30, .inl 4294967295), (29, .inl 4294967295), (28, .inl 4294967295), (27, .inl 4294967295), (26, .inl 4294967295), (25, .inl 4294967295), (24, .inl 4294967295), (23, .inl 4294967295), (22, .inl 4294967295), (21, .inl 4294967295), (20, .inl 4294967295), (19, .inl 4294967295), (18, .inl 4294967295), (17, .inl 4294967295), (16, .inl 4294967295), (15, .inl 4294967295), (14, .inl 4294967295), (13, .inl 4294967295), (12, .inl 4294967295), (11, .inl 4294967295), (10, .inl 4294967295), (9, .inl 4294967295), (8, .inl 4294967295), (7, .inl 4294967295), (6, .inl 4294967295), (5, .inl 4294967295), (4, .inl 4294967295), (3, .inl 4294967295), (2, .inl 4294967295), (1, .inl 4294967295), (0, .inl 4294967295)]), .inr (0, 4, []), .inr (0, 4, []), .inr (0, 56, []), .inr (0, 6, []), .inr (0, 6, []), .inr (0, 6, []), .inr (0, 640, []), .inl (4, [.inr (.inr (.inl 17)), .inr (.inr (.inl 31)), .inr (.inr (.inl 32)), .inr (.inr (.inl 33)), .inr (.inr (.inl 34)), .inr (.inr (.inl 1)), .inl 0, .inl 0, .inl 4294967295, .inl 0, .inl 0, .inr (.inr (.inr 1)), .inl 0, .inl 0, .inl 0, .inl 0, .inl 0]), .inl (10, [.inl 0, .inl 0, .inl 0, .inl 0, .inl 0, .inl 4294967295, .inr (.inr (.inl 18)), .inr (.inr (.inl 19)), .inr (.inr (.inl 20)), .inr (.inr (.inl 21)), .inr (.inr (.inl 22)), .inr (.inr (.inl 23)), .inr (.inr (.inl 24)), .inr (.inr (.inl 25)), .inr (.inr (.inl 26)), .inr (.inr (.inl 27)), .inr (.inr (.inl 28)), .inr (.inr (.inl 29)), .inr (.inr (.inl 30))]), .inr (0, 8, []), .inr (0, 8, []), .inr (0, 8, [(7, .inl 4294967295), (6, .inl 4294967295), (5, .inl 4294967295), (4, .inl 4294967295), (3, .inl 4294967295), (2, .inl 4294967295), (1, .inl 4294967295), (0, .inl 4294967295)]), .inr (0, 8, [(7, .inl 4294967295), (6, .inl 4294967295), (5, .inl 4294967295), (4, .inl 4294967295), (3, .inl 4294967295), (2, .inl 4294967295), (1, .inl 4294967295), (0, .inl 4294967295)]), .inr (0, 8, []), .inr (0, 64, [(63, .inl 4294967295), (62, .inl 4294967295), (61, .inl 4294967295), (60, .inl 4294967295), (59, .inl 4294967295), (58, .inl 4294967295), (57, .inl 4294967295), (56, .inl 4294967295), (55, .inl 4294967295), (54, .inl 4294967295), (53, .inl 4294967295), (52, .inl 4294967295), (51, .inl 4294967295), (50, .inl 4294967295), (49, .inl 4294967295), (48, .inl 4294967295), (47, .inl 4294967295), (46, .inl 4294967295), (45, .inl 4294967295), (44, .inl 4294967295), (43, .inl 4294967295), (42, .inl 4294967295), (41, .inl 4294967295), (40, .inl 4294967295), (39, .inl 4294967295), (38, .inl 4294967295), (37, .inl 4294967295), (36, .inl 4294967295), (35, .inl 4294967295), (34, .inl 4294967295), (33, .inl 4294967295), (32, .inl 4294967295), (31, .inl 4294967295), (30, .inl 4294967295), (29, .inl 4294967295), (28, .inl 4294967295), (27, .inl 4294967295), (26, .inl 4294967295), (25, .inl 4294967295), (24, .inl 4294967295), (23, .inl 4294967295), (22, .inl 4294967295), (21, .inl 4294967295), (20, .inl 4294967295), (19, .inl 4294967295), (18, .inl 4294967295), (17, .inl 4294967295), (16, .inl 4294967295), (15, .inl 4294967295), (14, .inl 4294967295), (13, .inl 4294967295), (12, .inl 4294967295), (11, .inl 4294967295), (10, .inl 4294967295), (9, .inl 4294967295), (8, .inl 4294967295), (7, .inl 4294967295), (6, .inl 4294967295), (5, .inl 4294967295), (4, .inl 4294967295), (3, .inl 4294967295), (2, .inl 4294967295), (1, .inl 4294967295), (0, .inl 4294967295)]), .inr (0, 4, []), .inr (0, 4, []), .inr (0, 56, []), .inr (0, 6, []), .inr (0, 6, []), .inr (0, 6, []), .inr (0, 640, []), .inr (1, 8, []), .inr (1, 4, []), .inr (1, 6, []), .inr (0, 3, []), .inl (8, [.inr (.inl 1), .inl 0, .inr (.inr (.inl 36)), .inr (.inr (.inl 37)), .inr (.inr (.inl 38)), .inr (.inr (.inl 39)), .inr (.inr (.inl 40))]), .inr (0, 4, []), .inr (0, 56, []), .inr (0, 8, [(7, .inl 1), (6, .inl 1), (5, .inl 1), (4, .inl 1), (3, .inl 1), (2, .inl 1), (1, .inl 1), (0, .inl 1)]), .inr (0, 48, []), .inr (0, 8, []), .inl (2, [.inr (.inr (.inl 42)), .inr (.inr (.inl 43)), .inr (.inr (.inl 44)), .inl 0, .inl 1, .inl 0]), .inr (4, 41, [(1, .inr (.inr (.inl 124))), (0, .inr (.inr (.inl 69)))]), .inr (4, 3, []), .inr (2, 3, []), .inl (5, [.inr (.inr (.inl 46)), .inl 0]), .inr (0, 20, []), .inl (0, [.inr (.inr (.inl 2)), .inr (.inr (.inl 35)), .inr (.inr (.inl 48)), .inr (.inr (.inl 49)), .inl 0, .inl 0, .inl 0, .inl 0]), .inr (0, 30, []), .inr (0, 3, []), .inl (1, [.inr (.inr (.inl 2)), .inr (.inr (.inl 35)), .inr (.inr (.inl 47)), .inr (.inr (.inl 51)), .inr (.inr (.inl 52)), .inr (.inr (.inl 53)), .inr (.inr (.inl 54)), .inr (.inr (.inl 55)), .inl 0, .inl 0]), .inr (0, 2000, []), .inr (0, 6000, []), .inr (1, 2000, []), .inr (1, 2000, []), .inl (5, [.inr (.inr (.inl 56)), .inl 0]), .inr (0, 14, []), .inl (3, [.inr (.inr (.inl 2)), .inr (.inr (.inl 35)), .inr (.inr (.inl 58)), .inr (.inr (.inl 59)), .inr (.inr (.inl 60)), .inl 0, .inl 0, .inl 0, .inl 0]), .inr (0, 8, []), .inr (0, 8, []), .inr (0, 8, []), .inl (7, [.inr (.inr (.inl 2)), .inr (.inr (.inl 62)), .inr (.inr (.inl 63)), .inr (.inr (.inl 64)), .inr (.inr (.inl 65)), .inr (.inr (.inl 66)), .inl 0, .inl 0, .inr (.inr (.inl 67)), .inr (.inr (.inl 68)), .inl 0, .inl 0, .inl 0, .inl 0, .inl 0]), .inr (0, 30, []), .inr (0, 30, []), .inr (0, 30, []), .inr (0, 30, []), .inr (0, 30, []), .inr (0, 14, []), .inr (0, 9, []), .inl (8, [.inl 0, .inl 0, .inr (.inr (.inl 70)), .inr (.inr (.inl 71)), .inr (.inr (.inl 72)), .inr (.inr (.inl 73)), .inr (.inr (.inl 74))]), .inr (0, 4, []), .inr (0, 56, []), .inr (0, 8, [(7, .inl 1), (6, .inl 1), (5, .inl 1), (4, .inl 1), (3, .inl 1), (2, .inl 1), (1, .inl 1), (0, .inl 1)]), .inr (0, 48, []), .inr (0, 8, []), .inl (12, [.inr (.inr (.inl 76)), .inr (.inr (.inl 77)), .inl 0, .inl 0, .inl 0, .inl 4294967295, .inl 0, .inl 0, .inl 0, .inl 0, .inr (.inr (.inr 1)), .inr (.inr (.inl 78)), .inr (.inr (.inl 79)), .inr (.inr (.inl 80)), .inr (.inr (.inl 81)), .inr (.inr (.inl 82)), .inr (.inr (.inl 83)), .inr (.inr (.inl 84)), .inr (.inr (.inl 85)), .inr (.inr (.inl 86)), .inr (.inr (.inl 87)), .inr (.inr (.inl 88)), .inr (.inr (.inl 89)), .inr (.inr (.inl 90)), .inr (.inr (.inl 91)), .inr (.inr (.inl 92)), .inr (.inr (.inl 93)), .inr (.inr (.inl 94)), .inr (.inr (.inl 95)), .inr (.inr (.inl 96)), .inr (.inr (.inl 97)), .inr (.inr (.inl 98)), .inr (.inr (.inl 99)), .inr (.inr (.inl 100)), .inr (.inr (.inl 101)), .inr (.inr (.inl 102)), .inr (.inr (.inl 103)), .inr (.inr (.inl 104)), .inr (.inr (.inl 105)), .inl 0, .inl 0, .inl 0, .inl 0, .inl 0, .inl 0, .inl 0, .inl 0, .inl 0, .inl 0, .inr (.inr (.inl 106)), .inr (.inr (.inl 107)), .inl 0, .inl 0, .inr (.inr (.inl 108)), .inr (.inr (.inl 109)), .inr (.inr (.inl 110)), .inl 0, .inr (.inr (.inl 111)), .inl 0, .inr (.inr (.inl 112)), .inr (.inr (.inl 113)), .inl 0, .inr (.inr (.inl 114)), .inl 0, .inr (.inr (.inl 115)), .inr (.inr (.inl 116)), .inr (.inr (.inl 117)), .inr (.inr (.inl 118)), .inr (.inr (.inl 119)), .inr (.inr (.inl 120)), .inr (.inr (.inl 121)), .inl 0, .inl 0, .inl 0, .inl 0, .inl 0, .inl 0, .inl 0, .inr (.inr (.inl 122)), .inr (.inr (.inl 123))]), .inr (3, 1620, []), .inr (3, 1600, []), .inr (0, 2, []), .inr (0, 2, []), .inr (0, 2, []), .inr (0, 2, []), .inr (0, 2, []), .inr (0, 2, []), .inr (0, 16, []), .inr (0, 16, []), .inr (0, 16, []), .inr (0, 16, []), .inr (0, 128, []), .inr (0, 8, []), .inr (0, 24, []), .inr (0, 8, []), .inr (0, 112, []), .inr (0, 24, []), .inr (0, 24, []), .inr (2, 2, []), .inr (2, 16, []), .inr (2, 128, []), .inr (1, 16, []), .inr (1, 8, []), .inr (1, 12, []), .inr (0, 1280, []), .inr (0, 1280, []), .inr (0, 90, []), .inr (0, 90, []), .inr (0, 60, []), .inr (0, 119, []), .inr (0, 4879, []), .inr (0, 6300, []), .inr (0, 2000, []), .inr (0, 20, []), .inr (0, 14, []), .inr (0, 8, []), .inr (0, 8, []), .inr (0, 9, []), .inr (0, 3, []), .inr (0, 30, []), .inr (0, 30, []), .inr (0, 30, []), .inr (0, 30, []), .inr (0, 30, []), .inr (0, 14, []), .inr (0, 357, []), .inr (2, 3, []), .inl (8, [.inr (.inl 1), .inl 0, .inr (.inr (.inl 125)), .inr (.inr (.inl 126)), .inr (.inr (.inl 127)), .inr (.inr (.inl 128)), .inr (.inr (.inl 129))]), .inr (0, 4, []), .inr (0, 56, []), .inr (0, 8, [(7, .inl 1), (6, .inl 1), (5, .inl 1), (4, .inl 1), (3, .inl 1), (2, .inl 1), (1, .inl 1), (0, .inl 1)]), .inr (0, 48, []), .inr (0, 8, [])], [(0, 4294967295), (2147483649, 2147483708), (0, 4294967295), (0, 4294967295), (0, 4294967295), (0, 4294967295), (2147483654, 2147483654), (2147483660, 2147483660)], 130, 36673)
def sx_Gs12 : List sx_S := [sx_G12_0, sx_G12_1, sx_G12_2, sx_G12_3]
set_option maxRecDepth 1000000 in
theorem sx_c12 : sx_covs (sx_law 621 (sx_oS 12 12)) sx_Gs12 = true := by decide +kernel
set_option maxRecDepth 1000000 in
theorem sx_f12_0 : sx_fn (sx_law sx_far sx_G12_0) = true := by decide +kernel
set_option maxRecDepth 1000000 in
theorem sx_f12_1 : sx_fn (sx_law sx_far sx_G12_1) = true := by decide +kernel
set_option maxRecDepth 1000000 in
theorem sx_f12_2 : sx_fn (sx_law sx_far sx_G12_2) = true := by decide +kernel
set_option maxRecDepth 1000000 in
theorem sx_f12_3 : sx_fn (sx_law sx_far sx_G12_3) = true := by decide +kernel
end
section
/-! stolen: the leaves of the class joined -/
def sx_G30_0 : sx_S := (1091, [(3, .inl 0), (2, .inr (.inr (.inl 75))), (1, .inr (.inr (.inl 0))), (0, .inr (.inr (.inr 2)))], [.inl 4294967295], [.inl (11, [.inr (.inr (.inl 1)), .inl 0, .inr (.inr (.inl 2)), .inr (.inr (.inl 16)), .inr (.inr (.inl 35)), .inr (.inr (.inl 41)), .inr (.inr (.inl 45)), .inr (.inr (.inl 47)), .inr (.inr (.inl 50)), .inr (.inr (.inr 0)), .inr (.inr (.inr 0)), .inr (.inr (.inl 57)), .inr (.inr (.inl 61))]), .inr (0, 1600, []), .inl (10, [.inl 0, .inl 0, .inl 0, .inl 0, .inl 0, .inl 4294967295, .inr (.inr (.inl 3)), .inr (.inr (.inl 4)), .inr (.inr (.inl 5)), .inr (.inr (.inl 6)), .inr (.inr (.inl 7)), .inr (.inr (.inl 8)), .inr (.inr (.inl 9)), .inr (.inr (.inl 10)), .inr (.inr (.inl 11)), .inr (.inr (.inl 12)), .inr (.inr (.inl 13)), .inr (.inr (.inl 14)), .inr (.inr (.inl 15))]), .inr (0, 8, []), .inr (0, 8, []), .inr (0, 8, [(7, .inl 4294967295), (6, .inl 4294967295), (5, .inl 4294967295), (4, .inl 4294967295), (3, .inl 4294967295), (2, .inl 4294967295), (1, .inl 4294967295), (0, .inl 4294967295)]), .inr (0, 8, [(7, .inl 4294967295), (6, .inl 4294967295), (5, .inl 4294967295), (4, .inl 4294967295), (3, .inl 4294967295), (2, .inl 4294967295), (1, .inl 4294967295), (0, .inl 4294967295)]), .inr (0, 8, []), .inr (0, 64, [(63, .inl 4294967295), (62, .inl 4294967295), (61, .inl 4294967295), (60, .inl 4294967295), (59, .inl 4294967295), (58, .inl 4294967295), (57, .inl 4294967295), (56, .inl 4294967295), (55, .inl 4294967295), (54, .inl 4294967295), (53, .inl 4294967295), (52, .inl 4294967295), (51, .inl 4294967295), (50, .inl 4294967295), (49, .inl 4294967295), (48, .inl 4294967295), (47, .inl 4294967295), (46, .inl 4294967295), (45, .inl 4294967295), (44, .inl 4294967295), (43, .inl 4294967295), (42, .inl 4294967295), (41, .inl 4294967295), (40, .inl 4294967295), (39, .inl 4294967295), (38, .inl 4294967295), (37, .inl 4294967295), (36, .inl 4294967295), (35, .inl 4294967295), (34, .inl 4294967295), (33, .inl 4294967295), (32, .inl 4294967295), (31, .inl 4294967295), (30, .inl 4294967295), (29, .inl 4294967295), (28, .inl 4294967295), (27, .inl 4294967295), (26, .inl 4294967295), (25, .inl 4294967295), (24, .inl 4294967295), (23, .inl 4294967295), (22, .inl 4294967295), (21, .inl 4294967295), (20, .inl 4294967295), (19, .inl 4294967295), (18, .inl 4294967295), (17, .inl 4294967295), (16, .inl 4294967295), (15, .inl 4294967295), (14, .inl 4294967295), (13, .inl 4294967295), (12, .inl 4294967295), (11, .inl 4294967295), (10, .inl 4294967295), (9, .inl 4294967295), (8, .inl 4294967295), (7, .inl 4294967295), (6, .inl 4294967295), (5, .inl 4294967295), (4, .inl 4294967295), (3, .inl 4294967295), (2, .inl 4294967295), (1, .inl 4294967295), (0, .inl 4294967295)]), .inr (0, 4, []), .inr (0, 4, []), .inr (0, 56, []), .inr (0, 6, []), .inr (0, 6, []), .inr (0, 6, []), .inr (0, 640, []), .inl (4, [.inr (.inr (.inl 17)), .inr (.inr (.inl 31)), .inr (.inr (.inl 32)), .inr (.inr (.inl 33)), .inr (.inr (.inl 34)), .inr (.inr (.inl 1)), .inl 0, .inl 0, .inl 4294967295, .inl 0, .inl 0, .inr (.inr (.inr 1)), .inl 0, .inl 0, .inl 0, .inl 0, .inl 0]), .inl (10, [.inl 0, .inl 0, .inl 0, .inl 0, .inl 0, .inl 4294967295, .inr (.inr (.inl 18)), .inr (.inr (.inl 19)), .inr (.inr (.inl 20)), .inr (.inr (.inl 21)), .inr (.inr (.inl 22)), .inr (.inr (.inl 23)), .inr (.inr (.inl 24)), .inr (.inr (.inl 25)), .inr (.inr (.inl 26)), .inr (.inr (.inl 27)), .inr (.inr (.inl 28)), .inr (.inr (.inl 29)), .inr (.inr (.inl 30))]), .inr (0, 8, []), .inr (0, 8, []), .inr (0, 8, [(7, .inl 4294967295), (6, .inl 4294967295), (5, .inl 4294967295), (4, .inl 4294967295), (3, .inl 4294967295), (2, .inl 4294967295), (1, .inl 4294967295), (0, .inl 4294967295)]), .inr (0, 8, [(7, .inl 4294967295), (6, .inl 4294967295), (5, .inl 4294967295), (4, .inl 4294967295), (3, .inl 4294967295), (2, .inl 4294967295), (1, .inl 4294967295), (0, .inl 4294967295)]), .inr (0, 8, []), .inr (0, 64, [(63, .inl 4294967295), (62, .inl 4294967295), (61, .inl 4294967295), (60, .inl 4294967295), (59, .inl 4294967295), (58, .inl 4294967295), (57, .inl 4294967295), (56, .inl 4294967295), (55, .inl 4294967295), (54, .inl 4294967295), (53, .inl 4294967295), (52, .inl 4294967295), (51, .inl 4294967295), (50, .inl 4294967295), (49, .inl 4294967295), (48, .inl 4294967295), (47, .inl 4294967295), (46, .inl 4294967295), (45, .inl 4294967295), (44, .inl 4294967295), (43, .inl 4294967295), (42, .inl 4294967295), (41, .inl 4294967295), (40, .inl 4294967295), (39, .inl 4294967295), (38, .inl 4294967295), (37, .inl 4294967295), (36, .inl 4294967295), (35, .inl 4294967295), (34, .inl 4294967295), (33, .inl 4294967295), (32, .inl 4294967295), (31, .inl 4294967295), (30, .inl 4294967295), (29, .inl 4294967295), (28, .inl 4294967295), (27, .inl 4294967295), (26, .inl 4294967295), (25, .inl 4294967295), (24, .inl 4294967295), (23, .inl 4294967295), (22, .inl 4294967295), (21, .inl 4294967295), (20, .inl 4294967295), (19, .inl 4294967295), (18, .inl 4294967295), (17, .inl 4294967295), (16, .inl 4294967295), (15, .inl 4294967295), (14, .inl 4294967295), (13, .inl 4294967295), (12, .inl 4294967295), (11, .inl 4294967295), (10, .inl 4294967295), (9, .inl 4294967295), (8, .inl 4294967295), (7, .inl 4294967295), (6, .inl 4294967295), (5, .inl 4294967295), (4, .inl 4294967295), (3, .inl 4294967295), (2, .inl 4294967295), (1, .inl 4294967295), (0, .inl 4294967295)]), .inr (0, 4, []), .inr (0, 4, []), .inr (0, 56, []), .inr (0, 6, []), .inr (0, 6, []), .inr (0, 6, []), .inr (0, 640, []), .inr (1, 8, []), .inr (1, 4, []), .inr (1, 6, []), .inr (0, 3, []), .inl (8, [.inl 0, .inl 0, .inr (.inr (.inl 36)), .inr (.inr (.inl 37)), .inr (.inr (.inl 38)), .inr (.inr (.inl 39)), .inr (.inr (.inl 40))]), .inr (0, 4, []), .inr (0, 56, []), .inr (0, 8, [(7, .inl 1), (6, .inl 1), (5, .inl 1), (4, .inl 1), (3, .inl 1), (2, .inl 1), (1, .inl 1), (0, .inl 1)]), .inr (0, 48, []), .inr (0, 8, []), .inl (2, [.inr (.inr (.inl 42)), .inr (.inr (.inl 43)), .inr (.inr (.inl 44)), .inl 0, .inl 0, .inl 0]), .inr (4, 41, [(0, .inr (.inr (.inl 69)))]), .inr (4, 3, []), .inr (2, 3, []), .inl (5, [.inr (.inr (.inl 46)), .inl 0]), .inr (0, 20, []), .inl (0, [.inr (.inr (.inl 2)), .inr (.inr (.inl 35)), .inr (.inr (.inl 48)), .inr (.inr (.inl 49)), .inl 0, .inl 0, .inl 0, .inl 0]), .inr (0, 30, []), .inr (0, 3, []), .inl (1, [.inr (.inr (.inl 2)), .inr (.inr (.inl 35)), .inr (.inr (.inl 47)), .inr (.inr (.inl 51)), .inr (.inr (.inl 52)), .inr (.inr (.inl 53)), .inr (.inr (.inl 54)), .inr (.inr (.inl 55)), .inl 0, .inl 0]), .inr (0, 2000, []), .inr (0, 6000, []), .inr (1, 2000, []), .inr (1, 2000, []), .inl (5, [.inr (.inr (.inl 56)), .inl 0]), .inr (0, 14, []), .inl (3, [.inr (.inr (.inl 2)), .inr (.inr (.inl 35)), .inr (.inr (.inl 58)), .inr (.inr (.inl 59)), .inr (.inr (.inl 60)), .inl 0, .inl 0, .inl 0, .inl 0]), .inr (0, 8, []), .inr (0, 8, []), .inr (0, 8, []), .inl (7, [.inr (.inr (.inl 2)), .inr (.inr (.inl 62)), .inr (.inr (.inl 63)), .inr (.inr (.inl 64)), .inr (.inr (.inl 65)), .inr (.inr (.inl 66)), .inl 0, .inl 0, .inr (.inr (.inl 67)), .inr (.inr (.inl 68)), .inl 0, .inl 0, .inl 0, .inl 0, .inl 0]), .inr (0, 30, []), .inr (0, 30, []), .inr (0, 30, []), .inr (0, 30, []), .inr (0, 30, []), .inr (0, 14, []), .inr (0, 9, []), .inl (8, [.inl 0, .inl 0, .inr (.inr (.inl 70)), .inr (.inr (.inl 71)), .inr (.inr (.inl 72)), .inr (.inr (.inl 73)), .inr (.inr (.inl 74))]), .inr (0, 4, []), .inr (0, 56, []), .inr (0, 8, [(7, .inl 1), (6, .inl 1), (5, .inl 1), (4, .inl 1), (3, .inl 1), (2, .inl 1), (1, .inl 1), (0, .inl 1)]), .inr (0, 48, []), .inr (0, 8, []), .inl (12, [.inr (.inr (.inl 76)), .inr (.inr (.inl 77)), .inl 0, .inl 0, .inl 0, .inl 4294967295, .inl 0, .inl 0, .inl 0, .inl 0, .inr (.inr (.inr 1)), .inr (.inr (.inl 78)), .inr (.inr (.inl 79)), .inr (.inr (.inl 80)), .inr (.inr (.inl 81)), .inr (.inr (.inl 82)), .inr (.inr (.inl 83)), .inr (.inr (.inl 84)), .inr (.inr (.inl 85)), .inr (.inr (.inl 86)), .inr (.inr (.inl 87)), .inr (.inr (.inl 88)), .inr (.inr (.inl 89)), .inr (.inr (.inl 90)), .inr (.inr (.inl 91)), .inr (.inr (.inl 92)), .inr (.inr (.inl 93)), .inr (.inr (.inl 94)), .inr (.inr (.inl 95)), .inr (.inr (.inl 96)), .inr (.inr (.inl 97)), .inr (.inr (.inl 98)), .inr (.inr (.inl 99)), .inr (.inr (.inl 100)), .inr (.inr (.inl 101)), .inr (.inr (.inl 102)), .inr (.inr (.inl 103)), .inr (.inr (.inl 104)), .inr (.inr (.inl 105)), .inl 0, .inl 0, .inl 0, .inl 0, .inl 0, .inl 0, .inl 0, .inl 0, .inl 0, .inl 0, .inr (.inr (.inl 106)), .inr (.inr (.inl 107)), .inl 0, .inl 0, .inr (.inr (.inl 108)), .inr (.inr (.inl 109)), .inr (.inr (.inl 110)), .inl 0, .inr (.inr (.inl 111)), .inl 0, .inr (.inr (.inl 112)), .inr (.inr (.inl 113)), .inl 0, .inr (.inr (.inl 114)), .inl 0, .inr (.inr (.inl 115)), .inr (.inr (.inl 116)), .inr (.inr (.inl 117)), .inr (.inr (.inl 118)), .inr (.inr (.inl 119)), .inr (.inr (.inl 120)), .inr (.inr (.inl 121)), .inl 0, .inl 0, .inl 0, .inl 0, .inl 0, .inl 0, .inl 0, .inr (.inr (.inl 122)), .inr (.inr (.inl 123))]), .inr (3, 1620, []), .inr (3, 1600, []), .inr (0, 2, []), .inr (0, 2, []), .inr (0, 2, []), .inr (0, 2, []), .inr (0, 2, []), .inr (0, 2, []), .inr (0, 16, []), .inr (0, 16, []), .inr (0, 16, []), .inr (0, 16, []), .inr (0, 128, []), .inr (0, 8, []), .inr (0, 24, []), .inr (0, 8, []), .inr (0, 112, []), .inr (0, 24, []), .inr (0, 24, []), .inr (2, 2, []), .inr (2, 16, []), .inr (2, 128, []), .inr (1, 16, []), .inr (1, 8, []), .inr (1, 12, []), .inr (0, 1280, []), .inr (0, 1280, []), .inr (0, 90, []), .inr (0, 90, []), .inr (0, 60, []), .inr (0, 119, []), .inr (0, 4879, []), .inr (0, 6300, []), .inr (0, 2000, []), .inr (0, 20, []), .inr (0, 14, []), .inr (0, 8, []), .inr (0, 8, []), .inr (0, 9, []), .inr (0, 3, []), .inr (0, 30, []), .inr (0, 30, []), .inr (0, 30, []), .inr (0, 30, []), .inr (0, 30, []), .inr (0, 14, []), .inr (0, 357, []), .inr (2, 3, [])], [(0, 4294967295), (2147483748, 4294967295), (0, 4294967295), (0, 4294967295), (0, 4294967295), (0, 4294967295), (2147483654, 2147483654), (2147483678, 2147483678)], 124, 36542)
def sx_G30_1 : sx_S := (1091, [(3, .inl 0), (2, .inr (.inr (.inl 75))), (1, .inr (.inr (.inl 0))), (0, .inr (.inr (.inr 2)))], [.inl 0], [.inl (11, [.inr (.inr (.inl 1)), .inl 0, .inr (.inr (.inl 2)), .inr (.inr (.inl 16)), .inr (.inr (.inl 35)), .inr (.inr (.inl 41)), .inr (.inr (.inl 45)), .inr (.inr (.inl 47)), .inr (.inr (.inl 50)), .inr (.inr (.inr 0)), .inr (.inr (.inr 0)), .inr (.inr (.inl 57)), .inr (.inr (.inl 61))]), .inr (0, 1600, []), .inl (10, [.inl 0, .inl 0, .inl 0, .inl 0, .inl 0, .inl 4294967295, .inr (.inr (.inl 3)), .inr (.inr (.inl 4)), .inr (.inr (.inl 5)), .inr (.inr (.inl 6)), .inr (.inr (.inl 7)), .inr (.inr (.inl 8)), .inr (.inr (.inl 9)), .inr (.inr (.inl 10)), .inr (.inr (.inl 11)), .inr (.inr (.inl 12)), .inr (.inr (.inl 13)), .inr (.inr (.inl 14)), .inr (.inr (.inl 15))]), .inr (0, 8, []), .inr (0, 8, []), .inr (0, 8, [(7, .inl 4294967295), (6, .inl 4294967295), (5, .inl 4294967295), (4, .inl 4294967295), (3, .inl 4294967295), (2, .inl 4294967295), (1, .inl 4294967295), (0, .inl 4294967295)]), .inr (0, 8, [(7, .inl 4294967295), (6, .inl 4294967295), (5, .inl 4294967295), (4, .inl 4294967295), (3, .inl 4294967295), (2, .inl 4294967295), (1, .inl 4294967295), (0, .inl 4294967295)]), .inr (0, 8, []), .inr (0, 64, [(63, .inl 4294967295), (62, .inl 4294967295), (61, .inl 4294967295), (60, .inl 4294967295), (59, .inl 4294967295), (58, .inl 4294967295), (57, .inl 4294967295), (56, .inl 4294967295), (55, .inl 4294967295), (54, .inl 4294967295), (53, .inl 4294967295), (52, .inl 4294967295), (51, .inl 4294967295), (50, .inl 4294967295), (49, .inl 4294967295), (48, .inl 4294967295), (47, .inl 4294967295), (46, .inl 4294967295), (45, .inl 4294967295), (44, .inl 4294967295), (43, .inl 4294967295), (42, .inl 4294967295), (41, .inl 4294967295), (40, .inl 4294967295), (39, .inl 4294967295), (38, .inl 4294967295), (37, .inl 4294967295), (36, .inl 4294967295), (35, .inl 4294967295), (34, .inl 4294967295), (33, .inl 4294967295), (32, .inl 4294967295), (31, .inl 4294967295), (30, .inl 4294967295), (29, .inl 4294967295), (28, .inl 4294967295), (27, .inl 4294967295), (26, .inl 4294967295), (25, .inl 4294967295), (24, .inl 4294967295), (23, .inl 4294967295), (22, .inl 4294967295), (21, .inl 4294967295), (20, .inl 4294967295), (19, .inl 4294967295), (18, .inl 4294967295), (17, .inl 4294967295), (16, .inl 4294967295), (15, .inl 4294967295), (14, .inl 4294967295), (13, .inl 4294967295), (12, .inl 4294967295), (11, .inl 4294967295), (10, .inl 4294967295), (9, .inl 4294967295), (8, .inl 4294967295), (7, .inl 4294967295), (6, .inl 4294967295), (5, .inl 4294967295), (4, .inl 4294967295), (3, .inl 4294967295), (2, .inl 4294967295), (1, .inl 4294967295), (0, .inl 4294967295)]), .inr (0, 4, []), .inr (0, 4, []), .inr (0, 56, []), .inr (0, 6, []), .inr (0, 6, []), .inr (0, 6, []), .inr (0, 640, []), .inl (4, [.inr (.inr (.inl 17)), .inr (.inr (.inl 31)), .inr (.inr (.inl 32)), .inr (.inr (.inl 33)), .inr (.inr (.inl 34)), .inr (.inr (.inl 1)), .inl 0, .inl 0, .inl 4294967295, .inl 0, .inl 0, .inr (.inr (.inr 1)), .inl 0, .inl 0, .inl 0, .inl 0, .inl 0]), .inl (10, [.inl 0, .inl 0, .inl 0, .inl 0, .inl 0, .inl 4294967295, .inr (.inr (.inl 18)), .inr (.inr (.inl 19)), .inr (.inr (.inl 20)), .inr (.inr (.inl 21)), .inr (.inr (.inl 22)), .inr (.inr (.inl 23)), .inr (.inr (.inl 24)), .inr (.inr (.inl 25)), .inr (.inr (.inl 26)), .inr (.inr (.inl 27)), .inr (.inr (.inl 28)), .inr (.inr (.inl 29)), .inr (.inr (.inl 30))]), .inr (0, 8, []), .inr (0, 8, []), .inr (0, 8, [(7, .inl 4294967295), (6, .inl 4294967295), (5, .inl 4294967295), (4, .inl 4294967295), (3, .inl 4294967295), (2, .inl 4294967295), (1, .inl 4294967295), (0, .inl 4294967295)]), .inr (0, 8, [(7, .inl 4294967295), (6, .inl 4294967295), (5, .inl 4294967295), (4, .inl 4294967295), (3, .inl 4294967295), (2, .inl 4294967295), (1, .inl 4294967295), (0, .inl 4294967295)]), .inr (0, 8, []), .inr (0, 64, [(63, .inl 4294967295), (62, .inl 4294967295), (61, .inl 4294967295), (60, .inl 4294967295), (59, .inl 4294967295), (58, .inl 4294967295), (57, .inl 4294967295), (56, .inl 4294967295), (55, .inl 4294967295), (54, .inl 4294967295), (53, .inl 4294967295), (52, .inl 4294967295), (51, .inl 4294967295), (50, .inl 4294967295), (49, .inl 4294967295), (48, .inl 4294967295), (47, .inl 4294967295), (46, .inl 4294967295), (45, .inl 4294967295), (44, .inl 4294967295), (43, .inl 4294967295), (42, .inl 4294967295), (41, .inl 4294967295), (40, .inl 4294967295), (39, .inl 4294967295), (38, .inl 4294967295), (37, .inl 4294967295), (36, .inl 4294967295), (35, .inl 4294967295), (34, .inl 4294967295), (33, .inl 4294967295), (32, .inl 4294967295), (31, .inl 4294967295), (30, .inl 4294967295), (29, .inl 4294967295), (28, .inl 4294967295), (27, .inl 4294967295), (26, .inl 4294967295), (25, .inl 4294967295), (24, .inl 4294967295), (23, .inl 4294967295), (22, .inl 4294967295), (21, .inl 4294967295), (20, .inl 4294967295), (19, .inl 4294967295), (18, .inl 4294967295), (17, .inl 4294967295), (16, .inl 4294967295), (15, .inl 4294967295), (14, .inl 4294967295), (13, .inl 4294967295), (12, .inl 4294967295), (11, .inl 4294967295), (10, .inl 4294967295), (9, .inl 4294967295), (8, .inl 4294967295), (7, .inl 4294967295), (6, .inl 4294967295), (5, .inl 4294967295), (4, .inl 4294967295), (3, .inl 4294967295), (2, .inl 4294967295), (1, .inl 4294967295), (0, .inl 4294967295)]), .inr (0, 4, []), .inr (0, 4, []), .inr (0, 56, []), .inr (0, 6, []), .inr (0, 6, []), .inr (0, 6, []), .inr (0, 640, []), .inr (1, 8, []), .inr (1, 4, []), .inr (1, 6, []), .inr (0, 3, []), .inl (8, [.inl 0, .inl 0, .inr (.inr (.inl 36)), .inr (.inr (.inl 37)), .inr (.inr (.inl 38)), .inr (.inr (.inl 39)), .inr (.inr (.inl 40))]), .inr (0, 4, []), .inr (0, 56, []), .inr (0, 8, [(7, .inl 1), (6, .inl 1), (5, .inl 1), (4, .inl 1), (3, .inl 1), (2, .inl 1), (1, .inl 1), (0, .inl 1)]), .inr (0, 48, []), .inr (0, 8, []), .inl (2, [.inr (.inr (.inl 42)), .inr (.inr (.inl 43)), .inr (.inr (.inl 44)), .inl 0, .inl 0, .inl 0]), .inr (4, 41, [(0, .inr (.inr (.inl 69)))]), .inr (4, 3, []), .inr (2, 3, []), .inl (5, [.inr (.inr (.inl 46)), .inl 0]), .inr (0, 20, []), .inl (0, [.inr (.inr (.inl 2)), .inr (.inr (.inl 35)), .inr (.inr (.inl 48)), .inr (.inr (.inl 49)), .inl 0, .inl 0, .inl 0, .inl 0]), .inr (0, 30, []), .inr (0, 3, []), .inl (1, [.inr (.inr (.inl 2)), .inr (.inr (.inl 35)), .inr (.inr (.inl 47)), .inr (.inr (.inl 51)), .inr (.inr (.inl 52)), .inr (.inr (.inl 53)), .inr (.inr (.inl 54)), .inr (.inr (.inl 55)), .inl 0, .inl 0]), .inr (0, 2000, []), .inr (0, 6000, []), .inr (1, 2000, []), .inr (1, 2000, []), .inl (5, [.inr (.inr (.inl 56)), .inl 0]), .inr (0, 14, []), .inl (3, [.inr (.inr (.inl 2)), .inr (.inr (.inl 35)), .inr (.inr (.inl 58)), .inr (.inr (.inl 59)), .inr (.inr (.inl 60)), .inl 0, .inl 0, .inl 0, .inl 0]), .inr (0, 8, []), .inr (0, 8, []), .inr (0, 8, []), .inl (7, [.inr (.inr (.inl 2)), .inr (.inr (.inl 62)), .inr (.inr (.inl 63)), .inr (.inr (.inl 64)), .inr (.inr (.inl 65)), .inr (.inr (.inl 66)), .inl 0, .inl 0, .inr (.inr (.inl 67)), .inr (.inr (.inl 68)), .inl 0, .inl 0, .inl 0, .inl 0, .inl 0]), .inr (0, 30, []), .inr (0, 30, []), .inr (0, 30, []), .inr (0, 30, []), .inr (0, 30, []), .inr (0, 14, []), .inr (0, 9, []), .inl (8, [.inl 0, .inl 0, .inr (.inr (.inl 70)), .inr (.inr (.inl 71)), .inr (.inr (.inl 72)), .inr (.inr (.inl 73)), .inr (.inr (.inl 74))]), .inr (0, 4, []), .inr (0, 56, []), .inr (0, 8, [(7, .inl 1), (6, .inl 1), (5, .inl 1), (4, .inl 1), (3, .inl 1), (2, .inl 1), (1, .inl 1), (0, .inl 1)]), .inr (0, 48, []), .inr (0, 8, []), .inl (12, [.inr (.inr (.inl 76)), .inr (.inr (.inl 77)), .inl 0, .inl 0, .inl 0, .inl 4294967295, .inl 0, .inl 0, .inl 0, .inl 0, .inr (.inr (.inr 1)), .inr (.inr (.inl 78)), .inr (.inr (.inl 79)), .inr (.inr (.inl 80)), .inr (.inr (.inl 81)), .inr (.inr (.inl 82)), .inr (.inr (.inl 83)), .inr (.inr (.inl 84)), .inr (.inr (.inl 85)), .inr (.inr (.inl 86)), .inr (.inr (.inl 87)), .inr (.inr (.inl 88)), .inr (.inr (.inl 89)), .inr (.inr (.inl 90)), .inr (.inr (.inl 91)), .inr (.inr (.inl 92)), .inr (.inr (.inl 93)), .inr (.inr (.inl 94)), .inr (.inr (.inl 95)), .inr (.inr (.inl 96)), .inr (.inr (.inl 97)), .inr (.inr (.inl 98)), .inr (.inr (.inl 99)), .inr (.inr (.inl 100)), .inr (.inr (.inl 101)), .inr (.inr (.inl 102)), .inr (.inr (.inl 103)), .inr (.inr (.inl 104)), .inr (.inr (.inl 105)), .inl 0, .inl 0, .inl 0, .inl 0, .inl 0, .inl 0, .inl 0, .inl 0, .inl 0, .inl 0, .inr (.inr (.inl 106)), .inr (.inr (.inl 107)), .inl 0, .inl 0, .inr (.inr (.inl 108)), .inr (.inr (.inl 109)), .inr (.inr (.inl 110)), .inl 0, .inr (.inr (.inl 111)), .inl 0, .inr (.inr (.inl 112)), .inr (.inr (.inl 113)), .inl 0, .inr (.inr (.inl 114)), .inl 0, .inr (.inr (.inl 115)), .inr (.inr (.inl 116)), .inr (.inr (.inl 117)), .inr (.inr (.inl 118)), .inr (.inr (.inl 119)), .inr (.inr (.inl 120)), .inr (.inr (.inl 121)), .inl 0, .inl 0, .inl 0, .inl 0, .inl 0, .inl 0, .inl 0, .inr (.inr (.inl 122)), .inr (.inr (.inl 123))]), .inr (3, 1620, []), .inr (3, 1600, []), .inr (0, 2, []), .inr (0, 2, []), .inr (0, 2, []), .inr (0, 2, []), .inr (0, 2, []), .inr (0, 2, []), .inr (0, 16, []), .inr (0, 16, []), .inr (0, 16, []), .inr (0, 16, []), .inr (0, 128, []), .inr (0, 8, []), .inr (0, 24, []), .inr (0, 8, []), .inr (0, 112, []), .inr (0, 24, []), .inr (0, 24, []), .inr (2, 2, []), .inr (2, 16, []), .inr (2, 128, []), .inr (1, 16, []), .inr (1, 8, []), .inr (1, 12, []), .inr (0, 1280, []), .inr (0, 1280, []), .inr (0, 90, []), .inr (0, 90, []), .inr (0, 60, []), .inr (0, 119, []), .inr (0, 4879, []), .inr (0, 6300, []), .inr (0, 2000, []), .inr (0, 20, []), .inr (0, 14, []), .inr (0, 8, []), .inr (0, 8, []), .inr (0, 9, []), .inr (0, 3, []), .inr (0, 30, []), .inr (0, 30, []), .inr (0, 30, []), .inr (0, 30, []), .inr (0, 30, []), .inr (0, 14, []), .inr (0, 357, []), .inr (2, 3, [])], [(0, 4294967295), (2147483648, 2147483648), (0, 4294967295), (0, 4294967295), (0, 4294967295), (0, 4294967295), (2147483654, 2147483654), (2147483678, 2147483678)], 124, 36542)
def sx_G30_2 : sx_S := (1091, [(3, .inl 0), (2, .inr (.inr (.inl 75))), (1, .inr (.inr (.inl 0))), (0, .inr (.inr (.inr 2)))], [.inl 4294967295], [.inl (11, [.inr (.inr (.inl 1)), .inl 0, .inr (.inr (.inl 2)), .inr (.inr (.inl 16)), .inr (.inr (.inl 35)), .inr (.inr (.inl 41)), .inr (.inr (.inl 45)), .inr (.inr (.inl 47)), .inr (.inr (.inl 50)), .inr (.inr (.inr 0)), .inr (.inr (.inr 0)), .inr (.inr (.inl 57)), .inr (.inr (.inl 61))]), .inr (0, 1600, []), .inl (10, [.inl 0, .inl 0, .inl 0, .inl 0, .inl 0, .inl 4294967295, .inr (.inr (.inl 3)), .inr (.inr (.inl 4)), .inr (.inr (.inl 5)), .inr (.inr (.inl 6)), .inr (.inr (.inl 7)), .inr (.inr (.inl 8)), .inr (.inr (.inl 9)), .inr (.inr (.inl 10)), .inr (.inr (.inl 11)), .inr (.inr (.inl 12)), .inr (.inr (.inl 13)), .inr (.inr (.inl 14)), .inr (.inr (.inl 15))]), .inr (0, 8, []), .inr (0, 8, []), .inr (0, 8, [(7, .inl 4294967295), (6, .inl 4294967295), (5, .inl 4294967295), (4, .inl 4294967295), (3, .inl 4294967295), (2, .inl 4294967295), (1, .inl 4294967295), (0, .inl 4294967295)]), .inr (0, 8, [(7, .inl 4294967295), (6, .inl 4294967295), (5, .inl 4294967295), (4, .inl 4294967295), (3, .inl 4294967295), (2, .inl 4294967295), (1, .inl 4294967295), (0, .inl 4294967295)]), .inr (0, 8, []), .inr (0, 64, [(63, .inl 4294967295), (62, .inl 4294967295), (61, .inl 4294967295), (60, .inl 4294967295), (59, .inl 4294967295), (58, .inl 4294967295), (57, .inl 4294967295), (56, .inl 4294967295), (55, .inl 4294967295), (54, .inl 4294967295), (53, .inl 4294967295), (52, .inl 4294967295), (51, .inl 4294967295), (50, .inl 4294967295), (49, .inl 4294967295), (48, .inl 4294967295), (47, .inl 4294967295), (46, .inl 4294967295), (45, .inl 4294967295), (44, .inl 4294967295), (43, .inl 4294967295), (42, .inl 4294967295), (41, .inl 4294967295), (40, .inl 4294967295), (39, .inl 4294967295), (38, .inl 4294967295), (37, .inl 4294967295), (36, .inl 4294967295), (35, .inl 4294967295), (34, .inl 4294967295), (33, .inl 4294967295), (32, .inl 4294967295), (31, .inl 4294967295), (30, .inl 4294967295), (29, .inl 4294967295), (28, .inl 4294967295), (27, .inl 4294967295), (26, .inl 4294967295), (25, .inl 4294967295), (24, .inl 4294967295), (23, .inl 4294967295), (22, .inl 4294967295), (21, .inl 4294967295), (20, .inl 4294967295), (19, .inl 4294967295), (18, .inl 4294967295), (17, .inl 4294967295), (16, .inl 4294967295), (15, .inl 4294967295), (14, .inl 4294967295), (13, .inl 4294967295), (12, .inl 4294967295), (11, .inl 4294967295), (10, .inl 4294967295), (9, .inl 4294967295), (8, .inl 4294967295), (7, .inl 4294967295), (6, .inl 4294967295), (5, .inl 4294967295), (4, .inl 4294967295), (3, .inl 4294967295), (2, .inl 4294967295), (1, .inl 4294967295), (0, .inl 4294967295)]), .inr (0, 4, []), .inr (0, 4, []), .inr (0, 56, []), .inr (0, 6, []), .inr (0, 6, []), .inr (0, 6, []), .inr (0, 640, []), .inl (4, [.inr (.inr (.inl 17)), .inr (.inr (.inl 31)), .inr (.inr (.inl 32)), .inr (.inr (.inl 33)), .inr (.inr (.inl 34)), .inr (.inr (.inl 1)), .inl 0, .inl 0, .inl 4294967295, .inl 0, .inl 0, .inr (.inr (.inr 1)), .inl 0, .inl 0, .inl 0, .inl 0, .inl 0]), .inl (10, [.inl 0, .inl 0, .inl 0, .inl 0, .inl 0, .inl 4294967295, .inr (.inr (.inl 18)), .inr (.inr (.inl 19)), .inr (.inr (.inl 20)), .inr (.inr (.inl 21)), .inr (.inr (.inl 22)), .inr (.inr (.inl 23)), .inr (.inr (.inl 24)), .inr (.inr (.inl 25)), .inr (.inr (.inl 26)), .inr (.inr (.inl 27)), .inr (.inr (.inl 28)), .inr (.inr (.inl 29)), .inr (.inr (.inl 30))]), .inr (0, 8, []), .inr (0, 8, []), .inr (0, 8, [(7, .inl 4294967295), (6, .inl 4294967295), (5, .inl 4294967295), (4, .inl 4294967295), (3, .inl 4294967295), (2, .inl 4294967295), (1, .inl 4294967295), (0, .inl 4294967295)]), .inr (0, 8, [(7, .inl 4294967295), (6, .inl 4294967295), (5, .inl 4294967295), (4, .inl 4294967295), (3, .inl 4294967295), (2, .inl 4294967295), (1, .inl 4294967295), (0, .inl 4294967295)]), .inr (0, 8, []), .inr (0, 64, [(63, .inl 4294967295), (62, .inl 4294967295), (61, .inl 4294967295), (60, .inl 4294967295), (59, .inl 4294967295), (58, .inl 4294967295), (57, .inl 4294967295), (56, .inl 4294967295), (55, .inl 4294967295), (54, .inl 4294967295), (53, .inl 4294967295), (52, .inl 4294967295), (51, .inl 4294967295), (50, .inl 4294967295), (49, .inl 4294967295), (48, .inl 4294967295), (47, .inl 4294967295), (46, .inl 4294967295), (45, .inl 4294967295), (44, .inl 4294967295), (43, .inl 4294967295), (42, .inl 4294967295), (41, .inl 4294967295), (40, .inl 4294967295), (39, .inl 4294967295), (38, .inl 4294967295), (37, .inl 4294967295), (36, .inl 4294967295), (35, .inl 4294967295), (34, .inl 4294967295), (33, .inl 4294967295), (32, .inl 4294967295), (31, .inl 4294967295), (30, .inl 4294967295), (29, .inl 4294967295), (28, .inl 4294967295), (27, .inl 4294967295), (26, .inl 4294967295), (25, .inl 4294967295), (24, .inl 4294967295), (23, .inl 4294967295), (22, .inl 4294967295), (21, .inl 4294967295), (20, .inl 4294967295), (19, .inl 4294967295), (18, .inl 4294967295), (17, .inl 4294967295), (16, .inl 4294967295), (15, .inl 4294967295), (14, .inl 4294967295), (13, .inl 4294967295), (12, .inl 4294967295), (11, .inl 4294967295), (10, .inl 4294967295), (9, .inl 4294967295), (8, .inl 4294967295), (7, .inl 4294967295), (6, .inl 4294967295), (5, .inl 4294967295), (4, .inl 4294967295), (3, .inl 4294967295), (2, .inl 4294967295), (1, .inl 4294967295), (0, .inl 4294967295)]), .inr (0, 4, []), .inr (0, 4, []), .inr (0, 56, []), .inr (0, 6, []), .inr (0, 6, []), .inr (0, 6, []), .inr (0, 640, []), .inr (1, 8, []), .inr (1, 4, []), .inr (1, 6, []), .inr (0, 3, []), .inl (8, [.inl 0, .inl 0, .inr (.inr (.inl 36)), .inr (.inr (.inl 37)), .inr (.inr (.inl 38)), .inr (.inr (.inl 39)), .inr (.inr (.inl 40))]), .inr (0, 4, []), .inr (0, 56, []), .inr (0, 8, [(7, .inl 1), (6, .inl 1), (5, .inl 1), (4, .inl 1), (3, .inl 1), (2, .inl 1), (1, .inl 1), (0, .inl 1)]), .inr (0, 48, []), .inr (0, 8, []), .inl (2, [.inr (.inr (.inl 42)), .inr (.inr (.inl 43)), .inr (.inr (.inl 44)), .inl 0, .inl 0, .inl 0]), .inr (4, 41, [(0, .inr (.inr (.inl 69)))]), .inr (4, 3, []), .inr (2, 3, []), .inl (5, [.inr (.inr (.inl 46)), .inl 0]), .inr (0, 20, []), .inl (0, [.inr (.inr (.inl 2)), .inr (.inr (.inl 35)), .inr (.inr (.inl 48)), .inr (.inr (.inl 49)), .inl 0, .inl 0, .inl 0, .inl 0]), .inr (0, 30, []), .inr (0, 3, []), .inl (1, [.inr (.inr (.inl 2)), .inr (.inr (.inl 35)), .inr (.inr (.inl 47)), .inr (.inr (.inl 51)), .inr (.inr (.inl 52)), .inr (.inr (.inl 53)), .inr (.inr (.inl 54)), .inr (.inr (.inl 55)), .inl 0, .inl 0]), .inr (0, 2000, []), .inr (0, 6000, []), .inr (1, 2000, []), .inr (1, 2000, []), .inl (5, [.inr (.inr (.inl 56)), .inl 0]), .inr (0, 14, []), .inl (3, [.inr (.inr (.inl 2)), .inr (.inr (.inl 35)), .inr (.inr (.inl 58)), .inr (.inr (.inl 59)), .inr (.inr (.inl 60)), .inl 0, .inl 0, .inl 0, .inl 0]), .inr (0, 8, []), .inr (0, 8, []), .inr (0, 8, []), .inl (7, [.inr (.inr (.inl 2)), .inr (.inr (.inl 62)), .inr (.inr (.inl 63)), .inr (.inr (.inl 64)), .inr (.inr (.inl 65)), .inr (.inr (.inl 66)), .inl 0, .inl 0, .inr (.inr (.inl 67)), .inr (.inr (.inl 68)), .inl 0, .inl 0, .inl 0, .inl 0, .inl 0]), .inr (0, 30, []), .inr (0, 30, []), .inr (0, 30, []), .inr (0, 30, []), .inr (0, 30, []), .inr (0, 14, []), .inr (0, 9, []), .inl (8, [.inl 0, .inl 0, .inr (.inr (.inl 70)), .inr (.inr (.inl 71)), .inr (.inr (.inl 72)), .inr (.inr (.inl 73)), .inr (.inr (.inl 74))]), .inr (0, 4, []), .inr (0, 56, []), .inr (0, 8, [(7, .inl 1), (6, .inl 1), (5, .inl 1), (4, .inl 1), (3, .inl 1), (2, .inl 1), (1, .inl 1), (0, .inl 1)]), .inr (0, 48, []), .inr (0, 8, []), .inl (12, [.inr (.inr (.inl 76)), .inr (.inr (.inl 77)), .inl 0, .inl 0, .inl 0, .inl 4294967295, .inl 0, .inl 0, .inl 0, .inl 0, .inr (.inr (.inr 1)), .inr (.inr (.inl 78)), .inr (.inr (.inl 79)), .inr (.inr (.inl 80)), .inr (.inr (.inl 81)), .inr (.inr (.inl 82)), .inr (.inr (.inl 83)), .inr (.inr (.inl 84)), .inr (.inr (.inl 85)), .inr (.inr (.inl 86)), .inr (.inr (.inl 87)), .inr (.inr (.inl 88)), .inr (.inr (.inl 89)), .inr (.inr (.inl 90)), .inr (.inr (.inl 91)), .inr (.inr (.inl 92)), .inr (.inr (.inl 93)), .inr (.inr (.inl 94)), .inr (.inr (.inl 95)), .inr (.inr (.inl 96)), .inr (.inr (.inl 97)), .inr (.inr (.inl 98)), .inr (.inr (.inl 99)), .inr (.inr (.inl 100)), .inr (.inr (.inl 101)), .inr (.inr (.inl 102)), .inr (.inr (.inl 103)), .inr (.inr (.inl 104)), .inr (.inr (.inl 105)), .inl 0, .inl 0, .inl 0, .inl 0, .inl 0, .inl 0, .inl 0, .inl 0, .inl 0, .inl 0, .inr (.inr (.inl 106)), .inr (.inr (.inl 107)), .inl 0, .inl 0, .inr (.inr (.inl 108)), .inr (.inr (.inl 109)), .inr (.inr (.inl 110)), .inl 0, .inr (.inr (.inl 111)), .inl 0, .inr (.inr (.inl 112)), .inr (.inr (.inl 113)), .inl 0, .inr (.inr (.inl 114)), .inl 0, .inr (.inr (.inl 115)), .inr (.inr (.inl 116)), .inr (.inr (.inl 117)), .inr (.inr (.inl 118)), .inr (.inr (.inl 119)), .inr (.inr (.inl 120)), .inr (.inr (.inl 121)), .inl 0, .inl 0, .inl 0, .inl 0, .inl 0, .inl 0, .inl 0, .inr (.inr (.inl 122)), .inr (.inr (.inl 123))]), .inr (3, 1620, []), .inr (3, 1600, []), .inr (0, 2, []), .inr (0, 2, []), .inr (0, 2, []), .inr (0, 2, []), .inr (0, 2, []), .inr (0, 2, []), .inr (0, 16, []), .inr (0, 16, []), .inr (0, 16, []), .inr (0, 16, []), .inr (0, 128, []), .inr (0, 8, []), .inr (0, 24, []), .inr (0, 8, []), .inr (0, 112, []), .inr (0, 24, []), .inr (0, 24, []), .inr (2, 2, []), .inr (2, 16, []), .inr (2, 128, []), .inr (1, 16, []), .inr (1, 8, []), .inr (1, 12, []), .inr (0, 1280, []), .inr (0, 1280, []), .inr (0, 90, []), .inr (0, 90, []), .inr (0, 60, []), .inr (0, 119, []), .inr (0, 4879, []), .inr (0, 6300, []), .inr (0, 2000, []), .inr (0, 20, []), .inr (0, 14, []), .inr (0, 8, []), .inr (0, 8, []), .inr (0, 9, []), .inr (0, 3, []), .inr (0, 30, []), .inr (0, 30, []), .inr (0, 30, []), .inr (0, 30, []), .inr (0, 30, []), .inr (0, 14, []), .inr (0, 357, []), .inr (2, 3, [])], [(0, 4294967295), (0, 2147483647), (0, 4294967295), (0, 4294967295), (0, 4294967295), (0, 4294967295), (2147483654, 2147483654), (2147483678, 2147483678)], 124, 36542)
def sx_G30_3 : sx_S := (1091, [(3, .inl 0), (2, .inr (.inr (.inl 75))), (1, .inr (.inr (.inl 0))), (0, .inr (.inr (.inr 2)))], [.inr (.inl 1)], [.inl (11, [.inr (.inr (.inl 1)), .inl 0, .inr (.inr (.inl 2)), .inr (.inr (.inl 16)), .inr (.inr (.inl 35)), .inr (.inr (.inl 41)), .inr (.inr (.inl 45)), .inr (.inr (.inl 47)), .inr (.inr (.inl 50)), .inr (.inr (.inr 0)), .inr (.inr (.inr 0)), .inr (.inr (.inl 57)), .inr (.inr (.inl 61))]), .inr (0, 1600, []), .inl (10, [.inl 0, .inl 0, .inl 0, .inl 0, .inl 0, .inl 4294967295, .inr (.inr (.inl 3)), .inr (.inr (.inl 4)), .inr (.inr (.inl 5)), .inr (.inr (.inl 6)), .inr (.inr (.inl 7)), .inr (.inr (.inl 8)), .inr (.inr (.inl 9)), .inr (.inr (.inl 10)), .inr (.inr (.inl 11)), .inr (.inr (.inl 12)), .inr (.inr (.inl 13)), .inr (.inr (.inl 14)), .inr (.inr (.inl 15))]), .inr (0, 8, []), .inr (0, 8, []), .inr (0, 8, [(7, .inl 4294967295), (6, .inl 4294967295), (5, .inl 4294967295), (4, .inl 4294967295), (3, .inl 4294967295), (2, .inl 4294967295), (1, .inl 4294967295), (0, .inl 4294967295)]), .inr (0, 8, [(7, .inl 4294967295), (6, .inl 4294967295), (5, .inl 4294967295), (4, .inl 4294967295), (3, .inl 4294967295), (2, .inl 4294967295), (1, .inl 4294967295), (0, .inl 4294967295)]), .inr (0, 8, []), .inr (0, 64, [(63, .inl 4294967295), (62, .inl 4294967295), (61, .inl 4294967295), (60, .inl 4294967295), (59, .inl 4294967295), (58, .inl 4294967295), (57, .inl 4294967295), (56, .inl 4294967295), (55, .inl 4294967295), (54, .inl 4294967295), (53, .inl 4294967295), (52, .inl 4294967295), (51, .inl 4294967295), (50, .inl 4294967295), (49, .inl 4294967295), (48, .inl 4294967295), (47, .inl 4294967295), (46, .inl 4294967295), (45, .inl 4294967295), (44, .inl 4294967295), (43, .inl 4294967295), (42, .inl 4294967295), (41, .inl 4294967295), (40, .inl 4294967295), (39, .inl 4294967295), (38, .inl 4294967295), (37, .inl 4294967295), (36, .inl 4294967295), (35, .inl 4294967295), (34, .inl 4294967295), (33, .inl 4294967295), (32, .inl 4294967295), (31, .inl 4294967295), (30, .inl 4294967295), (29, .inl 4294967295), (28, .inl 4294967295), (27, .inl 4294967295), (26, .inl 4294967295), (25, .inl 4294967295), (24, .inl 4294967295), (23, .inl 4294967295), (22, .inl 4294967295), (21, .inl 4294967295), (20, .inl 4294967295), (19, .inl 4294967295), (18, .inl 4294967295), (17, .inl 4294967295), (16, .inl 4294967295), (15, .inl 4294967295), (14, .inl 4294967295), (13, .inl 4294967295), (12, .inl 4294967295), (11, .inl 4294967295), (10, .inl 4294967295), (9, .inl 4294967295), (8, .inl 4294967295), (7, .inl 4294967295), (6, .inl 4294967295), (5, .inl 4294967295), (4, .inl 4294967295), (3, .inl 4294967295), (2, .inl 4294967295), (1, .inl 4294967295), (0, .inl 4294967295)]), .inr (0, 4, []), .inr (0, 4, []), .inr (0, 56, []), .inr (0, 6, []), .inr (0, 6, []), .inr (0, 6, []), .inr (0, 640, []), .inl (4, [.inr (.inr (.inl 17)), .inr (.inr (.inl 31)), .inr (.inr (.inl 32)), .inr (.inr (.inl 33)), .inr (.inr (.inl 34)), .inr (.inr (.inl 1)), .inl 0, .inl 0, .inl 4294967295, .inl 0, .inl 0, .inr (.inr (.inr 1)), .inl 0, .inl 0, .inl 0, .inl 0, .inl 0]), .inl (10, [.inl 0, .inl 0, .inl 0, .inl 0, .inl 0, .inl 4294967295, .inr (.inr (.inl 18)), .inr (.inr (.inl 19)), .inr (.inr (.inl 20)), .inr (.inr (.inl 21)), .inr (.inr (.inl 22)), .inr (.inr (.inl 23)), .inr (.inr (.inl 24)), .inr (.inr (.inl 25)), .inr (.inr (.inl 26)), .inr (.inr (.inl 27)), .inr (.inr (.inl 28)), .inr (.inr (.inl 29)), .inr (.inr (.inl 30))]), .inr (0, 8, []), .inr (0, 8, []), .inr (0, 8, [(7, .inl 4294967295), (6, .inl 4294967295), (5, .inl 4294967295), (4, .inl 4294967295), (3, .inl 4294967295), (2, .inl 4294967295), (1, .inl 4294967295), (0, .inl 4294967295)]), .inr (0, 8, [(7, .inl 4294967295), (6, .inl 4294967295), (5, .inl 4294967295), (4, .inl 4294967295), (3, .inl 4294967295), (2, .inl 4294967295), (1, .inl 4294967295), (0, .inl 4294967295)]), .inr (0, 8, []), .inr (0, 64, [(63, .inl 4294967295), (62, .inl 4294967295), (61, .inl 4294967295), (60, .inl 4294967295), (59, .inl 4294967295), (58, .inl 4294967295), (57, .inl 4294967295), (56, .inl 4294967295), (55, .inl 4294967295), (54, .inl 4294967295), (53, .inl 4294967295), (52, .inl 4294967295), (51, .inl 4294967295), (50, .inl 4294967295), (49, .inl 4294967295), (48, .inl 4294967295), (47, .inl 4294967295), (46, .inl 4294967295), (45, .inl 4294967295), (44, .inl 4294967295), (43, .inl 4294967295), (42, .inl 4294967295), (41, .inl 4294967295), (40, .inl 4294967295), (39, .inl 4294967295), (38, .inl 4294967295), (37, .inl 4294967295), (36, .inl 4294967295), (35, .inl 4294967295), (34, .inl 4294967295), (33, .inl 4294967295), (32, .inl 4294967295), (31, .inl 4294967295), (30, .inl 4294967295), (29, .inl 4294967295), (28, .inl 4294967295), (27, .inl 4294967295), (26, .inl 4294967295), (25, .inl 4294967295), (24, .inl 4294967295), (23, .inl 4294967295), (22, .inl 4294967295), (21, .inl 4294967295), (20, .inl 4294967295), (19, .inl 4294967295), (18, .inl 4294967295), (17, .inl 4294967295), (16, .inl 4294967295), (15, .inl 4294967295), (14, .inl 4294967295), (13, .inl 4294967295), (12, .inl 4294967295), (11, .inl 4294967295), (10, .inl 4294967295), (9, .inl 4294967295), (8, .inl 4294967295), (7, .inl 4294967295), (6, .inl 4294967295), (5, .inl 4294967295), (4, .inl 4294967295), (3, .inl 4294967295), (2, .inl 4294967295), (1, .inl 4294967295), (0, .inl 4294967295)]), .inr (0, 4, []), .inr (0, 4, []), .inr (0, 56, []), .inr (0, 6, []), .inr (0, 6, []), .inr (0, 6, []), .inr (0, 640, []), .inr (1, 8, []), .inr (1, 4, []), .inr (1, 6, []), .inr (0, 3, []), .inl (8, [.inl 0, .inl 0, .inr (.inr (.inl 36)), .inr (.inr (.inl 37)), .inr (.inr (.inl 38)), .inr (.inr (.inl 39)), .inr (.inr (.inl 40))]), .inr (0, 4, []), .inr (0, 56, []), .inr (0, 8, [(7, .inl 1), (6, .inl 1), (5, .inl 1), (4, .inl 1), (3, .inl 1), (2, .inl 1), (1, .inl 1), (0, .inl 1)]), .inr (0, 48, []), .inr (0, 8, []), .inl (2, [.inr (.inr (.inl 42)), .inr (.inr (.inl 43)), .inr (.inr (.inl 44)), .inl 0, .inl 0, .inl 0]), .inr (4, 41, [(0, .inr (.inr (.inl 69)))]), .inr (4, 3, []), .inr (2, 3, []), .inl (5, [.inr (.inr (.inl 46)), .inl 0]), .inr (0, 20, []), .inl (0, [.inr (.inr (.inl 2)), .inr (.inr (.inl 35)), .inr (.inr (.inl 48)), .inr (.inr (.inl 49)), .inl 0, .inl 0, .inl 0, .inl 0]), .inr (0, 30, []), .inr (0, 3, []), .inl (1, [.inr (.inr (.inl 2)), .inr (.inr (.inl 35)), .inr (.inr (.inl 47)), .inr (.inr (.inl 51)), .inr (.inr (.inl 52)), .inr (.inr (.inl 53)), .inr (.inr (.inl 54)), .inr (.inr (.inl 55)), .inl 0, .inl 0]), .inr (0, 2000, []), .inr (0, 6000, []), .inr (1, 2000, []), .inr (1, 2000, []), .inl (5, [.inr (.inr (.inl 56)), .inl 0]), .inr (0, 14, []), .inl (3, [.inr (.inr (.inl 2)), .inr (.inr (.inl 35)), .inr (.inr (.inl 58)), .inr (.inr (.inl 59)), .inr (.inr (.inl 60)), .inl 0, .inl 0, .inl 0, .inl 0]), .inr (0, 8, []), .inr (0, 8, []), .inr (0, 8, []), .inl (7, [.inr (.inr (.inl 2)), .inr (.inr (.inl 62)), .inr (.inr (.inl 63)), .inr (.inr (.inl 64)), .inr (.inr (.inl 65)), .inr (.inr (.inl 66)), .inl 0, .inl 0, .inr (.inr (.inl 67)), .inr (.inr (.inl 68)), .inl 0, .inl 0, .inl 0, .inl 0, .inl 0]), .inr (0, 30, []), .inr (0, 30, []), .inr (0, 30, []), .inr (0, 30, []), .inr (0, 30, []), .inr (0, 14, []), .inr (0, 9, []), .inl (8, [.inl 0, .inl 0, .inr (.inr (.inl 70)), .inr (.inr (.inl 71)), .inr (.inr (.inl 72)), .inr (.inr (.inl 73)), .inr (.inr (.inl 74))]), .inr (0, 4, []), .inr (0, 56, []), .inr (0, 8, [(7, .inl 1), (6, .inl 1), (5, .inl 1), (4, .inl 1), (3, .inl 1), (2, .inl 1), (1, .inl 1), (0, .inl 1)]), .inr (0, 48, []), .inr (0, 8, []), .inl (12, [.inr (.inr (.inl 76)), .inr (.inr (.inl 77)), .inl 0, .inl 0, .inl 0, .inl 4294967295, .inl 0, .inl 0, .inl 0, .inl 0, .inr (.inr (.inr 1)), .inr (.inr (.inl 78)), .inr (.inr (.inl 79)), .inr (.inr (.inl 80)), .inr (.inr (.inl 81)), .inr (.inr (.inl 82)), .inr (.inr (.inl 83)), .inr (.inr (.inl 84)), .inr (.inr (.inl 85)), .inr (.inr (.inl 86)), .inr (.inr (.inl 87)), .inr (.inr (.inl 88)), .inr (.inr (.inl 89)), .inr (.inr (.inl 90)), .inr (.inr (.inl 91)), .inr (.inr (.inl 92)), .inr (.inr (.inl 93)), .inr (.inr (.inl 94)), .inr (.inr (.inl 95)), .inr (.inr (.inl 96)), .inr (.inr (.inl 97)), .inr (.inr (.inl 98)), .inr (.inr (.inl 99)), .inr (.inr (.inl 100)), .inr (.inr (.inl 101)), .inr (.inr (.inl 102)), .inr (.inr (.inl 103)), .inr (.inr (.inl 104)), .inr (.inr (.inl 105)), .inl 0, .inl 0, .inl 0, .inl 0, .inl 0, .inl 0, .inl 0, .inl 0, .inl 0, .inl 0, .inr (.inr (.inl 106)), .inr (.inr (.inl 107)), .inl 0, .inl 0, .inr (.inr (.inl 108)), .inr (.inr (.inl 109)), .inr (.inr (.inl 110)), .inl 0, .inr (.inr (.inl 111)), .inl 0, .inr (.inr (.inl 112)), .inr (.inr (.inl 113)), .inl 0, .inr (.inr (.inl 114)), .inl 0, .inr (.inr (.inl 115)), .inr (.inr (.inl 116)), .inr (.inr (.inl 117)), .inr (.inr (.inl 118)), .inr (.inr (.inl 119)), .inr (.inr (.inl 120)), .inr (.inr (.inl 121)), .inl 0, .inl 0, .inl 0, .inl 0, .inl 0, .inl 0, .inl 0, .inr (.inr (.inl 122)), .inr (.inr (.inl 123))]), .inr (3, 1620, []), .inr (3, 1600, []), .inr (0, 2, []), .inr (0, 2, []), .inr (0, 2, []), .inr (0, 2, []), .inr (0, 2, []), .inr (0, 2, []), .inr (0, 16, []), .inr (0, 16, []), .inr (0, 16, []), .inr (0, 16, []), .inr (0, 128, []), .inr (0, 8, []), .inr (0, 24, []), .inr (0, 8, []), .inr (0, 112, []), .inr (0, 24, []), .inr (0, 24, []), .inr (2, 2, []), .inr (2, 16, []), .inr (2, 128, []), .inr (1, 16, []), .inr (1, 8, []), .inr (1, 12, []), .inr (0, 1280, []), .inr (0, 1280, []), .inr (0, 90, []), .inr (0, 90, []), .inr (0, 60, []), .inr (0, 119, []), .inr (0, 4879, []), .inr (0, 6300, []), .inr (0, 2000, []), .inr (0, 20, []), .inr (0, 14, []), .inr (0, 8, []), .inr (0, 8, []), .inr (0, 9, []), .inr (0, 3, []), .inr (0, 30, []), .inr (0, 30, []), .inr (0, 30, []), .inr (0, 30, []), .inr (0, 30, []), .inr (0, 14, []), .inr (0, 357, []), .inr (2, 3, [])], [(0, 4294967295), (2147483649, 2147483747), (0, 4294967295), (0, 4294967295), (0, 4294967295), (0, 4294967295), (2147483654, 2147483654), (2147483678, 2147483678)], 124, 36542)
def sx_Gs30 : List sx_S := [sx_G30_0, sx_G30_1, sx_G30_2, sx_G30_3]
set_option maxRecDepth 1000000 in
theorem sx_c30 : sx_covs (sx_law 1091 (sx_oS 30 30)) sx_Gs30 = true := by decide +kernel
set_option maxRecDepth 1000000 in
theorem sx_f30_0 : sx_fn (sx_law sx_far sx_G30_0) = true := by decide +kernel
set_option maxRecDepth 1000000 in
theorem sx_f30_1 : sx_fn (sx_law sx_far sx_G30_1) = true := by decide +kernel
set_option maxRecDepth 1000000 in
theorem sx_f30_2 : sx_fn (sx_law sx_far sx_G30_2) = true := by decide +kernel
set_option maxRecDepth 1000000 in
theorem sx_f30_3 : sx_fn (sx_law sx_far sx_G30_3) = true := by decide +kernel
end
section
/-! THE CLAIM OUT OF ONE WALK OF THE LAW'S BODY. Your part is whole_start (and what it stands on); all else here is the same for every law, but numbers. -/
def R_law : String := "TwoInOneLaw"
def lw_P (b : Addr) (xs : List Int32) (args : Array Value) (s : State) : Prop := args = #[.ref b] ∧ s.IntsAt b xs ∧ xs.length ≤ 6 ∧ (Jvm.Cond.and given_1 narrow_1).before args s = true
def lw_Q (_ : Array Value) (s : State) (o : Outcome) (t : State) : Prop := o = .returned (some (.int 1)) ∧ Framed s o t [] 600000 7302250
def lw_Z (below : List Frame) (a : Array Value) (s : State) : State → Prop := fun t => ∃ o, t.status = .running ∧ Ended t below o ∧ lw_Q a s o t
/-- the law's own end, with 1 on the stack, nothing written that was there before, its room as the claim has it -/
theorem lw_ret {p : Program} {l : Launch} {e : Env} {s : State} {m : MethodId} {below : List Frame} {meth : Method} {c : Code} {b : Nat} (hx : p.tables.exec = Jvm.exec) (hb : c.code = code) (hr : meth.sig.returnType = ret) (hlocks : meth.locks = false) {pc : Nat} {H : Heap} {ls : Array Slot} (hdg : decode code pc = .ok (.ireturn, 1)) : W p l e room_1 s m #[Value.ref b] below meth c H [] 600000 7302250 (lw_Z below #[Value.ref b] s) (F0 m pc ls [.int 1]) := by
  intro T hT X
  obtain ⟨fs, hret, hrun, hended, hW, hframe⟩ := X.leave (v := some (.int 1)) (hlocks := hlocks) (fun h => by rw [hr] at h; cases h)
  have hmeth' : T.vm.method? m = some meth := X.method'
  refine ⟨T.setFrames fs, ?_, .returned (some (.int 1)), hrun, hended, rfl, ⟨_, rfl⟩, hW, hframe⟩
  jvm_step X.here [X.here.top, hx, hb, hdg, hmeth', hr, ret, narrow_b1]
  (try refine ⟨rfl, ?_⟩); (try refine ⟨rfl, ?_⟩)
  first | (intro acts; rw [hret _ acts rfl rfl rfl]) | rw [hret _ _ rfl rfl rfl]
  exact Steps.refl _
/-- what holds at the law's entry: the machine, the code, the tables' words (any of lw_tbl by 'hts w (by decide +kernel)'), the script of L ints xs at the cell b, what the Statement gives of the start (any of its parts by flat_of_before) -/
def lw_At (p : Program) (s : State) (m : MethodId) (meth : Method) (c : Code) (b L : Nat) (xs : Nat → Int32) : Prop :=
  p.tables.exec = Jvm.exec ∧ c.code = code ∧ meth.sig.returnType = ret ∧ c.maxLocals = 4 ∧ s.vm.findClass R_law = some m.cls ∧ (∀ w ∈ lw_tbl, w.before #[Value.ref b] s = true) ∧ va_X b L xs s s.heap ∧ b < s.heap.size ∧ meth.locks = false ∧ (Jvm.Cond.and given_1 narrow_1).before #[Value.ref b] s = true
end
section
/-! the law, from its entry to its end -/
theorem sx_start_K {s : State} {args : Array Value} (hts : ∀ w ∈ sx_TS, w.before args s = true) (hO : va_AO "TwoInOne$State" s) : ∃ (D : va_G) (cA : Nat → ClassId), va_K D sx_clL (sx_tys cA) s := by
  have h : ∀ ci : Nat, ∃ q : ClassId × (Nat → Nat), ∀ C T N, sx_clL[ci]? = some (C, T, N) → u_Kn s C T N q.1 q.2 := by
    intro ci
    cases hc : sx_clL[ci]? with
    | none => exact ⟨(0, fun _ => 0), fun C T N h => by cases h⟩
    | some q =>
      obtain ⟨C, T, N⟩ := q
      obtain ⟨f1, -, -, f4, -⟩ := sx_clOk hc
      obtain ⟨cC, iS, hk⟩ := u_known hts f1 (hts _ f4)
      exact ⟨(cC, iS), fun C' T' N' h => by cases h; exact hk⟩
  obtain ⟨c0, k0, p0, a0, b0, d0⟩ := Cond.arrayClass_spec (hts _ sx_w_a0)
  obtain ⟨c1, k1, p1, a1, b1, d1⟩ := Cond.arrayClass_spec (hts _ sx_w_a1)
  obtain ⟨c2, k2, p2, a2, b2, d2⟩ := Cond.arrayClass_spec (hts _ sx_w_a2)
  obtain ⟨c3, k3, p3, a3, b3, d3⟩ := Cond.arrayClass_spec (hts _ sx_w_a3)
  obtain ⟨p4, c4, k4, a4, -, b4, d4, e4⟩ := Cond.arrayOver_spec hO
  refine ⟨(fun ci => (Classical.choose (h ci)).1, fun ci => (Classical.choose (h ci)).2), fun kd => match kd with | 0 => c0 | 1 => c1 | 2 => c2 | 3 => c3 | _ => c4, fun ci q hq => ?_, fun k q hk => ?_⟩
  · obtain ⟨C, T, N⟩ := q
    exact Classical.choose_spec (h ci) C T N hq
  · match k, hk with
    | 0, hk => cases hk; exact ⟨fun N z => ⟨(fun k h => by cases h), k0, b0, p0, d0⟩, a0⟩
    | 1, hk => cases hk; exact ⟨fun N z => ⟨(fun k h => by cases h), k1, b1, p1, d1⟩, a1⟩
    | 2, hk => cases hk; exact ⟨fun N z => ⟨(fun k h => by cases h), k2, b2, p2, d2⟩, a2⟩
    | 3, hk => cases hk; exact ⟨fun N z => ⟨(fun k h => by cases h), k3, b3, p3, d3⟩, a3⟩
    | 4, hk => cases hk; exact ⟨fun N z => ⟨(fun k h => by cases h), k4, b4, p4, d4⟩, k4, p4, b4, d4, a4, e4⟩
    | n + 5, hk => cases hk
theorem sx_iv_app {ρ : Nat → Int32} {iv : sx_Iv} {lo hi : Nat} (h : sx_ivOk ρ iv) (h1 : lo ≤ sx_b (ρ iv.length)) (h2 : sx_b (ρ iv.length) ≤ hi) : sx_ivOk ρ (iv ++ [(lo, hi)]) := by
  intro k a c hk
  by_cases hl : k < iv.length
  · rw [List.getElem?_append_left hl] at hk
    exact h k a c hk
  · rw [List.getElem?_append_right (by omega)] at hk
    have hz : k - iv.length < 1 := (List.getElem?_eq_some_iff.mp hk).1
    have e : k = iv.length := by omega
    subst e
    rw [Nat.sub_self] at hk
    cases hk
    exact ⟨h1, h2⟩
theorem sx_iv_pre {ρ : Nat → Int32} {iv jv : sx_Iv} (h : sx_ivOk ρ (iv ++ jv)) : sx_ivOk ρ iv := fun k a c hk => h k a c (by rw [List.getElem?_append_left (List.getElem?_eq_some_iff.mp hk).1]; exact hk)
theorem sx_iv0_ok {ρ : Nat → Int32} {lo hi L : Nat} (h6 : ρ 6 = Int32.ofNat L) (hL : L ≤ 6) (h1 : lo ≤ 2147483648 + L) (h2 : 2147483648 + L ≤ hi) : sx_ivOk ρ (sx_iv0 lo hi) := by
  intro k a c hk
  match k, hk with
  | 0, hk => cases hk; exact sx_full_ok _
  | 1, hk => cases hk; exact sx_full_ok _
  | 2, hk => cases hk; exact sx_full_ok _
  | 3, hk => cases hk; exact sx_full_ok _
  | 4, hk => cases hk; exact sx_full_ok _
  | 5, hk => cases hk; exact sx_full_ok _
  | 6, hk =>
    cases hk
    rw [h6, sx_b_of]
    unfold sx_bias
    omega
  | n + 7, hk => cases hk
section sxLaw
variable {p : Program} {l : Launch} {e : Env} {s : State} {m : MethodId} {below : List Frame} {meth : Method} {c : Code} {b L : Nat} {xs : Nat → Int32} {D : va_G} {cA : Nat → ClassId} {ρ0 : Nat → Int32}
theorem sx_lawRun (C : sx_Cx p s m #[Value.ref b] c D cA "TwoInOneLaw" code 4) (hsc : sx_Scr s (fun q => s.heap.size ≤ q) b ρ0 7 L xs) {stop : Nat} {σ : sx_S} {ss : List sx_S} (h : sx_law stop σ = some ss) (K : ∀ τ ∈ ss, sx_Ok p l e room_1 s m #[Value.ref b] below meth c (lw_Z below #[Value.ref b] s) D cA (fun q => s.heap.size ≤ q) b 4 ρ0 (fun _ => 0) 7 0 τ) : sx_Ok p l e room_1 s m #[Value.ref b] below meth c (lw_Z below #[Value.ref b] s) D cA (fun q => s.heap.size ≤ q) b 4 ρ0 (fun _ => 0) 7 0 σ :=
  sx_run_ok (R := room_1) (init := false) (rt := some .boolean) C (fun q h => h) (sx_exec_ok sx_mtok l 100000 6) (Nat.le_of_ble_eq_true rfl) (Nat.le_of_ble_eq_true rfl) (cap := (600000, 7302250)) ⟨Nat.le_refl _, Nat.le_refl _⟩ (fun h => by cases h) (sc := true) (fun _ => hsc) sx_lawOk 100000 σ ss h K
theorem sx_lawEnd (C : sx_Cx p s m #[Value.ref b] c D cA "TwoInOneLaw" code 4) (hr : meth.sig.returnType = ret) (hlocks : meth.locks = false) {τ : sx_S} (h : sx_gd τ = true) : sx_Ok p l e room_1 s m #[Value.ref b] below meth c (lw_Z below #[Value.ref b] s) D cA (fun q => s.heap.size ≤ q) b 4 ρ0 (fun _ => 0) 7 0 τ := by
  obtain ⟨pc, L', st, w, iv, mc, ms⟩ := τ
  unfold sx_gd at h
  split at h
  next pc' a v a' iv' mc' ms' heq =>
    cases heq
    split at h
    next a1 a2 g n hf hn =>
      simp only [Bool.and_eq_true] at h
      obtain ⟨g1, g2, g3⟩ := h
      have g1 := Nat.eq_of_beq_eq_true g1
      subst g1
      obtain ⟨I, len, ex, hq, hc⟩ := sx_lawOk _ _ hf
      have hE := sx_ent (p := p) (l := l) (e := e) (R := room_1) (below := below) (meth := meth) (Q := fun _ => True) (A := fun q => s.heap.size ≤ q) (b := b) (ρ0 := fun _ => 0) (ad0 := fun _ => 0) (n0 := 0) (m0 := 0) (LL := 0) (xs := fun _ => 0) (cap := (0, 0)) C (fun q h => h) ⟨Nat.zero_le _, Nat.zero_le _⟩ (Nat.le_of_ble_eq_true rfl) (Nat.le_of_ble_eq_true rfl) (fun h => by cases h) (sc := false) (fun h => by cases h) hc
      rw [← hq] at hE
      rcases hE with ⟨h0, _⟩ | ⟨I', h3, _⟩ | ⟨h1, hdg, hrt⟩ | ⟨h2, _⟩
      · cases h0
      · cases h3
      · intro ρ ad H locs ls h1 h2 h3 h4 h5 hP hD hS hl
        refine W.widen (k := 600000) (n := 7302250) (Nat.le_of_ble_eq_true g2) (Nat.le_of_ble_eq_true g3) ?_
        refine va_forget (fun q hq => hS.2.2 q hq) ?_
        show W p l e room_1 s m #[Value.ref b] below meth c H [] 600000 7302250 (lw_Z below #[Value.ref b] s) (F0 m pc ls [sx_cv ρ ad b v])
        rw [sx_nm_c h1 ad b hn]
        exact lw_ret C.1 C.2.1 hr hlocks hdg
      · cases h2
    next => cases h
  next => cases h
theorem sx_lawFin (C : sx_Cx p s m #[Value.ref b] c D cA "TwoInOneLaw" code 4) (hsc : sx_Scr s (fun q => s.heap.size ≤ q) b ρ0 7 L xs) (hr : meth.sig.returnType = ret) (hlocks : meth.locks = false) {σ : sx_S} (h : sx_fn (sx_law sx_far σ) = true) : sx_Ok p l e room_1 s m #[Value.ref b] below meth c (lw_Z below #[Value.ref b] s) D cA (fun q => s.heap.size ≤ q) b 4 ρ0 (fun _ => 0) 7 0 σ := by
  cases hs : sx_law sx_far σ with
  | none => rw [hs] at h; cases h
  | some ss =>
    rw [hs] at h
    exact sx_lawRun C hsc hs (fun τ hτ => sx_lawEnd C hr hlocks (List.all_eq_true.mp h τ hτ))
theorem sx_lawCov (C : sx_Cx p s m #[Value.ref b] c D cA "TwoInOneLaw" code 4) (hsc : sx_Scr s (fun q => s.heap.size ≤ q) b ρ0 7 L xs) {stop : Nat} {σ : sx_S} {Gs : List sx_S} (h : sx_covs (sx_law stop σ) Gs = true) (K : ∀ G ∈ Gs, sx_Ok p l e room_1 s m #[Value.ref b] below meth c (lw_Z below #[Value.ref b] s) D cA (fun q => s.heap.size ≤ q) b 4 ρ0 (fun _ => 0) 7 0 G) : sx_Ok p l e room_1 s m #[Value.ref b] below meth c (lw_Z below #[Value.ref b] s) D cA (fun q => s.heap.size ≤ q) b 4 ρ0 (fun _ => 0) 7 0 σ := by
  cases hs : sx_law stop σ with
  | none => rw [hs] at h; cases h
  | some ss =>
    rw [hs] at h
    refine sx_lawRun C hsc hs (fun τ hτ => ?_)
    obtain ⟨G, hG, hc⟩ := List.any_eq_true.mp (List.all_eq_true.mp h τ hτ)
    exact sx_cover hc (K G hG)
theorem sx_lawOps (C : sx_Cx p s m #[Value.ref b] c D cA "TwoInOneLaw" code 4) (hsc : sx_Scr s (fun q => s.heap.size ≤ q) b ρ0 7 L xs) (hr : meth.sig.returnType = ret) (hlocks : meth.locks = false) : ∀ k, k < 42 → sx_Ok p l e room_1 s m #[Value.ref b] below meth c (lw_Z below #[Value.ref b] s) D cA (fun q => s.heap.size ≤ q) b 4 ρ0 (fun _ => 0) 7 0 (sx_oS k k) := by
  intro k hk
  match k, hk with
  | 0, _ => exact sx_lawFin C hsc hr hlocks sx_o0
  | 1, _ => exact sx_lawFin C hsc hr hlocks sx_o1
  | 2, _ => exact sx_lawFin C hsc hr hlocks sx_o2
  | 3, _ => exact sx_lawFin C hsc hr hlocks sx_o3
  | 4, _ => exact sx_lawFin C hsc hr hlocks sx_o4
  | 5, _ => exact sx_lawFin C hsc hr hlocks sx_o5
  | 6, _ => exact sx_lawFin C hsc hr hlocks sx_o6
  | 7, _ => exact sx_lawFin C hsc hr hlocks sx_o7
  | 8, _ => exact sx_lawFin C hsc hr hlocks sx_o8
  | 9, _ => exact sx_lawFin C hsc hr hlocks sx_o9
  | 10, _ => exact sx_lawFin C hsc hr hlocks sx_o10
  | 11, _ => exact sx_lawFin C hsc hr hlocks sx_o11
  | 12, _ => exact sx_lawCov C hsc sx_c12 (List.forall_mem_cons.mpr ⟨sx_lawFin C hsc hr hlocks sx_f12_0, List.forall_mem_cons.mpr ⟨sx_lawFin C hsc hr hlocks sx_f12_1, List.forall_mem_cons.mpr ⟨sx_lawFin C hsc hr hlocks sx_f12_2, List.forall_mem_cons.mpr ⟨sx_lawFin C hsc hr hlocks sx_f12_3, fun _ h => absurd h List.not_mem_nil⟩⟩⟩⟩)
  | 13, _ => exact sx_lawFin C hsc hr hlocks sx_o13
  | 14, _ => exact sx_lawFin C hsc hr hlocks sx_o14
  | 15, _ => exact sx_lawFin C hsc hr hlocks sx_o15
  | 16, _ => exact sx_lawFin C hsc hr hlocks sx_o16
  | 17, _ => exact sx_lawFin C hsc hr hlocks sx_o17
  | 18, _ => exact sx_lawFin C hsc hr hlocks sx_o18
  | 19, _ => exact sx_lawFin C hsc hr hlocks sx_o19
  | 20, _ => exact sx_lawFin C hsc hr hlocks sx_o20
  | 21, _ => exact sx_lawFin C hsc hr hlocks sx_o21
  | 22, _ => exact sx_lawFin C hsc hr hlocks sx_o22
  | 23, _ => exact sx_lawFin C hsc hr hlocks sx_o23
  | 24, _ => exact sx_lawFin C hsc hr hlocks sx_o24
  | 25, _ => exact sx_lawFin C hsc hr hlocks sx_o25
  | 26, _ => exact sx_lawFin C hsc hr hlocks sx_o26
  | 27, _ => exact sx_lawFin C hsc hr hlocks sx_o27
  | 28, _ => exact sx_lawFin C hsc hr hlocks sx_o28
  | 29, _ => exact sx_lawFin C hsc hr hlocks sx_o29
  | 30, _ => exact sx_lawCov C hsc sx_c30 (List.forall_mem_cons.mpr ⟨sx_lawFin C hsc hr hlocks sx_f30_0, List.forall_mem_cons.mpr ⟨sx_lawFin C hsc hr hlocks sx_f30_1, List.forall_mem_cons.mpr ⟨sx_lawFin C hsc hr hlocks sx_f30_2, List.forall_mem_cons.mpr ⟨sx_lawFin C hsc hr hlocks sx_f30_3, fun _ h => absurd h List.not_mem_nil⟩⟩⟩⟩)
  | 31, _ => exact sx_lawFin C hsc hr hlocks sx_o31
  | 32, _ => exact sx_lawFin C hsc hr hlocks sx_o32
  | 33, _ => exact sx_lawFin C hsc hr hlocks sx_o33
  | 34, _ => exact sx_lawFin C hsc hr hlocks sx_o34
  | 35, _ => exact sx_lawFin C hsc hr hlocks sx_o35
  | 36, _ => exact sx_lawFin C hsc hr hlocks sx_o36
  | 37, _ => exact sx_lawFin C hsc hr hlocks sx_o37
  | 38, _ => exact sx_lawFin C hsc hr hlocks sx_o38
  | 39, _ => exact sx_lawFin C hsc hr hlocks sx_o39
  | 40, _ => exact sx_lawFin C hsc hr hlocks sx_o40
  | 41, _ => exact sx_lawFin C hsc hr hlocks sx_o41
  | n + 42, h => omega
theorem sx_lawSwitch (C : sx_Cx p s m #[Value.ref b] c D cA "TwoInOneLaw" code 4) (hsc : sx_Scr s (fun q => s.heap.size ≤ q) b ρ0 7 L xs) (hr : meth.sig.returnType = ret) (hlocks : meth.locks = false) : sx_Ok p l e room_1 s m #[Value.ref b] below meth c (lw_Z below #[Value.ref b] s) D cA (fun q => s.heap.size ≤ q) b 4 ρ0 (fun _ => 0) 7 0 (sx_oS 0 63) := by
  intro ρ ad H locs ls h1 h2 h3 h4 h5 hP hD hS hl
  have h1' : sx_ivOk ρ (sx_iv0 2147483654 2147483654 ++ [(2147483648 + 0, 2147483648 + 63)]) := h1
  have g : 2147483648 + 0 ≤ sx_b (ρ 7) ∧ sx_b (ρ 7) ≤ 2147483648 + 63 := h1' 7 (2147483648 + 0) (2147483648 + 63) rfl
  have h0 := sx_iv_pre h1'
  obtain ⟨k, hk⟩ : ∃ k, sx_b (ρ 7) = 2147483648 + k := ⟨sx_b (ρ 7) - 2147483648, by omega⟩
  have e7 : sx_b (ρ (sx_iv0 2147483654 2147483654).length) = 2147483648 + k := hk
  by_cases hk2 : k < 42
  · have hiv : sx_ivOk ρ (sx_iv0 2147483654 2147483654 ++ [(2147483648 + k, 2147483648 + k)]) := sx_iv_app h0 (Nat.le_of_eq e7.symm) (Nat.le_of_eq e7)
    exact sx_lawOps C hsc hr hlocks k hk2 ρ ad H locs ls hiv h2 h3 h4 h5 hP hD hS hl
  · have hiv : sx_ivOk ρ (sx_iv0 2147483654 2147483654 ++ [(2147483648 + 42, 2147483648 + 63)]) := sx_iv_app h0 (by rw [e7]; omega) (by rw [e7]; omega)
    exact sx_lawFin C hsc hr hlocks sx_o42 ρ ad H locs ls hiv h2 h3 h4 h5 hP hD hS hl
end sxLaw
theorem whole_start {p : Program} {e : Env} {s : State} {m : MethodId} {below : List Frame} {meth : Method} {c : Code} (l : Launch) (hflags : l.flags = flags0) {b L : Nat} {xs : Nat → Int32} (hL : L ≤ 6) (C0 : lw_At p s m meth c b L xs) : W p l e room_1 s m #[Value.ref b] below meth c s.heap [] 0 0 (lw_Z below #[Value.ref b] s) (entryFrame m ([Value.ref b] : List Value).toArray 4) := by
  obtain ⟨hx, hb, hr, hml, hown, hts0, hX, hbl, hlocks, hgv⟩ := C0
  have hts : ∀ w ∈ sx_TS, w.before #[Value.ref b] s = true := fun w hw => hts0 w (List.mem_filter.mp hw).1
  have hN : sx_Nest s := fun w hw hn => by
    have h1 := hts0 w hw
    cases w <;> first | (cases hn; done) | exact va_Nw.of rfl h1
  have hO : va_AO "TwoInOne$State" s := va_AO.of (hts0 (.arrayOver (.object "TwoInOne$State")) (List.mem_of_getElem? (i := 430) (by decide +kernel)))
  obtain ⟨D, cA, hK⟩ := sx_start_K hts hO
  have C : sx_Cx p s m #[Value.ref b] c D cA "TwoInOneLaw" code 4 := ⟨hx, hb, hml, hown, hts, hN, hO, hK⟩
  obtain ⟨ρ0, hρ⟩ : ∃ ρ0 : Nat → Int32, ρ0 = fun k => if k < 6 then xs k else Int32.ofNat L := ⟨_, rfl⟩
  have h6 : ρ0 6 = Int32.ofNat L := by rw [hρ]; rfl
  have hsc : sx_Scr s (fun q => s.heap.size ≤ q) b ρ0 7 L xs := ⟨hX, hbl, Nat.not_le.mpr hbl, Nat.le_refl _, fun j hj => by rw [hρ]; exact if_pos hj, h6, by omega⟩
  have hl := lv_entry ([Value.ref b]) (n := 4) (Nat.le_of_ble_eq_true rfl)
  rw [lg_entry_eq]
  generalize (lg_sl ([Value.ref b]) ++ List.replicate (4 - (lg_sl ([Value.ref b])).length) Slot.unset).toArray = ls at hl ⊢
  have hP : va_P D sx_clL (sx_cW ρ0 (fun _ => 0) b cA []) s.heap := fun k q h => by cases h
  have hD : va_D (fun q => s.heap.size ≤ q) (sx_cW ρ0 (fun _ => 0) b cA []) := ⟨fun i j p q h => (by cases h), fun k q h => (by cases h)⟩
  by_cases hL6 : L = 6
  · have k18 : sx_Ok p l e room_1 s m #[Value.ref b] below meth c (lw_Z below #[Value.ref b] s) D cA (fun q => s.heap.size ≤ q) b 4 ρ0 (fun _ => 0) 7 0 (18, [(3, (.inl 0)), (2, (.inr (.inr (.inl 75)))), (1, (.inr (.inr (.inl 0)))), (0, (.inr (.inr (.inr 2))))], [], sx_W0, sx_iv0 2147483654 2147483654, 124, 36542) := sx_lawRun C hsc sx_at33 (fun τ hτ => by rw [List.mem_singleton.mp hτ]; exact sx_lawSwitch C hsc hr hlocks)
    have k0 : sx_Ok p l e room_1 s m #[Value.ref b] below meth c (lw_Z below #[Value.ref b] s) D cA (fun q => s.heap.size ≤ q) b 4 ρ0 (fun _ => 0) 7 0 (0, [(0, (.inr (.inr (.inr 2))))], [], [], sx_iv0 2147483654 2147483654, 0, 0) := sx_lawRun C hsc sx_pre6 (fun τ hτ => by rw [List.mem_singleton.mp hτ]; exact k18)
    exact k0 ρ0 (fun _ => 0) s.heap [] ls (sx_iv0_ok h6 hL (by omega) (by omega)) (fun _ _ => rfl) (fun _ _ => rfl) (Nat.le_refl _) (Nat.zero_le _) hP hD va_S.rf hl
  · have k0 : sx_Ok p l e room_1 s m #[Value.ref b] below meth c (lw_Z below #[Value.ref b] s) D cA (fun q => s.heap.size ≤ q) b 4 ρ0 (fun _ => 0) 7 0 (0, [(0, (.inr (.inr (.inr 2))))], [], [], sx_iv0 2147483648 2147483653, 0, 0) := sx_lawFin C hsc hr hlocks sx_short
    exact k0 ρ0 (fun _ => 0) s.heap [] ls (sx_iv0_ok h6 hL (by omega) (by omega)) (fun _ _ => rfl) (fun _ _ => rfl) (Nat.le_refl _) (Nat.zero_le _) hP hD va_S.rf hl
end
section
set_option maxHeartbeats 4000000 in
theorem lw_walk (l : Launch) (hflags : l.flags = flags0) (b : Addr) (xs : List Int32) : MetFree l x (headSpec (Jvm.Cond.code x code maxLocals ret :: tables_1) room_1) (lw_P b xs) (fun _ _ _ _ _ => True) lw_Q := by
  refine MetFree.of_bodyS (code := code) (maxLocals := maxLocals) (ret := ret) (by decide) ?_ ?_
  · intro args s m h hn
    obtain ⟨meth, c, h1, h2, h3, h4, h5, h6, -, -⟩ := Cond.code_spec hn (atoms_spec (ws := Jvm.Cond.code x code maxLocals ret :: tables_1) h _ List.mem_cons_self)
    exact ⟨meth, c, h1, h2, h3, h4, h5, h6⟩
  · intro p e s m args below meth c s₁ B hml0 hP _
    obtain ⟨rfl, hx, hbd, hgv⟩ := hP
    obtain ⟨scr, harrAt, hlist, hof, hsmall⟩ := hx
    obtain ⟨hcb, hkn, -, -⟩ := State.arrayAt?_spec harrAt
    have hown : s.vm.findClass R_law = some m.cls := findClass_of_methodNamed B.named
    have hts0 : ∀ c ∈ (Jvm.Cond.code x code maxLocals ret :: tables_1), c.before #[Value.ref b] s = true := atoms_spec (ws := Jvm.Cond.code x code maxLocals ret :: tables_1) B.pre
    have hts : ∀ w ∈ lw_tbl, w.before #[Value.ref b] s = true := k2_hts_sels lw_privs (fun w hw => hts0 w (List.mem_cons_of_mem _ hw)) lw_privs_ok
    have hml : c.maxLocals = 4 := B.maxLocals_eq (hts0 _ List.mem_cons_self)
    have X₀ : Stand p l e room_1 s m #[Value.ref b] below meth c s₁ [] 0 0 := Stand.of_body B
    have hh0 : s₁.heap = s.heap := by rw [B.state]; rfl
    have hsz : scr.slots.size = xs.length := by rw [← Array.length_toList, hlist, List.length_map]
    have hval : ∀ j : Nat, j < xs.length → scr.slots[j]? = some (.int (xs.getD j 0)) := fun j hj => by
      rw [← Array.getElem?_toList, hlist]
      simp [hj]
    have hbl : b < s.heap.size := (Array.getElem?_eq_some_iff.mp hcb).1
    have hX : va_X b xs.length (fun j => xs.getD j 0) s s.heap := ⟨scr, hcb, hof, hkn, hsz, hval⟩
    have K : W p l e room_1 s m #[Value.ref b] below meth c s₁.heap [] 0 0 (lw_Z below #[Value.ref b] s) (entryFrame m ([Value.ref b] : List Value).toArray 4) := by
      rw [hh0]
      exact whole_start l hflags hbd ⟨B.exec, B.bytes, B.returns, hml, hown, hts, hX, hbl, B.notSynchronized, hgv⟩
    obtain ⟨t, a1, o, b1, b2, b3⟩ := K s₁ rfl X₀
    exact ⟨t, o, a1, b1, b2, b3⟩
theorem lw_pre_spec {args : Array Value} {s : State} (h : (Jvm.Cond.and given_1 narrow_1).before args s = true) (hr : rest_1_c.before args s = true) : ∃ (b : Addr) (xs : List Int32), lw_P b xs args s := by
  have hs := flat_of_before _ h
  have hq := flat_of_before _ hr
  have hc : (Cond.count 1).before args s = true := hs _ (by decide +kernel)
  have harr : (Cond.arrayOf (.arg 0) .int).before args s = true := hs _ (by decide +kernel)
  have hle : (Cond.le (.length (.arg 0)) (.int 6)).before args s = true := hs _ (by decide +kernel)
  have hlen : (Cond.isInt (.length (.arg 0))).before args s = true := hq _ (by decide +kernel)
  have hall : (Cond.all (.arg 0) (.isInt (.elem (.arg 0) (.index 0)))).before args s = true := hq _ (by decide +kernel)
  obtain ⟨b, xs, hb, hx⟩ := State.ints_of_pre rfl harr hlen hall
  have hsm : xs.length < 2 ^ 31 := hx.choose_spec.2.2.2
  have hev : (Term.length (.arg 0)).eval args s none [] s = some (.int xs.length.toInt32) := hx.length_eval hb
  have hv := Cond.le_ints hev (show (Term.int 6).eval args s none [] s = some (.int 6) from rfl)
  have hd : xs.length.toInt32 ≤ 6 := by
    simpa [Cond.before, Cond.holds, hv] using hle
  have hN : xs.length ≤ 6 := (Int32.ofNat_le_ofNat hsm (by decide)).mp (show Int32.ofNat xs.length ≤ Int32.ofNat 6 from hd)
  exact ⟨b, xs, Cond.one_arg hc (show args[0]? = some (.ref b) from hb), hx, hN, h⟩
theorem lw_comes (l : Launch) (hflags : l.flags = flags0) : Comes l x (Jvm.Cond.code x code maxLocals ret :: tables_1) room_1 (fun tb e args s => Calls_1 tb e args s ∧ rest_1 tb e args s ∧ Pre_1 tb e args s)
    (fun _ _ args s o t => lw_Q args s o t) := by
  intro p e ha hc hk s m args below hf hfit hheap happ hpre
  obtain ⟨b, xs, hP⟩ := lw_pre_spec hpre.2.2 hpre.2.1
  obtain ⟨k, o, h1, h2, h3, hQ⟩ := lw_walk l hflags b xs p e ha hc hk s m args below hf ((Spec.applies_iff_loose hf).mp happ).1 hP trivial
  exact ⟨k, o, h1, h2, h3, hQ⟩
theorem lw_frame {s t : State} {o : Outcome} {args : Array Value} (h : Framed s o t [] 600000 7302250) :
    Framed s o t (fieldLocs frame_1_writes args s ++ arrayLocs frame_1_arrays args s ++ staticLocs frame_1_statics s) 600000 7302250 := h
theorem lw_limb (L : Cond) (hL : ∀ (args : Array Value) (s t : State), L.after args s (.returned (some (.int 1))) t = true) :
    ArmFor flags0 classFile x code maxLocals ret World_1 tables_1 room_1 Calls_1 rest_1 Pre_1
      (fun tb e a s o t => postC L tb e a s o t ∧ Framed s o t (fieldLocs frame_1_writes a s ++ arrayLocs frame_1_arrays a s ++ staticLocs frame_1_statics s) 600000 7302250) := by
  intro l hflags _ _ p e ha hc hk s m args below hf hfit hheap happ hpre
  obtain ⟨k, o, h1, h2, h3, rfl, hF⟩ := lw_comes l hflags p e ha hc hk s m args below hf hfit hheap happ hpre
  exact ⟨k, _, h1, h2, h3, hL args s _, lw_frame hF⟩
theorem i_vc : Claimed_1_1 ∧ Claimed_1_2 := ⟨lw_limb limb_1_1 (fun args s t => by simp [limb_1_1, Cond.after, Cond.holds, Cond.value]), lw_limb limb_1_2 (fun args s t => Cond.after_iff.mpr (by
  first | (rw [show limb_1_2 = Cond.eq .result (.int 1) from rfl, Cond.eq_ints (x := 1) (y := 1) rfl rfl]; simp; done) | (simp [limb_1_2, Cond.value, Term.eval]; done)))⟩
end
