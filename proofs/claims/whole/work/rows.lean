section
-- ===== PART A: goes FIRST, ahead of the names: the tables' words, and 'selects' of the private methods out of them =====
/-- a private method of a class that the tables say can be made, by its rows of tables_1 -/
def lw_okq (q : MethodName × Nat) : Prop := (q.1.cls ≠ "java/lang/invoke/MethodHandle" ∧ q.1.cls ≠ "java/lang/invoke/VarHandle") ∧ Cond.instantiable q.1.cls q.2 ∈ tables_1 ∧ Cond.privateMethod q.1 ∈ tables_1 ∧ Cond.instanceMethod q.1 ∈ tables_1
theorem lw_p0 : lw_okq (⟨"CoreTests", "layText", "()I"⟩, 12) := ⟨⟨by decide +kernel, by decide +kernel⟩, List.mem_of_getElem? (i := 19) (by decide +kernel), List.mem_of_getElem? (i := 342) (by decide +kernel), List.mem_of_getElem? (i := 343) (by decide +kernel)⟩
theorem lw_p1 : lw_okq (⟨"CoreTests$Reader", "readItem", "(LCoreTests$Chip;)Z"⟩, 2) := ⟨⟨by decide +kernel, by decide +kernel⟩, List.mem_of_getElem? (i := 43) (by decide +kernel), List.mem_of_getElem? (i := 354) (by decide +kernel), List.mem_of_getElem? (i := 355) (by decide +kernel)⟩
theorem lw_p2 : lw_okq (⟨"CoreTests$Reader", "readLines", "(LCoreTests$Chip;)Z"⟩, 2) := ⟨⟨by decide +kernel, by decide +kernel⟩, List.mem_of_getElem? (i := 43) (by decide +kernel), List.mem_of_getElem? (i := 362) (by decide +kernel), List.mem_of_getElem? (i := 363) (by decide +kernel)⟩
theorem lw_p3 : lw_okq (⟨"CoreTests$Reader", "number", "(IIC)I"⟩, 2) := ⟨⟨by decide +kernel, by decide +kernel⟩, List.mem_of_getElem? (i := 43) (by decide +kernel), List.mem_of_getElem? (i := 366) (by decide +kernel), List.mem_of_getElem? (i := 367) (by decide +kernel)⟩
theorem lw_p4 : lw_okq (⟨"CoreTests$Reader", "readPower", "(LCoreTests$Chip;)Z"⟩, 2) := ⟨⟨by decide +kernel, by decide +kernel⟩, List.mem_of_getElem? (i := 43) (by decide +kernel), List.mem_of_getElem? (i := 374) (by decide +kernel), List.mem_of_getElem? (i := 375) (by decide +kernel)⟩
theorem lw_p5 : lw_okq (⟨"CoreTests$Reader", "readCore", "(LCoreTests$Chip;)Z"⟩, 2) := ⟨⟨by decide +kernel, by decide +kernel⟩, List.mem_of_getElem? (i := 43) (by decide +kernel), List.mem_of_getElem? (i := 378) (by decide +kernel), List.mem_of_getElem? (i := 379) (by decide +kernel)⟩
theorem lw_p6 : lw_okq (⟨"CoreTests$Reader", "row", "([I)I"⟩, 2) := ⟨⟨by decide +kernel, by decide +kernel⟩, List.mem_of_getElem? (i := 43) (by decide +kernel), List.mem_of_getElem? (i := 382) (by decide +kernel), List.mem_of_getElem? (i := 383) (by decide +kernel)⟩
theorem lw_p7 : lw_okq (⟨"CoreTests$Reader", "readRule", "(LCoreTests$Chip;)Z"⟩, 2) := ⟨⟨by decide +kernel, by decide +kernel⟩, List.mem_of_getElem? (i := 43) (by decide +kernel), List.mem_of_getElem? (i := 386) (by decide +kernel), List.mem_of_getElem? (i := 387) (by decide +kernel)⟩
theorem lw_p8 : lw_okq (⟨"CoreTests$Chip", "orderChains", "(I)V"⟩, 15) := ⟨⟨by decide +kernel, by decide +kernel⟩, List.mem_of_getElem? (i := 56) (by decide +kernel), List.mem_of_getElem? (i := 394) (by decide +kernel), List.mem_of_getElem? (i := 395) (by decide +kernel)⟩
theorem lw_p9 : lw_okq (⟨"CoreTests$Chip", "layAt", "(II)V"⟩, 15) := ⟨⟨by decide +kernel, by decide +kernel⟩, List.mem_of_getElem? (i := 56) (by decide +kernel), List.mem_of_getElem? (i := 398) (by decide +kernel), List.mem_of_getElem? (i := 399) (by decide +kernel)⟩
theorem lw_p10 : lw_okq (⟨"CoreTests$Chip", "clearLoads", "()V"⟩, 15) := ⟨⟨by decide +kernel, by decide +kernel⟩, List.mem_of_getElem? (i := 56) (by decide +kernel), List.mem_of_getElem? (i := 402) (by decide +kernel), List.mem_of_getElem? (i := 403) (by decide +kernel)⟩
theorem lw_p11 : lw_okq (⟨"CoreTests$Chip", "leastLoaded", "(I)I"⟩, 15) := ⟨⟨by decide +kernel, by decide +kernel⟩, List.mem_of_getElem? (i := 56) (by decide +kernel), List.mem_of_getElem? (i := 406) (by decide +kernel), List.mem_of_getElem? (i := 407) (by decide +kernel)⟩
theorem lw_p12 : lw_okq (⟨"CoreTests", "isCore", "(I)Z"⟩, 12) := ⟨⟨by decide +kernel, by decide +kernel⟩, List.mem_of_getElem? (i := 19) (by decide +kernel), List.mem_of_getElem? (i := 497) (by decide +kernel), List.mem_of_getElem? (i := 498) (by decide +kernel)⟩
theorem lw_p13 : lw_okq (⟨"CoreTests", "isWidth", "(I)Z"⟩, 12) := ⟨⟨by decide +kernel, by decide +kernel⟩, List.mem_of_getElem? (i := 19) (by decide +kernel), List.mem_of_getElem? (i := 526) (by decide +kernel), List.mem_of_getElem? (i := 527) (by decide +kernel)⟩
theorem lw_p14 : lw_okq (⟨"CoreTests$Plan", "notDoneAhead", "(II)I"⟩, 6) := ⟨⟨by decide +kernel, by decide +kernel⟩, List.mem_of_getElem? (i := 146) (by decide +kernel), List.mem_of_getElem? (i := 554) (by decide +kernel), List.mem_of_getElem? (i := 555) (by decide +kernel)⟩
theorem lw_p15 : lw_okq (⟨"CoreTests$Plan", "begunBehind", "(II)I"⟩, 6) := ⟨⟨by decide +kernel, by decide +kernel⟩, List.mem_of_getElem? (i := 146) (by decide +kernel), List.mem_of_getElem? (i := 558) (by decide +kernel), List.mem_of_getElem? (i := 559) (by decide +kernel)⟩
def lw_privs_1 : List (MethodName × Nat) := [(⟨"CoreTests", "layText", "()I"⟩, 12), (⟨"CoreTests$Reader", "readItem", "(LCoreTests$Chip;)Z"⟩, 2), (⟨"CoreTests$Reader", "readLines", "(LCoreTests$Chip;)Z"⟩, 2), (⟨"CoreTests$Reader", "number", "(IIC)I"⟩, 2), (⟨"CoreTests$Reader", "readPower", "(LCoreTests$Chip;)Z"⟩, 2), (⟨"CoreTests$Reader", "readCore", "(LCoreTests$Chip;)Z"⟩, 2), (⟨"CoreTests$Reader", "row", "([I)I"⟩, 2), (⟨"CoreTests$Reader", "readRule", "(LCoreTests$Chip;)Z"⟩, 2), (⟨"CoreTests$Chip", "orderChains", "(I)V"⟩, 15), (⟨"CoreTests$Chip", "layAt", "(II)V"⟩, 15), (⟨"CoreTests$Chip", "clearLoads", "()V"⟩, 15), (⟨"CoreTests$Chip", "leastLoaded", "(I)I"⟩, 15), (⟨"CoreTests", "isCore", "(I)Z"⟩, 12), (⟨"CoreTests", "isWidth", "(I)Z"⟩, 12), (⟨"CoreTests$Plan", "notDoneAhead", "(II)I"⟩, 6), (⟨"CoreTests$Plan", "begunBehind", "(II)I"⟩, 6)]
theorem lw_r1 : ∀ q ∈ lw_privs_1, lw_okq q := List.forall_mem_cons.mpr ⟨lw_p0, List.forall_mem_cons.mpr ⟨lw_p1, List.forall_mem_cons.mpr ⟨lw_p2, List.forall_mem_cons.mpr ⟨lw_p3, List.forall_mem_cons.mpr ⟨lw_p4, List.forall_mem_cons.mpr ⟨lw_p5, List.forall_mem_cons.mpr ⟨lw_p6, List.forall_mem_cons.mpr ⟨lw_p7, List.forall_mem_cons.mpr ⟨lw_p8, List.forall_mem_cons.mpr ⟨lw_p9, List.forall_mem_cons.mpr ⟨lw_p10, List.forall_mem_cons.mpr ⟨lw_p11, List.forall_mem_cons.mpr ⟨lw_p12, List.forall_mem_cons.mpr ⟨lw_p13, List.forall_mem_cons.mpr ⟨lw_p14, List.forall_mem_cons.mpr ⟨lw_p15, fun _ h => absurd h List.not_mem_nil⟩⟩⟩⟩⟩⟩⟩⟩⟩⟩⟩⟩⟩⟩⟩⟩
theorem lw_p16 : lw_okq (⟨"CoreTests$Plan", "firstOver", "(IIII)I"⟩, 6) := ⟨⟨by decide +kernel, by decide +kernel⟩, List.mem_of_getElem? (i := 146) (by decide +kernel), List.mem_of_getElem? (i := 562) (by decide +kernel), List.mem_of_getElem? (i := 563) (by decide +kernel)⟩
theorem lw_p17 : lw_okq (⟨"CoreTests$Cause", "addThree", "(III)V"⟩, 2) := ⟨⟨by decide +kernel, by decide +kernel⟩, List.mem_of_getElem? (i := 252) (by decide +kernel), List.mem_of_getElem? (i := 579) (by decide +kernel), List.mem_of_getElem? (i := 580) (by decide +kernel)⟩
theorem lw_p18 : lw_okq (⟨"CoreTests", "remember", "()V"⟩, 12) := ⟨⟨by decide +kernel, by decide +kernel⟩, List.mem_of_getElem? (i := 19) (by decide +kernel), List.mem_of_getElem? (i := 583) (by decide +kernel), List.mem_of_getElem? (i := 584) (by decide +kernel)⟩
theorem lw_p19 : lw_okq (⟨"CoreTests", "stuck", "(II)V"⟩, 12) := ⟨⟨by decide +kernel, by decide +kernel⟩, List.mem_of_getElem? (i := 19) (by decide +kernel), List.mem_of_getElem? (i := 628) (by decide +kernel), List.mem_of_getElem? (i := 629) (by decide +kernel)⟩
theorem lw_p20 : lw_okq (⟨"CoreTests$Sightings", "agree", "(II)Z"⟩, 5) := ⟨⟨by decide +kernel, by decide +kernel⟩, List.mem_of_getElem? (i := 266) (by decide +kernel), List.mem_of_getElem? (i := 754) (by decide +kernel), List.mem_of_getElem? (i := 755) (by decide +kernel)⟩
theorem lw_p21 : lw_okq (⟨"CoreTestsModel", "tell", "(IIIJ)V"⟩, 44) := ⟨⟨by decide +kernel, by decide +kernel⟩, List.mem_of_getElem? (i := 775) (by decide +kernel), List.mem_of_getElem? (i := 782) (by decide +kernel), List.mem_of_getElem? (i := 783) (by decide +kernel)⟩
theorem lw_p22 : lw_okq (⟨"CoreTestsModel", "takeCores", "()V"⟩, 44) := ⟨⟨by decide +kernel, by decide +kernel⟩, List.mem_of_getElem? (i := 775) (by decide +kernel), List.mem_of_getElem? (i := 791) (by decide +kernel), List.mem_of_getElem? (i := 792) (by decide +kernel)⟩
theorem lw_p23 : lw_okq (⟨"CoreTestsModel", "takesItem", "()Z"⟩, 44) := ⟨⟨by decide +kernel, by decide +kernel⟩, List.mem_of_getElem? (i := 775) (by decide +kernel), List.mem_of_getElem? (i := 945) (by decide +kernel), List.mem_of_getElem? (i := 946) (by decide +kernel)⟩
theorem lw_p24 : lw_okq (⟨"CoreTestsModel", "letter", "()I"⟩, 44) := ⟨⟨by decide +kernel, by decide +kernel⟩, List.mem_of_getElem? (i := 775) (by decide +kernel), List.mem_of_getElem? (i := 949) (by decide +kernel), List.mem_of_getElem? (i := 950) (by decide +kernel)⟩
theorem lw_p25 : lw_okq (⟨"CoreTestsModel", "takesNumber", "(II)Z"⟩, 44) := ⟨⟨by decide +kernel, by decide +kernel⟩, List.mem_of_getElem? (i := 775) (by decide +kernel), List.mem_of_getElem? (i := 953) (by decide +kernel), List.mem_of_getElem? (i := 954) (by decide +kernel)⟩
theorem lw_p26 : lw_okq (⟨"CoreTestsModel", "isSign", "(I)Z"⟩, 44) := ⟨⟨by decide +kernel, by decide +kernel⟩, List.mem_of_getElem? (i := 775) (by decide +kernel), List.mem_of_getElem? (i := 960) (by decide +kernel), List.mem_of_getElem? (i := 961) (by decide +kernel)⟩
theorem lw_p27 : lw_okq (⟨"CoreTestsModel", "takesCore", "()Z"⟩, 44) := ⟨⟨by decide +kernel, by decide +kernel⟩, List.mem_of_getElem? (i := 775) (by decide +kernel), List.mem_of_getElem? (i := 964) (by decide +kernel), List.mem_of_getElem? (i := 965) (by decide +kernel)⟩
theorem lw_p28 : lw_okq (⟨"CoreTestsModel", "takesRow", "(I)Z"⟩, 44) := ⟨⟨by decide +kernel, by decide +kernel⟩, List.mem_of_getElem? (i := 775) (by decide +kernel), List.mem_of_getElem? (i := 968) (by decide +kernel), List.mem_of_getElem? (i := 969) (by decide +kernel)⟩
theorem lw_p29 : lw_okq (⟨"CoreTestsModel", "takesRule", "()Z"⟩, 44) := ⟨⟨by decide +kernel, by decide +kernel⟩, List.mem_of_getElem? (i := 775) (by decide +kernel), List.mem_of_getElem? (i := 973) (by decide +kernel), List.mem_of_getElem? (i := 974) (by decide +kernel)⟩
theorem lw_p30 : lw_okq (⟨"CoreTestsModel", "isCore", "(I)Z"⟩, 44) := ⟨⟨by decide +kernel, by decide +kernel⟩, List.mem_of_getElem? (i := 775) (by decide +kernel), List.mem_of_getElem? (i := 986) (by decide +kernel), List.mem_of_getElem? (i := 987) (by decide +kernel)⟩
theorem lw_p31 : lw_okq (⟨"CoreTestsModel", "isPut", "(I)Z"⟩, 44) := ⟨⟨by decide +kernel, by decide +kernel⟩, List.mem_of_getElem? (i := 775) (by decide +kernel), List.mem_of_getElem? (i := 990) (by decide +kernel), List.mem_of_getElem? (i := 991) (by decide +kernel)⟩
def lw_privs_2 : List (MethodName × Nat) := [(⟨"CoreTests$Plan", "firstOver", "(IIII)I"⟩, 6), (⟨"CoreTests$Cause", "addThree", "(III)V"⟩, 2), (⟨"CoreTests", "remember", "()V"⟩, 12), (⟨"CoreTests", "stuck", "(II)V"⟩, 12), (⟨"CoreTests$Sightings", "agree", "(II)Z"⟩, 5), (⟨"CoreTestsModel", "tell", "(IIIJ)V"⟩, 44), (⟨"CoreTestsModel", "takeCores", "()V"⟩, 44), (⟨"CoreTestsModel", "takesItem", "()Z"⟩, 44), (⟨"CoreTestsModel", "letter", "()I"⟩, 44), (⟨"CoreTestsModel", "takesNumber", "(II)Z"⟩, 44), (⟨"CoreTestsModel", "isSign", "(I)Z"⟩, 44), (⟨"CoreTestsModel", "takesCore", "()Z"⟩, 44), (⟨"CoreTestsModel", "takesRow", "(I)Z"⟩, 44), (⟨"CoreTestsModel", "takesRule", "()Z"⟩, 44), (⟨"CoreTestsModel", "isCore", "(I)Z"⟩, 44), (⟨"CoreTestsModel", "isPut", "(I)Z"⟩, 44)]
theorem lw_r2 : ∀ q ∈ lw_privs_2, lw_okq q := List.forall_mem_cons.mpr ⟨lw_p16, List.forall_mem_cons.mpr ⟨lw_p17, List.forall_mem_cons.mpr ⟨lw_p18, List.forall_mem_cons.mpr ⟨lw_p19, List.forall_mem_cons.mpr ⟨lw_p20, List.forall_mem_cons.mpr ⟨lw_p21, List.forall_mem_cons.mpr ⟨lw_p22, List.forall_mem_cons.mpr ⟨lw_p23, List.forall_mem_cons.mpr ⟨lw_p24, List.forall_mem_cons.mpr ⟨lw_p25, List.forall_mem_cons.mpr ⟨lw_p26, List.forall_mem_cons.mpr ⟨lw_p27, List.forall_mem_cons.mpr ⟨lw_p28, List.forall_mem_cons.mpr ⟨lw_p29, List.forall_mem_cons.mpr ⟨lw_p30, List.forall_mem_cons.mpr ⟨lw_p31, fun _ h => absurd h List.not_mem_nil⟩⟩⟩⟩⟩⟩⟩⟩⟩⟩⟩⟩⟩⟩⟩⟩
theorem lw_p32 : lw_okq (⟨"CoreTestsModel", "stairsOf", "(I)I"⟩, 44) := ⟨⟨by decide +kernel, by decide +kernel⟩, List.mem_of_getElem? (i := 775) (by decide +kernel), List.mem_of_getElem? (i := 994) (by decide +kernel), List.mem_of_getElem? (i := 995) (by decide +kernel)⟩
theorem lw_p33 : lw_okq (⟨"CoreTestsModel", "layTakes", "()V"⟩, 44) := ⟨⟨by decide +kernel, by decide +kernel⟩, List.mem_of_getElem? (i := 775) (by decide +kernel), List.mem_of_getElem? (i := 998) (by decide +kernel), List.mem_of_getElem? (i := 999) (by decide +kernel)⟩
theorem lw_p34 : lw_okq (⟨"CoreTestsModel", "takesBy", "(III)I"⟩, 44) := ⟨⟨by decide +kernel, by decide +kernel⟩, List.mem_of_getElem? (i := 775) (by decide +kernel), List.mem_of_getElem? (i := 1002) (by decide +kernel), List.mem_of_getElem? (i := 1003) (by decide +kernel)⟩
theorem lw_p35 : lw_okq (⟨"CoreTestsModel", "wrapOf", "(II)I"⟩, 44) := ⟨⟨by decide +kernel, by decide +kernel⟩, List.mem_of_getElem? (i := 775) (by decide +kernel), List.mem_of_getElem? (i := 1006) (by decide +kernel), List.mem_of_getElem? (i := 1007) (by decide +kernel)⟩
theorem lw_p36 : lw_okq (⟨"CoreTestsModel", "isWidth", "(I)Z"⟩, 44) := ⟨⟨by decide +kernel, by decide +kernel⟩, List.mem_of_getElem? (i := 775) (by decide +kernel), List.mem_of_getElem? (i := 1019) (by decide +kernel), List.mem_of_getElem? (i := 1020) (by decide +kernel)⟩
theorem lw_p37 : lw_okq (⟨"CoreTestsModel", "idealOf", "(II)I"⟩, 44) := ⟨⟨by decide +kernel, by decide +kernel⟩, List.mem_of_getElem? (i := 775) (by decide +kernel), List.mem_of_getElem? (i := 1023) (by decide +kernel), List.mem_of_getElem? (i := 1024) (by decide +kernel)⟩
theorem lw_p38 : lw_okq (⟨"CoreTestsModel", "judge", "(IIII)I"⟩, 44) := ⟨⟨by decide +kernel, by decide +kernel⟩, List.mem_of_getElem? (i := 775) (by decide +kernel), List.mem_of_getElem? (i := 1036) (by decide +kernel), List.mem_of_getElem? (i := 1037) (by decide +kernel)⟩
theorem lw_p39 : lw_okq (⟨"CoreTestsModel", "isAhead", "(III)Z"⟩, 44) := ⟨⟨by decide +kernel, by decide +kernel⟩, List.mem_of_getElem? (i := 775) (by decide +kernel), List.mem_of_getElem? (i := 1040) (by decide +kernel), List.mem_of_getElem? (i := 1041) (by decide +kernel)⟩
theorem lw_p40 : lw_okq (⟨"CoreTestsModel", "endOf", "(I)I"⟩, 44) := ⟨⟨by decide +kernel, by decide +kernel⟩, List.mem_of_getElem? (i := 775) (by decide +kernel), List.mem_of_getElem? (i := 1044) (by decide +kernel), List.mem_of_getElem? (i := 1045) (by decide +kernel)⟩
theorem lw_p41 : lw_okq (⟨"CoreTestsModel", "isTooMuch", "(IIIII)Z"⟩, 44) := ⟨⟨by decide +kernel, by decide +kernel⟩, List.mem_of_getElem? (i := 775) (by decide +kernel), List.mem_of_getElem? (i := 1048) (by decide +kernel), List.mem_of_getElem? (i := 1049) (by decide +kernel)⟩
theorem lw_p42 : lw_okq (⟨"CoreTestsModel", "runsIn", "(II)I"⟩, 44) := ⟨⟨by decide +kernel, by decide +kernel⟩, List.mem_of_getElem? (i := 775) (by decide +kernel), List.mem_of_getElem? (i := 1052) (by decide +kernel), List.mem_of_getElem? (i := 1053) (by decide +kernel)⟩
theorem lw_p43 : lw_okq (⟨"CoreTestsModel", "note", "()V"⟩, 44) := ⟨⟨by decide +kernel, by decide +kernel⟩, List.mem_of_getElem? (i := 775) (by decide +kernel), List.mem_of_getElem? (i := 1056) (by decide +kernel), List.mem_of_getElem? (i := 1057) (by decide +kernel)⟩
theorem lw_p44 : lw_okq (⟨"CoreTestsModel", "putAt", "(III)V"⟩, 44) := ⟨⟨by decide +kernel, by decide +kernel⟩, List.mem_of_getElem? (i := 775) (by decide +kernel), List.mem_of_getElem? (i := 1060) (by decide +kernel), List.mem_of_getElem? (i := 1061) (by decide +kernel)⟩
theorem lw_p45 : lw_okq (⟨"CoreTestsModel", "lengthOf", "()I"⟩, 44) := ⟨⟨by decide +kernel, by decide +kernel⟩, List.mem_of_getElem? (i := 775) (by decide +kernel), List.mem_of_getElem? (i := 1064) (by decide +kernel), List.mem_of_getElem? (i := 1065) (by decide +kernel)⟩
theorem lw_p46 : lw_okq (⟨"CoreTestsModel", "putAside", "(Z)V"⟩, 44) := ⟨⟨by decide +kernel, by decide +kernel⟩, List.mem_of_getElem? (i := 775) (by decide +kernel), List.mem_of_getElem? (i := 1076) (by decide +kernel), List.mem_of_getElem? (i := 1077) (by decide +kernel)⟩
theorem lw_p47 : lw_okq (⟨"CoreTestsModel", "nextCore", "()I"⟩, 44) := ⟨⟨by decide +kernel, by decide +kernel⟩, List.mem_of_getElem? (i := 775) (by decide +kernel), List.mem_of_getElem? (i := 1080) (by decide +kernel), List.mem_of_getElem? (i := 1081) (by decide +kernel)⟩
def lw_privs_3 : List (MethodName × Nat) := [(⟨"CoreTestsModel", "stairsOf", "(I)I"⟩, 44), (⟨"CoreTestsModel", "layTakes", "()V"⟩, 44), (⟨"CoreTestsModel", "takesBy", "(III)I"⟩, 44), (⟨"CoreTestsModel", "wrapOf", "(II)I"⟩, 44), (⟨"CoreTestsModel", "isWidth", "(I)Z"⟩, 44), (⟨"CoreTestsModel", "idealOf", "(II)I"⟩, 44), (⟨"CoreTestsModel", "judge", "(IIII)I"⟩, 44), (⟨"CoreTestsModel", "isAhead", "(III)Z"⟩, 44), (⟨"CoreTestsModel", "endOf", "(I)I"⟩, 44), (⟨"CoreTestsModel", "isTooMuch", "(IIIII)Z"⟩, 44), (⟨"CoreTestsModel", "runsIn", "(II)I"⟩, 44), (⟨"CoreTestsModel", "note", "()V"⟩, 44), (⟨"CoreTestsModel", "putAt", "(III)V"⟩, 44), (⟨"CoreTestsModel", "lengthOf", "()I"⟩, 44), (⟨"CoreTestsModel", "putAside", "(Z)V"⟩, 44), (⟨"CoreTestsModel", "nextCore", "()I"⟩, 44)]
theorem lw_r3 : ∀ q ∈ lw_privs_3, lw_okq q := List.forall_mem_cons.mpr ⟨lw_p32, List.forall_mem_cons.mpr ⟨lw_p33, List.forall_mem_cons.mpr ⟨lw_p34, List.forall_mem_cons.mpr ⟨lw_p35, List.forall_mem_cons.mpr ⟨lw_p36, List.forall_mem_cons.mpr ⟨lw_p37, List.forall_mem_cons.mpr ⟨lw_p38, List.forall_mem_cons.mpr ⟨lw_p39, List.forall_mem_cons.mpr ⟨lw_p40, List.forall_mem_cons.mpr ⟨lw_p41, List.forall_mem_cons.mpr ⟨lw_p42, List.forall_mem_cons.mpr ⟨lw_p43, List.forall_mem_cons.mpr ⟨lw_p44, List.forall_mem_cons.mpr ⟨lw_p45, List.forall_mem_cons.mpr ⟨lw_p46, List.forall_mem_cons.mpr ⟨lw_p47, fun _ h => absurd h List.not_mem_nil⟩⟩⟩⟩⟩⟩⟩⟩⟩⟩⟩⟩⟩⟩⟩⟩
theorem lw_p48 : lw_okq (⟨"CoreTestsModel", "fills", "(II)Z"⟩, 44) := ⟨⟨by decide +kernel, by decide +kernel⟩, List.mem_of_getElem? (i := 775) (by decide +kernel), List.mem_of_getElem? (i := 1084) (by decide +kernel), List.mem_of_getElem? (i := 1085) (by decide +kernel)⟩
theorem lw_p49 : lw_okq (⟨"CoreTestsModel", "soonestOf", "(III)I"⟩, 44) := ⟨⟨by decide +kernel, by decide +kernel⟩, List.mem_of_getElem? (i := 775) (by decide +kernel), List.mem_of_getElem? (i := 1088) (by decide +kernel), List.mem_of_getElem? (i := 1089) (by decide +kernel)⟩
theorem lw_p50 : lw_okq (⟨"CoreTestsModel", "keepFilled", "()V"⟩, 44) := ⟨⟨by decide +kernel, by decide +kernel⟩, List.mem_of_getElem? (i := 775) (by decide +kernel), List.mem_of_getElem? (i := 1092) (by decide +kernel), List.mem_of_getElem? (i := 1093) (by decide +kernel)⟩
theorem lw_p51 : lw_okq (⟨"CoreTestsModel", "areaOf", "()I"⟩, 44) := ⟨⟨by decide +kernel, by decide +kernel⟩, List.mem_of_getElem? (i := 775) (by decide +kernel), List.mem_of_getElem? (i := 1121) (by decide +kernel), List.mem_of_getElem? (i := 1122) (by decide +kernel)⟩
theorem lw_p52 : lw_okq (⟨"CoreTestsModel", "pathOf", "()I"⟩, 44) := ⟨⟨by decide +kernel, by decide +kernel⟩, List.mem_of_getElem? (i := 775) (by decide +kernel), List.mem_of_getElem? (i := 1128) (by decide +kernel), List.mem_of_getElem? (i := 1129) (by decide +kernel)⟩
theorem lw_p53 : lw_okq (⟨"CoreTestsModel", "leastTakes", "(I)I"⟩, 44) := ⟨⟨by decide +kernel, by decide +kernel⟩, List.mem_of_getElem? (i := 775) (by decide +kernel), List.mem_of_getElem? (i := 1132) (by decide +kernel), List.mem_of_getElem? (i := 1133) (by decide +kernel)⟩
theorem lw_p54 : lw_okq (⟨"CoreTestsModel", "drawnOf", "()I"⟩, 44) := ⟨⟨by decide +kernel, by decide +kernel⟩, List.mem_of_getElem? (i := 775) (by decide +kernel), List.mem_of_getElem? (i := 1136) (by decide +kernel), List.mem_of_getElem? (i := 1137) (by decide +kernel)⟩
theorem lw_p55 : lw_okq (⟨"CoreTestsModel", "bestBy", "(I)I"⟩, 44) := ⟨⟨by decide +kernel, by decide +kernel⟩, List.mem_of_getElem? (i := 775) (by decide +kernel), List.mem_of_getElem? (i := 1145) (by decide +kernel), List.mem_of_getElem? (i := 1146) (by decide +kernel)⟩
theorem lw_p56 : lw_okq (⟨"CoreTestsModel", "goOrder", "(I)I"⟩, 44) := ⟨⟨by decide +kernel, by decide +kernel⟩, List.mem_of_getElem? (i := 775) (by decide +kernel), List.mem_of_getElem? (i := 1149) (by decide +kernel), List.mem_of_getElem? (i := 1150) (by decide +kernel)⟩
theorem lw_p57 : lw_okq (⟨"CoreTestsModel", "nextOrder", "()Z"⟩, 44) := ⟨⟨by decide +kernel, by decide +kernel⟩, List.mem_of_getElem? (i := 775) (by decide +kernel), List.mem_of_getElem? (i := 1153) (by decide +kernel), List.mem_of_getElem? (i := 1154) (by decide +kernel)⟩
theorem lw_p58 : lw_okq (⟨"CoreTestsModel", "swap", "(II)V"⟩, 44) := ⟨⟨by decide +kernel, by decide +kernel⟩, List.mem_of_getElem? (i := 775) (by decide +kernel), List.mem_of_getElem? (i := 1157) (by decide +kernel), List.mem_of_getElem? (i := 1158) (by decide +kernel)⟩
theorem lw_p59 : lw_okq (⟨"CoreTestsModel", "putMany", "()I"⟩, 44) := ⟨⟨by decide +kernel, by decide +kernel⟩, List.mem_of_getElem? (i := 775) (by decide +kernel), List.mem_of_getElem? (i := 1190) (by decide +kernel), List.mem_of_getElem? (i := 1191) (by decide +kernel)⟩
theorem lw_p60 : lw_okq (⟨"CoreTestsModel", "lengthNow", "()I"⟩, 44) := ⟨⟨by decide +kernel, by decide +kernel⟩, List.mem_of_getElem? (i := 775) (by decide +kernel), List.mem_of_getElem? (i := 1194) (by decide +kernel), List.mem_of_getElem? (i := 1195) (by decide +kernel)⟩
def lw_privs_4 : List (MethodName × Nat) := [(⟨"CoreTestsModel", "fills", "(II)Z"⟩, 44), (⟨"CoreTestsModel", "soonestOf", "(III)I"⟩, 44), (⟨"CoreTestsModel", "keepFilled", "()V"⟩, 44), (⟨"CoreTestsModel", "areaOf", "()I"⟩, 44), (⟨"CoreTestsModel", "pathOf", "()I"⟩, 44), (⟨"CoreTestsModel", "leastTakes", "(I)I"⟩, 44), (⟨"CoreTestsModel", "drawnOf", "()I"⟩, 44), (⟨"CoreTestsModel", "bestBy", "(I)I"⟩, 44), (⟨"CoreTestsModel", "goOrder", "(I)I"⟩, 44), (⟨"CoreTestsModel", "nextOrder", "()Z"⟩, 44), (⟨"CoreTestsModel", "swap", "(II)V"⟩, 44), (⟨"CoreTestsModel", "putMany", "()I"⟩, 44), (⟨"CoreTestsModel", "lengthNow", "()I"⟩, 44)]
theorem lw_r4 : ∀ q ∈ lw_privs_4, lw_okq q := List.forall_mem_cons.mpr ⟨lw_p48, List.forall_mem_cons.mpr ⟨lw_p49, List.forall_mem_cons.mpr ⟨lw_p50, List.forall_mem_cons.mpr ⟨lw_p51, List.forall_mem_cons.mpr ⟨lw_p52, List.forall_mem_cons.mpr ⟨lw_p53, List.forall_mem_cons.mpr ⟨lw_p54, List.forall_mem_cons.mpr ⟨lw_p55, List.forall_mem_cons.mpr ⟨lw_p56, List.forall_mem_cons.mpr ⟨lw_p57, List.forall_mem_cons.mpr ⟨lw_p58, List.forall_mem_cons.mpr ⟨lw_p59, List.forall_mem_cons.mpr ⟨lw_p60, fun _ h => absurd h List.not_mem_nil⟩⟩⟩⟩⟩⟩⟩⟩⟩⟩⟩⟩⟩
def lw_privs : List (MethodName × Nat) := lw_privs_1 ++ (lw_privs_2 ++ (lw_privs_3 ++ (lw_privs_4)))
def lw_tbl : List Cond := k2_sels lw_privs ++ tables_1
theorem lw_privs_ok : ∀ q ∈ lw_privs, lw_okq q := by
  show ∀ q ∈ lw_privs_1 ++ (lw_privs_2 ++ (lw_privs_3 ++ (lw_privs_4))), lw_okq q
  exact List.forall_mem_append.mpr ⟨lw_r1, List.forall_mem_append.mpr ⟨lw_r2, List.forall_mem_append.mpr ⟨lw_r3, lw_r4⟩⟩⟩
-- ===== end of PART A; then your names; then what follows =====
end
section
def va_AOA (ty : FieldType) (U : State) : Prop := (Cond.arrayOver (.array ty)).before #[] U = true
theorem va_AOA.of {ty : FieldType} {A : Array Value} {U : State} (h : (Cond.arrayOver (.array ty)).before A U = true) : va_AOA ty U := h
theorem va_AOA.use {ty : FieldType} {A : Array Value} {U : State} (h : va_AOA ty U) : (Cond.arrayOver (.array ty)).before A U = true := h
/-! ===== BEGIN words of one list among another's, by their places ===== -/
theorem goodIn_r {big : List Cond} (ws : List Cond) (ps : List Nat) (hp : ws = ps.filterMap (fun i => big[i]?)) (h : ws.all goodWord = true) : GoodIn big ws := by
  intro w hw
  have h1 := List.all_eq_true.mp h w hw
  rw [hp] at hw
  obtain ⟨i, -, hi⟩ := List.mem_filterMap.mp hw
  have hm : w ∈ big := by first | exact List.mem_of_getElem? hi | exact List.getElem?_mem hi
  exact ⟨hm, good_of_word h1⟩
theorem goodIn_app {big a b : List Cond} (ha : GoodIn big a) (hb : GoodIn big b) : GoodIn big (a ++ b) := fun w h => (List.mem_append.mp h).elim (ha w) (hb w)
theorem goodIn_ca {big a b : List Cond} {c : Cond} (ha : GoodIn big (c :: a)) (hb : GoodIn big b) : GoodIn big (c :: (a ++ b)) := fun w h => (List.mem_cons.mp h).elim (fun e => ha w (List.mem_cons.mpr (Or.inl e))) (fun h => (List.mem_append.mp h).elim (fun h => ha w (List.mem_cons.mpr (Or.inr h))) (hb w))
theorem goodIn_sub {big ws : List Cond} (hm : ∀ w ∈ ws, w ∈ big) (h : ws.all goodWord = true) : GoodIn big ws := fun w hw => ⟨hm w hw, good_of_word (List.all_eq_true.mp h w hw)⟩
/-! ===== END ===== -/

/-! ===== BEGIN new T[n][m]: the outer array a place, the inner ones among the pooled ===== -/
/-- f, but v at every address of l -/
def vr_up {α : Type} (f : Nat → α) (l : List Nat) (v : α) : Nat → α := fun a => if a ∈ l then v else f a
theorem vr_up_in {α : Type} {f : Nat → α} {l : List Nat} {v : α} {a : Nat} (h : a ∈ l) : vr_up f l v a = v := if_pos h
theorem vr_up_ne {α : Type} {f : Nat → α} {l : List Nat} {v : α} {a : Nat} (h : a ∉ l) : vr_up f l v a = f a := if_neg h
theorem vr_rows {L l : List Nat} {f : Nat → va_E} {e : va_E} (h : ∀ a, a ∈ l → a ∉ L) : va_pl L f ++ l.map (fun a => (a, e)) = va_pl (L ++ l) (vr_up f l e) := by
  unfold va_pl
  rw [List.map_append]
  congr 1
  · apply List.map_congr_left
    intro a ha
    rw [vr_up_ne (fun q => h a q ha)]
  · apply List.map_congr_left
    intro a ha
    rw [vr_up_in ha]
theorem vr_lay {X rows : va_W} {x : Nat × va_E} {pl : va_W} {D : va_G} {cl : List vw_C} {H : Heap} (hP : va_P D cl (((X ++ pl) ++ [x]) ++ rows) H) : va_P D cl ((X ++ [x]) ++ (pl ++ rows)) H := by
  rw [List.append_assoc (X ++ pl)] at hP
  have h := va_P.swap hP
  rw [← List.append_assoc X] at h
  have h2 := va_P.swap h
  rw [List.append_assoc (X ++ [x])] at h2
  exact h2
theorem vr_layD {X rows : va_W} {x : Nat × va_E} {pl : va_W} {A : Nat → Prop} (hD : va_D A (((X ++ pl) ++ [x]) ++ rows)) : va_D A ((X ++ [x]) ++ (pl ++ rows)) := by
  rw [List.append_assoc (X ++ pl)] at hD
  have h := va_D.swap hD
  rw [← List.append_assoc X] at h
  have h2 := va_D.swap h
  rw [List.append_assoc (X ++ [x])] at h2
  exact h2
theorem vr_outer (c : ClassId) (N h0 : Nat) : ∀ i : Nat, Jvm.Free.Multi.outerC c N h0 i = arrV c N (fun j => va_rf (if j < i then some (h0 + 1 + j) else none))
  | 0 => by
    show ({ cls := c, slots := Array.replicate N .null, vm := .none } : Cell) = _
    rw [arrV_new]
    refine congrArg (arrV c N) (funext fun j => ?_)
    simp [va_rf]
  | i + 1 => by
    show (Jvm.Free.Multi.outerC c N h0 i).setSlot i (.ref (h0 + 1 + i)) = _
    rw [vr_outer c N h0 i, arrV_store]
    refine congrArg (arrV c N) (funext fun j => ?_)
    by_cases e : j = i
    · subst e
      simp [updV, va_rf]
    · by_cases h : j < i
      · simp [updV, e, h, Nat.lt_succ_of_lt h]
      · simp [updV, e, h, show ¬ j < i + 1 by omega]
section VGM
variable {p : Program} {l : Launch} {e : Env} {R : Room} {s : State} {m : MethodId} {args : Array Value} {below : List Frame} {meth : Method} {c : Code} {H : Heap} {locs : List Loc} {cells slots : Nat} {Q : State → Prop}
variable {cc : ByteArray} {pc : Nat} {ls : Array Slot} {rest : List Value} {D : va_G} {cl : List vw_C} {A : Nat → Prop} {a : Nat} {tys : List (ClassId × FieldType)} {ws : va_W} {H0 : Heap}
theorem va_mna {X : va_W} {L : List Nat} {f : Nat → va_E} {cc : ByteArray} (hexec : p.tables.exec = Jvm.exec) (hb : c.code = cc) {own : String} {index : Nat} {ty : FieldType} {cy : ClassId} (hown : s.vm.findClass own = some m.cls) (hclink : (Cond.classLink own index ("[" ++ (FieldType.array ty).toString)).before args s = true) (hover : va_AOA ty s) (harr : (Cond.arrayClass ty).before args s = true) (hcy : s.vm.findClass (FieldType.array ty).toString = some cy)
    (hK : va_K D cl tys s) (hP : va_P D cl (X ++ va_pl L f) H) (hD : va_D A (X ++ va_pl L f)) (hS : va_S A H0 H locs) (hA : ∀ q, H0.size ≤ q → A q) {n k : Int32} {N' K' : Nat} {z : vp_A} (hn : ¬ n < 0) (hk : ¬ k < 0) (hN : n.toNatClampNeg = N') (hM : k.toNatClampNeg = K')
    (hb1 : N' * 4 ≤ 536870912) (hb2 : K' * componentBytes ty ≤ 536870912) (hb3 : K' ≤ 536870912) (hdf : fits ty (defaultValue ty) = true) (hdd : (defaultValue ty).isDefault = true) (hcells : cells + (1 + N') ≤ R.cells) (hslots : slots + (N' + N' * K') ≤ R.slots) (hz : ∀ c : ClassId, Jvm.Free.Multi.innerC c K' (defaultValue ty) = vp_cell c z) (hdg : decode cc pc = .ok (.multianewarray index 2, 4))
    (kk : ∀ (q : Nat) (r : Nat → Nat) (cA : ClassId) (H1 : Heap), (∀ i j : Nat, i < N' → j < N' → r i = r j → i = j) → (∀ i : Nat, i < N' → r i ∉ L) → va_K D cl (tys ++ [(cA, .array ty)]) s →
      va_P D cl ((X ++ [(q, .inl (cA, N', .inr (.inr (.inr (.inr (fun i => if i < N' then some (r i) else none))))))]) ++ va_pl (L ++ (List.range N').map r) (vr_up f ((List.range N').map r) (.inl (cy, z)))) H1 → va_D A ((X ++ [(q, .inl (cA, N', .inr (.inr (.inr (.inr (fun i => if i < N' then some (r i) else none))))))]) ++ va_pl (L ++ (List.range N').map r) (vr_up f ((List.range N').map r) (.inl (cy, z)))) → va_S A H0 H1 locs →
      W p l e R s m args below meth c H1 locs (cells + 1 + N') (slots + N' + N' * K') Q (F0 m (pc + 4) ls (.ref q :: rest))) : W p l e R s m args below meth c H locs cells slots Q (F0 m pc ls (.int k :: .int n :: rest)) := by
  subst hN
  subst hM
  intro T hT Xs
  obtain ⟨vm₁, cA, comp, -, fA, fC, hO, -, X', step⟩ := Xs.multianewarray2F hexec hown hclink (va_AOA.use hover) harr (g := F0 m pc ls (.int k :: .int n :: rest)) rfl (by rw [hb]; exact hdg) rfl hn hk hb1 hb2 hb3 hdf hdd hcells hslots
  have ec : some cy = some comp := hcy.symm.trans fC
  cases ec
  generalize hF : Jvm.Free.Multi.fill (T.setVm vm₁) cA cy n.toNatClampNeg k.toNatClampNeg (defaultValue ty) n.toNatClampNeg = F at X' step
  have hTh : (T.setVm vm₁).heap = H := hT
  obtain ⟨f1, f2, -, -⟩ := Jvm.Free.Multi.fill_facts (T.setVm vm₁) cA cy n.toNatClampNeg k.toNatClampNeg (defaultValue ty) n.toNatClampNeg
  rw [hF, hTh] at f1 f2
  have hold : ∀ x : Nat, x < H.size → F.heap[x]? = H[x]? := fun x hx => by
    have := Jvm.Free.Multi.fill_old (T.setVm vm₁) cA cy n.toNatClampNeg k.toNatClampNeg (defaultValue ty) (a := x) (by rw [hTh]; exact hx) n.toNatClampNeg
    rw [hF, hTh] at this
    exact this
  have hrow : ∀ j : Nat, j < n.toNatClampNeg → F.heap[H.size + 1 + j]? = some (vp_cell cy z) := fun j hj => by
    have := Jvm.Free.Multi.fill_inner (T.setVm vm₁) cA cy n.toNatClampNeg k.toNatClampNeg (defaultValue ty) n.toNatClampNeg j hj
    rw [hF, hTh, hz] at this
    exact this
  have hout : Jvm.Free.Multi.outerC cA n.toNatClampNeg H.size n.toNatClampNeg = vp_cell cA (n.toNatClampNeg, .inr (.inr (.inr (.inr (fun i => if i < n.toNatClampNeg then some (H.size + 1 + i) else none))))) := by
    rw [vp_cell_q]
    exact vr_outer cA n.toNatClampNeg H.size n.toNatClampNeg
  rw [hout] at f2
  have hlt : ∀ a, a ∈ L → a < H.size := fun a ha => by
    obtain ⟨k9, hk9⟩ := va_pl_get (X := X) (f := f) ha
    exact (hP k9 _ hk9).lt
  have hnl : ∀ i : Nat, i < n.toNatClampNeg → H.size + 1 + i ∉ L := fun i _ h => by
    have := hlt _ h
    omega
  have hnm : ∀ a, a ∈ (List.range n.toNatClampNeg).map (fun i => H.size + 1 + i) → a ∉ L := fun a ha h => by
    obtain ⟨i, -, rfl⟩ := List.mem_map.mp ha
    have := hlt _ h
    omega
  have hP0 : va_P D cl (X ++ va_pl L f) F.heap := hP.kept (fun k9 x hx => hold x.1 ((hP k9 x hx).lt))
  have hP1 : va_P D cl ((X ++ va_pl L f) ++ [(H.size, .inl (cA, n.toNatClampNeg, .inr (.inr (.inr (.inr (fun i => if i < n.toNatClampNeg then some (H.size + 1 + i) else none))))))]) F.heap := hP0.app (fun k9 x hx => by
    have h0 : k9 < 1 := (List.getElem?_eq_some_iff.mp hx).1
    rw [show k9 = 0 by omega] at hx
    cases hx
    exact f2)
  have hP2 : va_P D cl (((X ++ va_pl L f) ++ [(H.size, .inl (cA, n.toNatClampNeg, .inr (.inr (.inr (.inr (fun i => if i < n.toNatClampNeg then some (H.size + 1 + i) else none))))))]) ++ ((List.range n.toNatClampNeg).map (fun i => H.size + 1 + i)).map (fun a => (a, .inl (cy, z)))) F.heap := hP1.app (fun k9 x hx => by
    obtain ⟨a, ha, rfl⟩ := List.mem_map.mp (List.mem_of_getElem? hx)
    obtain ⟨i, hi, rfl⟩ := List.mem_map.mp ha
    exact hrow i (List.mem_range.mp hi))
  have hD2 : va_D A (((X ++ va_pl L f) ++ [(H.size, .inl (cA, n.toNatClampNeg, .inr (.inr (.inr (.inr (fun i => if i < n.toNatClampNeg then some (H.size + 1 + i) else none))))))]) ++ ((List.range n.toNatClampNeg).map (fun i => H.size + 1 + i)).map (fun a => (a, .inl (cy, z)))) := by
    have hD1 := hD.push (e := .inl (cA, n.toNatClampNeg, .inr (.inr (.inr (.inr (fun i => if i < n.toNatClampNeg then some (H.size + 1 + i) else none)))))) hP rfl (hA _ hS.1)
    generalize hW1 : (X ++ va_pl L f) ++ [(H.size, .inl (cA, n.toNatClampNeg, .inr (.inr (.inr (.inr (fun i => if i < n.toNatClampNeg then some (H.size + 1 + i) else none))))))] = W1 at hD1 hP1 ⊢
    have hle : ∀ (k9 : Nat) (x : Nat × va_E), W1[k9]? = some x → x.1 ≤ H.size := fun k9 x hx => by
      rw [← hW1] at hx
      by_cases hl : k9 < (X ++ va_pl L f).length
      · rw [List.getElem?_append_left hl] at hx
        exact Nat.le_of_lt ((hP k9 x hx).lt)
      · rw [List.getElem?_append_right (by omega)] at hx
        have h0 : k9 - (X ++ va_pl L f).length < 1 := (List.getElem?_eq_some_iff.mp hx).1
        rw [show k9 - (X ++ va_pl L f).length = 0 by omega] at hx
        cases hx
        exact Nat.le_refl _
    have hr : ∀ (k9 : Nat) (x : Nat × va_E), (((List.range n.toNatClampNeg).map (fun i => H.size + 1 + i)).map (fun a => ((a, .inl (cy, z)) : Nat × va_E)))[k9]? = some x → x.1 = H.size + 1 + k9 := fun k9 x hx => by
      rw [List.getElem?_map, List.getElem?_map] at hx
      by_cases h9 : k9 < n.toNatClampNeg
      · rw [List.getElem?_range h9] at hx
        cases hx
        rfl
      · have hn0 : (List.range n.toNatClampNeg)[k9]? = none := List.getElem?_eq_none (by rw [List.length_range]; omega)
        rw [hn0] at hx
        cases hx
    refine ⟨fun i j x y hi hj hxy => ?_, fun k9 x hx => ?_⟩
    · by_cases h1 : i < W1.length <;> by_cases h2 : j < W1.length
      · rw [List.getElem?_append_left h1] at hi
        rw [List.getElem?_append_left h2] at hj
        exact hD1.1 i j x y hi hj hxy
      · rw [List.getElem?_append_left h1] at hi
        rw [List.getElem?_append_right (by omega)] at hj
        have := hle _ _ hi
        have := hr _ _ hj
        omega
      · rw [List.getElem?_append_right (by omega)] at hi
        rw [List.getElem?_append_left h2] at hj
        have := hle _ _ hj
        have := hr _ _ hi
        omega
      · rw [List.getElem?_append_right (by omega)] at hi hj
        have := hr _ _ hi
        have := hr _ _ hj
        omega
    · by_cases h1 : k9 < W1.length
      · rw [List.getElem?_append_left h1] at hx
        exact hD1.2 k9 x hx
      · rw [List.getElem?_append_right (by omega)] at hx
        have := hr _ _ hx
        exact hA _ (by have := hS.1; omega)
  have hAr : ArrOfT s cA (.array ty) := fun N9 z9 => by
    obtain ⟨-, k9, hk9, cm9, hkk9⟩ := (hO 0 0 0).1
    exact ⟨(fun q hq => by cases hq), k9, hk9, cm9, hkk9⟩
  have hK2 : va_K D cl (tys ++ [(cA, .array ty)]) s := ⟨hK.1, fun k9 x hx => by
    by_cases hl : k9 < tys.length
    · rw [List.getElem?_append_left hl] at hx
      exact hK.2 k9 x hx
    · rw [List.getElem?_append_right (by omega)] at hx
      have h0 : k9 - tys.length < 1 := (List.getElem?_eq_some_iff.mp hx).1
      rw [show k9 - tys.length = 0 by omega] at hx
      cases hx
      exact ⟨hAr, fA⟩⟩
  obtain ⟨t, a1, b1⟩ := kk H.size (fun i => H.size + 1 + i) cA F.heap (fun i j _ _ h => by have h9 : H.size + 1 + i = H.size + 1 + j := h; omega) hnl hK2 (by rw [← vr_rows hnm]; exact vr_lay hP2) (by rw [← vr_rows hnm]; exact vr_layD hD2) ⟨by rw [f1]; have := hS.1; omega, fun x h1 h2 => (hold x (Nat.lt_of_lt_of_le h1 hS.1)).trans (hS.2.1 x h1 h2), hS.2.2⟩ F rfl X'
  refine ⟨t, step t ?_, b1⟩
  have e : T.heap.size = H.size := by rw [hT]
  rw [e]
  exact a1
end VGM
/-! ===== END ===== -/

/-! ===== BEGIN printed: names, fields, word lists, decode rows ===== -/
def RX0 : String := "CoreTests$Bounds"
def TX0 : u_T := fun k => match k with
  | 0 => ("CoreTests$Bounds", "chip", "LCoreTests$Chip;", true)
  | _ => ("CoreTests$Bounds", "longest", "[I", true)
def tyX0 : Nat → FieldType := fun k => match k with
  | 0 => .object "CoreTests$Chip"
  | _ => .array .int
abbrev wsX00 : List Cond := u_ws RX0 TX0 2
theorem nmX0 : ∀ a, a < 2 → ∀ b, b < 2 → a ≠ b → (TX0 a).2.1 ≠ (TX0 b).2.1 := by decide +kernel
theorem tyX0_ok : ∀ k, k < 2 → parseFieldDescriptor (TX0 k).2.2.1 = some (tyX0 k) := by decide +kernel
abbrev cX0_init : ByteArray := prog_2_method_1_code
def yX0_init : MethodName := ⟨RX0, "<init>", "(LCoreTests$Chip;)V"⟩
abbrev cX0_area : ByteArray := prog_2_method_2_code
def yX0_area : MethodName := ⟨RX0, "area", "(LCoreTests$Plan;)I"⟩
abbrev cX0_path : ByteArray := prog_2_method_3_code
def yX0_path : MethodName := ⟨RX0, "path", "(LCoreTests$Plan;)I"⟩
abbrev cX0_drawn : ByteArray := prog_2_method_4_code
def yX0_drawn : MethodName := ⟨RX0, "drawn", "(LCoreTests$Plan;)I"⟩
abbrev cX0_greatest : ByteArray := prog_2_method_5_code
def yX0_greatest : MethodName := ⟨RX0, "greatest", "(LCoreTests$Plan;)I"⟩
abbrev cX0_upward : ByteArray := prog_2_method_6_code
def yX0_upward : MethodName := ⟨RX0, "upward", "(II)I"⟩
def RX1 : String := "CoreTests$Cause"
def TX1 : u_T := fun k => match k with
  | 0 => ("CoreTests$Cause", "numbers", "[I", true)
  | _ => ("CoreTests$Cause", "many", "I", false)
def tyX1 : Nat → FieldType := fun k => match k with
  | 0 => .array .int
  | _ => .int
abbrev wsX10 : List Cond := u_ws RX1 TX1 2
theorem nmX1 : ∀ a, a < 2 → ∀ b, b < 2 → a ≠ b → (TX1 a).2.1 ≠ (TX1 b).2.1 := by decide +kernel
theorem tyX1_ok : ∀ k, k < 2 → parseFieldDescriptor (TX1 k).2.2.1 = some (tyX1 k) := by decide +kernel
abbrev cX1_init : ByteArray := prog_3_method_1_code
def yX1_init : MethodName := ⟨RX1, "<init>", "()V"⟩
abbrev cX1_clear : ByteArray := prog_3_method_2_code
def yX1_clear : MethodName := ⟨RX1, "clear", "()V"⟩
abbrev cX1_ofPut : ByteArray := prog_3_method_3_code
def yX1_ofPut : MethodName := ⟨RX1, "ofPut", "(III)V"⟩
abbrev cX1_ofFill : ByteArray := prog_3_method_4_code
def yX1_ofFill : MethodName := ⟨RX1, "ofFill", "(IIII)V"⟩
abbrev cX1_addThree : ByteArray := prog_3_method_5_code
def yX1_addThree : MethodName := ⟨RX1, "addThree", "(III)V"⟩
abbrev cX1_number : ByteArray := prog_3_method_6_code
def yX1_number : MethodName := ⟨RX1, "number", "(I)I"⟩
def RX2 : String := "CoreTests$Chip"
def TX2 : u_T := fun k => match k with
  | 0 => ("CoreTests$Chip", "lines", "I", false)
  | 1 => ("CoreTests$Chip", "power", "I", false)
  | 2 => ("CoreTests$Chip", "cores", "I", false)
  | 3 => ("CoreTests$Chip", "rules", "I", false)
  | 4 => ("CoreTests$Chip", "kind", "[I", true)
  | 5 => ("CoreTests$Chip", "patterns", "[I", true)
  | 6 => ("CoreTests$Chip", "draws", "[I", true)
  | 7 => ("CoreTests$Chip", "chains", "[I", true)
  | 8 => ("CoreTests$Chip", "lengths", "[[I", true)
  | 9 => ("CoreTests$Chip", "ruleAhead", "[I", true)
  | 10 => ("CoreTests$Chip", "ruleBehind", "[I", true)
  | 11 => ("CoreTests$Chip", "load", "[[I", true)
  | 12 => ("CoreTests$Chip", "laidOn", "[[I", true)
  | 13 => ("CoreTests$Chip", "loads", "[I", true)
  | _ => ("CoreTests$Chip", "longestFirst", "[I", true)
def tyX2 : Nat → FieldType := fun k => match k with
  | 0 => .int
  | 1 => .int
  | 2 => .int
  | 3 => .int
  | 4 => .array .int
  | 5 => .array .int
  | 6 => .array .int
  | 7 => .array .int
  | 8 => .array (.array .int)
  | 9 => .array .int
  | 10 => .array .int
  | 11 => .array (.array .int)
  | 12 => .array (.array .int)
  | 13 => .array .int
  | _ => .array .int
abbrev wsX20 : List Cond := u_ws RX2 TX2 15
theorem nmX2 : ∀ a, a < 15 → ∀ b, b < 15 → a ≠ b → (TX2 a).2.1 ≠ (TX2 b).2.1 := by decide +kernel
theorem tyX2_ok : ∀ k, k < 15 → parseFieldDescriptor (TX2 k).2.2.1 = some (tyX2 k) := by decide +kernel
abbrev cX2_init : ByteArray := prog_4_method_1_code
def yX2_init : MethodName := ⟨RX2, "<init>", "()V"⟩
abbrev cX2_clear : ByteArray := prog_4_method_2_code
def yX2_clear : MethodName := ⟨RX2, "clear", "()V"⟩
abbrev cX2_layChains : ByteArray := prog_4_method_3_code
def yX2_layChains : MethodName := ⟨RX2, "layChains", "()V"⟩
abbrev cX2_orderChains : ByteArray := prog_4_method_4_code
def yX2_orderChains : MethodName := ⟨RX2, "orderChains", "(I)V"⟩
abbrev cX2_layAt : ByteArray := prog_4_method_5_code
def yX2_layAt : MethodName := ⟨RX2, "layAt", "(II)V"⟩
abbrev cX2_clearLoads : ByteArray := prog_4_method_6_code
def yX2_clearLoads : MethodName := ⟨RX2, "clearLoads", "()V"⟩
abbrev cX2_leastLoaded : ByteArray := prog_4_method_7_code
def yX2_leastLoaded : MethodName := ⟨RX2, "leastLoaded", "(I)I"⟩
abbrev cX2_idealLoad : ByteArray := prog_4_method_8_code
def yX2_idealLoad : MethodName := ⟨RX2, "idealLoad", "(II)I"⟩
abbrev cX2_leastLoad : ByteArray := prog_4_method_9_code
def yX2_leastLoad : MethodName := ⟨RX2, "leastLoad", "(LCoreTests$Chip;IIIII)I"⟩
abbrev cX2_takes : ByteArray := prog_4_method_10_code
def yX2_takes : MethodName := ⟨RX2, "takes", "(III)I"⟩
def RX3 : String := "CoreTests$Plan"
def TX3 : u_T := fun k => match k with
  | 0 => ("CoreTests$Plan", "chip", "LCoreTests$Chip;", true)
  | 1 => ("CoreTests$Plan", "kind", "[I", true)
  | 2 => ("CoreTests$Plan", "width", "[I", true)
  | 3 => ("CoreTests$Plan", "from", "[I", true)
  | 4 => ("CoreTests$Plan", "until", "[I", true)
  | _ => ("CoreTests$Plan", "ahead", "[I", true)
def tyX3 : Nat → FieldType := fun k => match k with
  | 0 => .object "CoreTests$Chip"
  | 1 => .array .int
  | 2 => .array .int
  | 3 => .array .int
  | 4 => .array .int
  | _ => .array .int
abbrev wsX30 : List Cond := u_ws RX3 TX3 6
theorem nmX3 : ∀ a, a < 6 → ∀ b, b < 6 → a ≠ b → (TX3 a).2.1 ≠ (TX3 b).2.1 := by decide +kernel
theorem tyX3_ok : ∀ k, k < 6 → parseFieldDescriptor (TX3 k).2.2.1 = some (tyX3 k) := by decide +kernel
abbrev cX3_init : ByteArray := prog_5_method_1_code
def yX3_init : MethodName := ⟨RX3, "<init>", "(LCoreTests$Chip;)V"⟩
abbrev cX3_startOver : ByteArray := prog_5_method_2_code
def yX3_startOver : MethodName := ⟨RX3, "startOver", "(I)V"⟩
abbrev cX3_isPut : ByteArray := prog_5_method_3_code
def yX3_isPut : MethodName := ⟨RX3, "isPut", "(I)Z"⟩
abbrev cX3_place : ByteArray := prog_5_method_4_code
def yX3_place : MethodName := ⟨RX3, "place", "(III)V"⟩
abbrev cX3_takeOff : ByteArray := prog_5_method_5_code
def yX3_takeOff : MethodName := ⟨RX3, "takeOff", "(I)V"⟩
abbrev cX3_takes : ByteArray := prog_5_method_6_code
def yX3_takes : MethodName := ⟨RX3, "takes", "(II)I"⟩
abbrev cX3_leastTaken : ByteArray := prog_5_method_7_code
def yX3_leastTaken : MethodName := ⟨RX3, "leastTaken", "(I)I"⟩
abbrev cX3_stairs : ByteArray := prog_5_method_8_code
def yX3_stairs : MethodName := ⟨RX3, "stairs", "(I)I"⟩
abbrev cX3_length : ByteArray := prog_5_method_9_code
def yX3_length : MethodName := ⟨RX3, "length", "()I"⟩
abbrev cX3_manyPut : ByteArray := prog_5_method_10_code
def yX3_manyPut : MethodName := ⟨RX3, "manyPut", "()I"⟩
abbrev cX3_used : ByteArray := prog_5_method_11_code
def yX3_used : MethodName := ⟨RX3, "used", "(II)I"⟩
abbrev cX3_reason : ByteArray := prog_5_method_12_code
def yX3_reason : MethodName := ⟨RX3, "reason", "(III)I"⟩
abbrev cX3_toldBy : ByteArray := prog_5_method_13_code
def yX3_toldBy : MethodName := ⟨RX3, "toldBy", "(IIII)I"⟩
abbrev cX3_notDoneAhead : ByteArray := prog_5_method_14_code
def yX3_notDoneAhead : MethodName := ⟨RX3, "notDoneAhead", "(II)I"⟩
abbrev cX3_begunBehind : ByteArray := prog_5_method_15_code
def yX3_begunBehind : MethodName := ⟨RX3, "begunBehind", "(II)I"⟩
abbrev cX3_firstOver : ByteArray := prog_5_method_16_code
def yX3_firstOver : MethodName := ⟨RX3, "firstOver", "(IIII)I"⟩
abbrev cX3_firstNotRefused : ByteArray := prog_5_method_17_code
def yX3_firstNotRefused : MethodName := ⟨RX3, "firstNotRefused", "(III)I"⟩
abbrev cX3_placeDoneFirst : ByteArray := prog_5_method_18_code
def yX3_placeDoneFirst : MethodName := ⟨RX3, "placeDoneFirst", "(II)Z"⟩
abbrev cX3_writeTo : ByteArray := prog_5_method_19_code
def yX3_writeTo : MethodName := ⟨RX3, "writeTo", "([I)V"⟩
abbrev cX3_readFrom : ByteArray := prog_5_method_20_code
def yX3_readFrom : MethodName := ⟨RX3, "readFrom", "([I)V"⟩
def RX4 : String := "CoreTests$Reader"
def TX4 : u_T := fun k => match k with
  | 0 => ("CoreTests$Reader", "text", "LCoreTests$Text;", true)
  | _ => ("CoreTests$Reader", "at", "I", false)
def tyX4 : Nat → FieldType := fun k => match k with
  | 0 => .object "CoreTests$Text"
  | _ => .int
abbrev wsX40 : List Cond := u_ws RX4 TX4 2
theorem nmX4 : ∀ a, a < 2 → ∀ b, b < 2 → a ≠ b → (TX4 a).2.1 ≠ (TX4 b).2.1 := by decide +kernel
theorem tyX4_ok : ∀ k, k < 2 → parseFieldDescriptor (TX4 k).2.2.1 = some (tyX4 k) := by decide +kernel
abbrev cX4_init : ByteArray := prog_6_method_1_code
def yX4_init : MethodName := ⟨RX4, "<init>", "(LCoreTests$Text;)V"⟩
abbrev cX4_firstFault : ByteArray := prog_6_method_2_code
def yX4_firstFault : MethodName := ⟨RX4, "firstFault", "(LCoreTests$Chip;)I"⟩
abbrev cX4_readItem : ByteArray := prog_6_method_3_code
def yX4_readItem : MethodName := ⟨RX4, "readItem", "(LCoreTests$Chip;)Z"⟩
abbrev cX4_readLines : ByteArray := prog_6_method_4_code
def yX4_readLines : MethodName := ⟨RX4, "readLines", "(LCoreTests$Chip;)Z"⟩
abbrev cX4_readPower : ByteArray := prog_6_method_5_code
def yX4_readPower : MethodName := ⟨RX4, "readPower", "(LCoreTests$Chip;)Z"⟩
abbrev cX4_readCore : ByteArray := prog_6_method_6_code
def yX4_readCore : MethodName := ⟨RX4, "readCore", "(LCoreTests$Chip;)Z"⟩
abbrev cX4_readRule : ByteArray := prog_6_method_7_code
def yX4_readRule : MethodName := ⟨RX4, "readRule", "(LCoreTests$Chip;)Z"⟩
abbrev cX4_number : ByteArray := prog_6_method_8_code
def yX4_number : MethodName := ⟨RX4, "number", "(IIC)I"⟩
abbrev cX4_row : ByteArray := prog_6_method_9_code
def yX4_row : MethodName := ⟨RX4, "row", "([I)I"⟩
def RX5 : String := "CoreTests$Search"
def TX5 : u_T := fun k => match k with
  | 0 => ("CoreTests$Search", "chip", "LCoreTests$Chip;", true)
  | 1 => ("CoreTests$Search", "trial", "LCoreTests$Plan;", true)
  | 2 => ("CoreTests$Search", "bounds", "LCoreTests$Bounds;", true)
  | 3 => ("CoreTests$Search", "order", "[I", true)
  | 4 => ("CoreTests$Search", "orders", "[[I", true)
  | 5 => ("CoreTests$Search", "lengths", "[I", true)
  | 6 => ("CoreTests$Search", "searchedFor", "[I", true)
  | 7 => ("CoreTests$Search", "slot", "I", false)
  | 8 => ("CoreTests$Search", "least", "I", false)
  | _ => ("CoreTests$Search", "floor", "I", false)
def tyX5 : Nat → FieldType := fun k => match k with
  | 0 => .object "CoreTests$Chip"
  | 1 => .object "CoreTests$Plan"
  | 2 => .object "CoreTests$Bounds"
  | 3 => .array .int
  | 4 => .array (.array .int)
  | 5 => .array .int
  | 6 => .array .int
  | 7 => .int
  | 8 => .int
  | _ => .int
abbrev wsX50 : List Cond := u_ws RX5 TX5 10
theorem nmX5 : ∀ a, a < 10 → ∀ b, b < 10 → a ≠ b → (TX5 a).2.1 ≠ (TX5 b).2.1 := by decide +kernel
theorem tyX5_ok : ∀ k, k < 10 → parseFieldDescriptor (TX5 k).2.2.1 = some (tyX5 k) := by decide +kernel
abbrev cX5_init : ByteArray := prog_7_method_1_code
def yX5_init : MethodName := ⟨RX5, "<init>", "(LCoreTests$Chip;)V"⟩
abbrev cX5_forgetAll : ByteArray := prog_7_method_2_code
def yX5_forgetAll : MethodName := ⟨RX5, "forgetAll", "()V"⟩
abbrev cX5_leastLength : ByteArray := prog_7_method_3_code
def yX5_leastLength : MethodName := ⟨RX5, "leastLength", "(LCoreTests$Plan;I)I"⟩
abbrev cX5_placedAt : ByteArray := prog_7_method_4_code
def yX5_placedAt : MethodName := ⟨RX5, "placedAt", "(I)I"⟩
abbrev cX5_tryAll : ByteArray := prog_7_method_5_code
def yX5_tryAll : MethodName := ⟨RX5, "tryAll", "(LCoreTests$Search;III)V"⟩
def RX6 : String := "CoreTests$Shelf"
def TX6 : u_T := fun k => match k with
  | 0 => ("CoreTests$Shelf", "rows", "[[I", true)
  | _ => ("CoreTests$Shelf", "held", "I", false)
def tyX6 : Nat → FieldType := fun k => match k with
  | 0 => .array (.array .int)
  | _ => .int
abbrev wsX60 : List Cond := u_ws RX6 TX6 2
theorem nmX6 : ∀ a, a < 2 → ∀ b, b < 2 → a ≠ b → (TX6 a).2.1 ≠ (TX6 b).2.1 := by decide +kernel
theorem tyX6_ok : ∀ k, k < 2 → parseFieldDescriptor (TX6 k).2.2.1 = some (tyX6 k) := by decide +kernel
abbrev cX6_init : ByteArray := prog_8_method_1_code
def yX6_init : MethodName := ⟨RX6, "<init>", "(I)V"⟩
abbrev cX6_clear : ByteArray := prog_8_method_2_code
def yX6_clear : MethodName := ⟨RX6, "clear", "()V"⟩
abbrev cX6_push : ByteArray := prog_8_method_3_code
def yX6_push : MethodName := ⟨RX6, "push", "([I)V"⟩
abbrev cX6_popInto : ByteArray := prog_8_method_4_code
def yX6_popInto : MethodName := ⟨RX6, "popInto", "(LCoreTests$Plan;)Z"⟩
def RX7 : String := "CoreTests$Sightings"
def TX7 : u_T := fun k => match k with
  | 0 => ("CoreTests$Sightings", "chip", "LCoreTests$Chip;", true)
  | 1 => ("CoreTests$Sightings", "cores", "[I", true)
  | 2 => ("CoreTests$Sightings", "widths", "[I", true)
  | 3 => ("CoreTests$Sightings", "cycles", "[I", true)
  | _ => ("CoreTests$Sightings", "many", "I", false)
def tyX7 : Nat → FieldType := fun k => match k with
  | 0 => .object "CoreTests$Chip"
  | 1 => .array .int
  | 2 => .array .int
  | 3 => .array .int
  | _ => .int
abbrev wsX70 : List Cond := u_ws RX7 TX7 5
theorem nmX7 : ∀ a, a < 5 → ∀ b, b < 5 → a ≠ b → (TX7 a).2.1 ≠ (TX7 b).2.1 := by decide +kernel
theorem tyX7_ok : ∀ k, k < 5 → parseFieldDescriptor (TX7 k).2.2.1 = some (tyX7 k) := by decide +kernel
abbrev cX7_init : ByteArray := prog_9_method_1_code
def yX7_init : MethodName := ⟨RX7, "<init>", "(LCoreTests$Chip;)V"⟩
abbrev cX7_clear : ByteArray := prog_9_method_2_code
def yX7_clear : MethodName := ⟨RX7, "clear", "()V"⟩
abbrev cX7_add : ByteArray := prog_9_method_3_code
def yX7_add : MethodName := ⟨RX7, "add", "(III)V"⟩
abbrev cX7_kindsOf : ByteArray := prog_9_method_4_code
def yX7_kindsOf : MethodName := ⟨RX7, "kindsOf", "(I)I"⟩
abbrev cX7_agree : ByteArray := prog_9_method_5_code
def yX7_agree : MethodName := ⟨RX7, "agree", "(II)Z"⟩
def RX8 : String := "CoreTests$Text"
def TX8 : u_T := fun k => match k with
  | 0 => ("CoreTests$Text", "letters", "[I", true)
  | _ => ("CoreTests$Text", "length", "I", false)
def tyX8 : Nat → FieldType := fun k => match k with
  | 0 => .array .int
  | _ => .int
abbrev wsX80 : List Cond := u_ws RX8 TX8 2
theorem nmX8 : ∀ a, a < 2 → ∀ b, b < 2 → a ≠ b → (TX8 a).2.1 ≠ (TX8 b).2.1 := by decide +kernel
theorem tyX8_ok : ∀ k, k < 2 → parseFieldDescriptor (TX8 k).2.2.1 = some (tyX8 k) := by decide +kernel
abbrev cX8_init : ByteArray := prog_10_method_1_code
def yX8_init : MethodName := ⟨RX8, "<init>", "()V"⟩
abbrev cX8_add : ByteArray := prog_10_method_2_code
def yX8_add : MethodName := ⟨RX8, "add", "(I)V"⟩
abbrev cX8_clear : ByteArray := prog_10_method_3_code
def yX8_clear : MethodName := ⟨RX8, "clear", "()V"⟩
abbrev cX8_letterAt : ByteArray := prog_10_method_4_code
def yX8_letterAt : MethodName := ⟨RX8, "letterAt", "(I)I"⟩
abbrev cX8_figureAt : ByteArray := prog_10_method_5_code
def yX8_figureAt : MethodName := ⟨RX8, "figureAt", "(I)I"⟩
def RX9 : String := "CoreTests"
def TX9 : u_T := fun k => match k with
  | 0 => ("CoreTests", "text", "LCoreTests$Text;", true)
  | 1 => ("CoreTests", "reader", "LCoreTests$Reader;", true)
  | 2 => ("CoreTests", "draft", "LCoreTests$Chip;", true)
  | 3 => ("CoreTests", "chip", "LCoreTests$Chip;", true)
  | 4 => ("CoreTests", "plan", "LCoreTests$Plan;", true)
  | 5 => ("CoreTests", "bounds", "LCoreTests$Bounds;", true)
  | 6 => ("CoreTests", "search", "LCoreTests$Search;", true)
  | 7 => ("CoreTests", "before", "[I", true)
  | 8 => ("CoreTests", "history", "LCoreTests$Shelf;", true)
  | 9 => ("CoreTests", "shelf", "LCoreTests$Shelf;", true)
  | 10 => ("CoreTests", "cause", "LCoreTests$Cause;", true)
  | _ => ("CoreTests", "sightings", "LCoreTests$Sightings;", true)
def tyX9 : Nat → FieldType := fun k => match k with
  | 0 => .object "CoreTests$Text"
  | 1 => .object "CoreTests$Reader"
  | 2 => .object "CoreTests$Chip"
  | 3 => .object "CoreTests$Chip"
  | 4 => .object "CoreTests$Plan"
  | 5 => .object "CoreTests$Bounds"
  | 6 => .object "CoreTests$Search"
  | 7 => .array .int
  | 8 => .object "CoreTests$Shelf"
  | 9 => .object "CoreTests$Shelf"
  | 10 => .object "CoreTests$Cause"
  | _ => .object "CoreTests$Sightings"
abbrev wsX90 : List Cond := u_ws RX9 TX9 12
theorem nmX9 : ∀ a, a < 12 → ∀ b, b < 12 → a ≠ b → (TX9 a).2.1 ≠ (TX9 b).2.1 := by decide +kernel
theorem tyX9_ok : ∀ k, k < 12 → parseFieldDescriptor (TX9 k).2.2.1 = some (tyX9 k) := by decide +kernel
abbrev cX9_init : ByteArray := prog_1_method_1_code
def yX9_init : MethodName := ⟨RX9, "<init>", "()V"⟩
abbrev cX9_write : ByteArray := prog_1_method_2_code
def yX9_write : MethodName := ⟨RX9, "write", "(I)I"⟩
abbrev cX9_wipe : ByteArray := prog_1_method_3_code
def yX9_wipe : MethodName := ⟨RX9, "wipe", "()I"⟩
abbrev cX9_fault : ByteArray := prog_1_method_4_code
def yX9_fault : MethodName := ⟨RX9, "fault", "()I"⟩
abbrev cX9_lay : ByteArray := prog_1_method_5_code
def yX9_lay : MethodName := ⟨RX9, "lay", "()I"⟩
abbrev cX9_core : ByteArray := prog_1_method_6_code
def yX9_core : MethodName := ⟨RX9, "core", "(II)I"⟩
abbrev cX9_chain : ByteArray := prog_1_method_7_code
def yX9_chain : MethodName := ⟨RX9, "chain", "(II)I"⟩
abbrev cX9_wrap : ByteArray := prog_1_method_8_code
def yX9_wrap : MethodName := ⟨RX9, "wrap", "(III)I"⟩
abbrev cX9_line : ByteArray := prog_1_method_9_code
def yX9_line : MethodName := ⟨RX9, "line", "(III)I"⟩
abbrev cX9_put : ByteArray := prog_1_method_10_code
def yX9_put : MethodName := ⟨RX9, "put", "(III)I"⟩
abbrev cX9_take : ByteArray := prog_1_method_11_code
def yX9_take : MethodName := ⟨RX9, "take", "(I)I"⟩
abbrev cX9_fill : ByteArray := prog_1_method_12_code
def yX9_fill : MethodName := ⟨RX9, "fill", "()I"⟩
abbrev cX9_rename : ByteArray := prog_1_method_13_code
def yX9_rename : MethodName := ⟨RX9, "rename", "(II)I"⟩
abbrev cX9_undo : ByteArray := prog_1_method_14_code
def yX9_undo : MethodName := ⟨RX9, "undo", "()I"⟩
abbrev cX9_why : ByteArray := prog_1_method_15_code
def yX9_why : MethodName := ⟨RX9, "why", "(I)I"⟩
abbrev cX9_soonest : ByteArray := prog_1_method_16_code
def yX9_soonest : MethodName := ⟨RX9, "soonest", "(II)I"⟩
abbrev cX9_runs : ByteArray := prog_1_method_17_code
def yX9_runs : MethodName := ⟨RX9, "runs", "(II)I"⟩
abbrev cX9_bound : ByteArray := prog_1_method_18_code
def yX9_bound : MethodName := ⟨RX9, "bound", "(I)I"⟩
abbrev cX9_best : ByteArray := prog_1_method_19_code
def yX9_best : MethodName := ⟨RX9, "best", "(I)I"⟩
abbrev cX9_costs : ByteArray := prog_1_method_20_code
def yX9_costs : MethodName := ⟨RX9, "costs", "(I)I"⟩
abbrev cX9_seen : ByteArray := prog_1_method_21_code
def yX9_seen : MethodName := ⟨RX9, "seen", "(III)I"⟩
abbrev cX9_forget : ByteArray := prog_1_method_22_code
def yX9_forget : MethodName := ⟨RX9, "forget", "()I"⟩
abbrev cX9_kinds : ByteArray := prog_1_method_23_code
def yX9_kinds : MethodName := ⟨RX9, "kinds", "(I)I"⟩
abbrev cX9_keep : ByteArray := prog_1_method_24_code
def yX9_keep : MethodName := ⟨RX9, "keep", "()I"⟩
abbrev cX9_back : ByteArray := prog_1_method_25_code
def yX9_back : MethodName := ⟨RX9, "back", "()I"⟩
abbrev cX9_count : ByteArray := prog_1_method_26_code
def yX9_count : MethodName := ⟨RX9, "count", "(I)I"⟩
abbrev cX9_isCore : ByteArray := prog_1_method_27_code
def yX9_isCore : MethodName := ⟨RX9, "isCore", "(I)Z"⟩
abbrev cX9_isWidth : ByteArray := prog_1_method_28_code
def yX9_isWidth : MethodName := ⟨RX9, "isWidth", "(I)Z"⟩
abbrev cX9_isCycle : ByteArray := prog_1_method_29_code
def yX9_isCycle : MethodName := ⟨RX9, "isCycle", "(I)Z"⟩
abbrev cX9_layText : ByteArray := prog_1_method_30_code
def yX9_layText : MethodName := ⟨RX9, "layText", "()I"⟩
abbrev cX9_remember : ByteArray := prog_1_method_31_code
def yX9_remember : MethodName := ⟨RX9, "remember", "()V"⟩
abbrev cX9_stuck : ByteArray := prog_1_method_32_code
def yX9_stuck : MethodName := ⟨RX9, "stuck", "(II)V"⟩
def RX10 : String := "CoreTestsModel"
def TX10 : u_T := fun k => match k with
  | 0 => ("CoreTestsModel", "lines", "I", false)
  | 1 => ("CoreTestsModel", "power", "I", false)
  | 2 => ("CoreTestsModel", "cores", "I", false)
  | 3 => ("CoreTestsModel", "rules", "I", false)
  | 4 => ("CoreTestsModel", "patterns", "[I", true)
  | 5 => ("CoreTestsModel", "draws", "[I", true)
  | 6 => ("CoreTestsModel", "chainMany", "[I", true)
  | 7 => ("CoreTestsModel", "chains", "[I", true)
  | 8 => ("CoreTestsModel", "ruleA", "[I", true)
  | 9 => ("CoreTestsModel", "ruleB", "[I", true)
  | 10 => ("CoreTestsModel", "st", "[I", true)
  | 11 => ("CoreTestsModel", "past", "[I", true)
  | 12 => ("CoreTestsModel", "undoMany", "I", false)
  | 13 => ("CoreTestsModel", "seen", "[I", true)
  | 14 => ("CoreTestsModel", "seenMany", "I", false)
  | 15 => ("CoreTestsModel", "kept", "[I", true)
  | 16 => ("CoreTestsModel", "keptMany", "I", false)
  | 17 => ("CoreTestsModel", "why", "[I", true)
  | 18 => ("CoreTestsModel", "whyMany", "I", false)
  | 19 => ("CoreTestsModel", "text", "[I", true)
  | 20 => ("CoreTestsModel", "length", "I", false)
  | 21 => ("CoreTestsModel", "place", "I", false)
  | 22 => ("CoreTestsModel", "number", "I", false)
  | 23 => ("CoreTestsModel", "newLines", "I", false)
  | 24 => ("CoreTestsModel", "newPower", "I", false)
  | 25 => ("CoreTestsModel", "newCores", "I", false)
  | 26 => ("CoreTestsModel", "newRules", "I", false)
  | 27 => ("CoreTestsModel", "newKinds", "[I", true)
  | 28 => ("CoreTestsModel", "newPatterns", "[I", true)
  | 29 => ("CoreTestsModel", "newDraws", "[I", true)
  | 30 => ("CoreTestsModel", "newMany", "[I", true)
  | 31 => ("CoreTestsModel", "newChains", "[I", true)
  | 32 => ("CoreTestsModel", "newA", "[I", true)
  | 33 => ("CoreTestsModel", "newB", "[I", true)
  | 34 => ("CoreTestsModel", "loads", "[I", true)
  | 35 => ("CoreTestsModel", "laidOn", "[I", true)
  | 36 => ("CoreTestsModel", "takes", "[I", true)
  | 37 => ("CoreTestsModel", "reason", "I", false)
  | 38 => ("CoreTestsModel", "told", "I", false)
  | 39 => ("CoreTestsModel", "aside", "[I", true)
  | 40 => ("CoreTestsModel", "filled", "[I", true)
  | 41 => ("CoreTestsModel", "upTo", "[I", true)
  | 42 => ("CoreTestsModel", "order", "[I", true)
  | _ => ("CoreTestsModel", "bestOrder", "[I", true)
def tyX10 : Nat → FieldType := fun k => match k with
  | 0 => .int
  | 1 => .int
  | 2 => .int
  | 3 => .int
  | 4 => .array .int
  | 5 => .array .int
  | 6 => .array .int
  | 7 => .array .int
  | 8 => .array .int
  | 9 => .array .int
  | 10 => .array .int
  | 11 => .array .int
  | 12 => .int
  | 13 => .array .int
  | 14 => .int
  | 15 => .array .int
  | 16 => .int
  | 17 => .array .int
  | 18 => .int
  | 19 => .array .int
  | 20 => .int
  | 21 => .int
  | 22 => .int
  | 23 => .int
  | 24 => .int
  | 25 => .int
  | 26 => .int
  | 27 => .array .int
  | 28 => .array .int
  | 29 => .array .int
  | 30 => .array .int
  | 31 => .array .int
  | 32 => .array .int
  | 33 => .array .int
  | 34 => .array .int
  | 35 => .array .int
  | 36 => .array .int
  | 37 => .int
  | 38 => .int
  | 39 => .array .int
  | 40 => .array .int
  | 41 => .array .int
  | 42 => .array .int
  | _ => .array .int
abbrev wsX100 : List Cond := u_ws RX10 TX10 44
theorem nmX10 : ∀ a, a < 44 → ∀ b, b < 44 → a ≠ b → (TX10 a).2.1 ≠ (TX10 b).2.1 := by decide +kernel
theorem tyX10_ok : ∀ k, k < 44 → parseFieldDescriptor (TX10 k).2.2.1 = some (tyX10 k) := by decide +kernel
abbrev cX10_init : ByteArray := prog_12_method_1_code
def yX10_init : MethodName := ⟨RX10, "<init>", "()V"⟩
abbrev cX10_in : ByteArray := prog_12_method_2_code
def yX10_in : MethodName := ⟨RX10, "in", "(JJJ)Z"⟩
abbrev cX10_isCore : ByteArray := prog_12_method_3_code
def yX10_isCore : MethodName := ⟨RX10, "isCore", "(I)Z"⟩
abbrev cX10_isWidth : ByteArray := prog_12_method_4_code
def yX10_isWidth : MethodName := ⟨RX10, "isWidth", "(I)Z"⟩
abbrev cX10_isPut : ByteArray := prog_12_method_5_code
def yX10_isPut : MethodName := ⟨RX10, "isPut", "(I)Z"⟩
abbrev cX10_tell : ByteArray := prog_12_method_6_code
def yX10_tell : MethodName := ⟨RX10, "tell", "(IIIJ)V"⟩
abbrev cX10_takeCores : ByteArray := prog_12_method_7_code
def yX10_takeCores : MethodName := ⟨RX10, "takeCores", "()V"⟩
abbrev cX10_write : ByteArray := prog_12_method_8_code
def yX10_write : MethodName := ⟨RX10, "write", "(I)I"⟩
abbrev cX10_wipe : ByteArray := prog_12_method_9_code
def yX10_wipe : MethodName := ⟨RX10, "wipe", "()I"⟩
abbrev cX10_letter : ByteArray := prog_12_method_10_code
def yX10_letter : MethodName := ⟨RX10, "letter", "()I"⟩
abbrev cX10_isSign : ByteArray := prog_12_method_11_code
def yX10_isSign : MethodName := ⟨RX10, "isSign", "(I)Z"⟩
abbrev cX10_takesNumber : ByteArray := prog_12_method_12_code
def yX10_takesNumber : MethodName := ⟨RX10, "takesNumber", "(II)Z"⟩
abbrev cX10_takesRow : ByteArray := prog_12_method_13_code
def yX10_takesRow : MethodName := ⟨RX10, "takesRow", "(I)Z"⟩
abbrev cX10_takesCore : ByteArray := prog_12_method_14_code
def yX10_takesCore : MethodName := ⟨RX10, "takesCore", "()Z"⟩
abbrev cX10_takesRule : ByteArray := prog_12_method_15_code
def yX10_takesRule : MethodName := ⟨RX10, "takesRule", "()Z"⟩
abbrev cX10_takesItem : ByteArray := prog_12_method_16_code
def yX10_takesItem : MethodName := ⟨RX10, "takesItem", "()Z"⟩
abbrev cX10_fault : ByteArray := prog_12_method_17_code
def yX10_fault : MethodName := ⟨RX10, "fault", "()I"⟩
abbrev cX10_lay : ByteArray := prog_12_method_18_code
def yX10_lay : MethodName := ⟨RX10, "lay", "()I"⟩
abbrev cX10_wrapOf : ByteArray := prog_12_method_19_code
def yX10_wrapOf : MethodName := ⟨RX10, "wrapOf", "(II)I"⟩
abbrev cX10_idealOf : ByteArray := prog_12_method_20_code
def yX10_idealOf : MethodName := ⟨RX10, "idealOf", "(II)I"⟩
abbrev cX10_takesBy : ByteArray := prog_12_method_21_code
def yX10_takesBy : MethodName := ⟨RX10, "takesBy", "(III)I"⟩
abbrev cX10_layTakes : ByteArray := prog_12_method_22_code
def yX10_layTakes : MethodName := ⟨RX10, "layTakes", "()V"⟩
abbrev cX10_leastTakes : ByteArray := prog_12_method_23_code
def yX10_leastTakes : MethodName := ⟨RX10, "leastTakes", "(I)I"⟩
abbrev cX10_stairsOf : ByteArray := prog_12_method_24_code
def yX10_stairsOf : MethodName := ⟨RX10, "stairsOf", "(I)I"⟩
abbrev cX10_core : ByteArray := prog_12_method_25_code
def yX10_core : MethodName := ⟨RX10, "core", "(II)I"⟩
abbrev cX10_chain : ByteArray := prog_12_method_26_code
def yX10_chain : MethodName := ⟨RX10, "chain", "(II)I"⟩
abbrev cX10_wrap : ByteArray := prog_12_method_27_code
def yX10_wrap : MethodName := ⟨RX10, "wrap", "(III)I"⟩
abbrev cX10_line : ByteArray := prog_12_method_28_code
def yX10_line : MethodName := ⟨RX10, "line", "(III)I"⟩
abbrev cX10_endOf : ByteArray := prog_12_method_29_code
def yX10_endOf : MethodName := ⟨RX10, "endOf", "(I)I"⟩
abbrev cX10_lengthOf : ByteArray := prog_12_method_30_code
def yX10_lengthOf : MethodName := ⟨RX10, "lengthOf", "()I"⟩
abbrev cX10_runsIn : ByteArray := prog_12_method_31_code
def yX10_runsIn : MethodName := ⟨RX10, "runsIn", "(II)I"⟩
abbrev cX10_isAhead : ByteArray := prog_12_method_32_code
def yX10_isAhead : MethodName := ⟨RX10, "isAhead", "(III)Z"⟩
abbrev cX10_isTooMuch : ByteArray := prog_12_method_33_code
def yX10_isTooMuch : MethodName := ⟨RX10, "isTooMuch", "(IIIII)Z"⟩
abbrev cX10_judge : ByteArray := prog_12_method_34_code
def yX10_judge : MethodName := ⟨RX10, "judge", "(IIII)I"⟩
abbrev cX10_soonestOf : ByteArray := prog_12_method_35_code
def yX10_soonestOf : MethodName := ⟨RX10, "soonestOf", "(III)I"⟩
abbrev cX10_note : ByteArray := prog_12_method_36_code
def yX10_note : MethodName := ⟨RX10, "note", "()V"⟩
abbrev cX10_putAt : ByteArray := prog_12_method_37_code
def yX10_putAt : MethodName := ⟨RX10, "putAt", "(III)V"⟩
abbrev cX10_put : ByteArray := prog_12_method_38_code
def yX10_put : MethodName := ⟨RX10, "put", "(III)I"⟩
abbrev cX10_take : ByteArray := prog_12_method_39_code
def yX10_take : MethodName := ⟨RX10, "take", "(I)I"⟩
abbrev cX10_fills : ByteArray := prog_12_method_40_code
def yX10_fills : MethodName := ⟨RX10, "fills", "(II)Z"⟩
abbrev cX10_nextCore : ByteArray := prog_12_method_41_code
def yX10_nextCore : MethodName := ⟨RX10, "nextCore", "()I"⟩
abbrev cX10_putAside : ByteArray := prog_12_method_42_code
def yX10_putAside : MethodName := ⟨RX10, "putAside", "(Z)V"⟩
abbrev cX10_fill : ByteArray := prog_12_method_43_code
def yX10_fill : MethodName := ⟨RX10, "fill", "()I"⟩
abbrev cX10_keepFilled : ByteArray := prog_12_method_44_code
def yX10_keepFilled : MethodName := ⟨RX10, "keepFilled", "()V"⟩
abbrev cX10_rename : ByteArray := prog_12_method_45_code
def yX10_rename : MethodName := ⟨RX10, "rename", "(II)I"⟩
abbrev cX10_undo : ByteArray := prog_12_method_46_code
def yX10_undo : MethodName := ⟨RX10, "undo", "()I"⟩
abbrev cX10_why : ByteArray := prog_12_method_47_code
def yX10_why : MethodName := ⟨RX10, "why", "(I)I"⟩
abbrev cX10_soonest : ByteArray := prog_12_method_48_code
def yX10_soonest : MethodName := ⟨RX10, "soonest", "(II)I"⟩
abbrev cX10_runs : ByteArray := prog_12_method_49_code
def yX10_runs : MethodName := ⟨RX10, "runs", "(II)I"⟩
abbrev cX10_upward : ByteArray := prog_12_method_50_code
def yX10_upward : MethodName := ⟨RX10, "upward", "(II)I"⟩
abbrev cX10_areaOf : ByteArray := prog_12_method_51_code
def yX10_areaOf : MethodName := ⟨RX10, "areaOf", "()I"⟩
abbrev cX10_pathOf : ByteArray := prog_12_method_52_code
def yX10_pathOf : MethodName := ⟨RX10, "pathOf", "()I"⟩
abbrev cX10_drawnOf : ByteArray := prog_12_method_53_code
def yX10_drawnOf : MethodName := ⟨RX10, "drawnOf", "()I"⟩
abbrev cX10_bound : ByteArray := prog_12_method_54_code
def yX10_bound : MethodName := ⟨RX10, "bound", "(I)I"⟩
abbrev cX10_nextOrder : ByteArray := prog_12_method_55_code
def yX10_nextOrder : MethodName := ⟨RX10, "nextOrder", "()Z"⟩
abbrev cX10_swap : ByteArray := prog_12_method_56_code
def yX10_swap : MethodName := ⟨RX10, "swap", "(II)V"⟩
abbrev cX10_goOrder : ByteArray := prog_12_method_57_code
def yX10_goOrder : MethodName := ⟨RX10, "goOrder", "(I)I"⟩
abbrev cX10_bestBy : ByteArray := prog_12_method_58_code
def yX10_bestBy : MethodName := ⟨RX10, "bestBy", "(I)I"⟩
abbrev cX10_best : ByteArray := prog_12_method_59_code
def yX10_best : MethodName := ⟨RX10, "best", "(I)I"⟩
abbrev cX10_costs : ByteArray := prog_12_method_60_code
def yX10_costs : MethodName := ⟨RX10, "costs", "(I)I"⟩
abbrev cX10_seen : ByteArray := prog_12_method_61_code
def yX10_seen : MethodName := ⟨RX10, "seen", "(III)I"⟩
abbrev cX10_forget : ByteArray := prog_12_method_62_code
def yX10_forget : MethodName := ⟨RX10, "forget", "()I"⟩
abbrev cX10_kinds : ByteArray := prog_12_method_63_code
def yX10_kinds : MethodName := ⟨RX10, "kinds", "(I)I"⟩
abbrev cX10_keep : ByteArray := prog_12_method_64_code
def yX10_keep : MethodName := ⟨RX10, "keep", "()I"⟩
abbrev cX10_back : ByteArray := prog_12_method_65_code
def yX10_back : MethodName := ⟨RX10, "back", "()I"⟩
abbrev cX10_putMany : ByteArray := prog_12_method_66_code
def yX10_putMany : MethodName := ⟨RX10, "putMany", "()I"⟩
abbrev cX10_lengthNow : ByteArray := prog_12_method_67_code
def yX10_lengthNow : MethodName := ⟨RX10, "lengthNow", "()I"⟩
abbrev cX10_count : ByteArray := prog_12_method_68_code
def yX10_count : MethodName := ⟨RX10, "count", "(I)I"⟩
def RJ9 : String := "java/lang/Math"
def TJ9 : u_T := fun k => match k with
  | _ => ("", "", "", false)
def tyJ9 : Nat → FieldType := fun k => match k with
  | _ => .int
abbrev wsJ90 : List Cond := u_ws RJ9 TJ9 0
theorem nmJ9 : ∀ a, a < 0 → ∀ b, b < 0 → a ≠ b → (TJ9 a).2.1 ≠ (TJ9 b).2.1 := by decide +kernel
theorem tyJ9_ok : ∀ k, k < 0 → parseFieldDescriptor (TJ9 k).2.2.1 = some (tyJ9 k) := by decide +kernel
abbrev cJ9_max_7cf53 : ByteArray := prog_13_method_65_code
def yJ9_max_7cf53 : MethodName := ⟨RJ9, "max", "(II)I"⟩
abbrev cJ9_min_7cf53 : ByteArray := prog_13_method_69_code
def yJ9_min_7cf53 : MethodName := ⟨RJ9, "min", "(II)I"⟩
def RJ0 : String := "java/lang/String"
def TJ0 : u_T := fun k => match k with
  | _ => ("", "", "", false)
def tyJ0 : Nat → FieldType := fun k => match k with
  | _ => .int
abbrev wsJ00 : List Cond := u_ws RJ0 TJ0 0
theorem nmJ0 : ∀ a, a < 0 → ∀ b, b < 0 → a ≠ b → (TJ0 a).2.1 ≠ (TJ0 b).2.1 := by decide +kernel
theorem tyJ0_ok : ∀ k, k < 0 → parseFieldDescriptor (TJ0 k).2.2.1 = some (tyJ0 k) := by decide +kernel
abbrev cJ0_length_8abf5 : ByteArray := prog_14_method_54_code
def yJ0_length_8abf5 : MethodName := ⟨RJ0, "length", "()I"⟩
abbrev cJ0_charAt_5068e : ByteArray := prog_14_method_56_code
def yJ0_charAt_5068e : MethodName := ⟨RJ0, "charAt", "(I)C"⟩
abbrev cJ0_coder_7d493 : ByteArray := prog_14_method_152_code
def yJ0_coder_7d493 : MethodName := ⟨RJ0, "coder", "()B"⟩
abbrev cJ0_isLatin1_aae02 : ByteArray := prog_14_method_154_code
def yJ0_isLatin1_aae02 : MethodName := ⟨RJ0, "isLatin1", "()Z"⟩
abbrev cJ0_checkIndex_df160 : ByteArray := prog_14_method_155_code
def yJ0_checkIndex_df160 : MethodName := ⟨RJ0, "checkIndex", "(II)V"⟩
def RJ1 : String := "java/lang/StringLatin1"
def TJ1 : u_T := fun k => match k with
  | _ => ("", "", "", false)
def tyJ1 : Nat → FieldType := fun k => match k with
  | _ => .int
abbrev wsJ10 : List Cond := u_ws RJ1 TJ1 0
theorem nmJ1 : ∀ a, a < 0 → ∀ b, b < 0 → a ≠ b → (TJ1 a).2.1 ≠ (TJ1 b).2.1 := by decide +kernel
theorem tyJ1_ok : ∀ k, k < 0 → parseFieldDescriptor (TJ1 k).2.2.1 = some (tyJ1 k) := by decide +kernel
abbrev cJ1_charAt_3b067 : ByteArray := prog_15_method_2_code
def yJ1_charAt_3b067 : MethodName := ⟨RJ1, "charAt", "([BI)C"⟩
def RJ2 : String := "java/lang/StringUTF16"
def TJ2 : u_T := fun k => match k with
  | _ => ("", "", "", false)
def tyJ2 : Nat → FieldType := fun k => match k with
  | _ => .int
abbrev wsJ20 : List Cond := u_ws RJ2 TJ2 0
theorem nmJ2 : ∀ a, a < 0 → ∀ b, b < 0 → a ≠ b → (TJ2 a).2.1 ≠ (TJ2 b).2.1 := by decide +kernel
theorem tyJ2_ok : ∀ k, k < 0 → parseFieldDescriptor (TJ2 k).2.2.1 = some (tyJ2 k) := by decide +kernel
abbrev cJ2_getChar_3b067 : ByteArray := prog_16_method_5_code
def yJ2_getChar_3b067 : MethodName := ⟨RJ2, "getChar", "([BI)C"⟩
abbrev cJ2_length_9d52b : ByteArray := prog_16_method_6_code
def yJ2_length_9d52b : MethodName := ⟨RJ2, "length", "([B)I"⟩
abbrev cJ2_charAt_3b067 : ByteArray := prog_16_method_83_code
def yJ2_charAt_3b067 : MethodName := ⟨RJ2, "charAt", "([BI)C"⟩
abbrev cJ2_checkIndex_2214a : ByteArray := prog_16_method_91_code
def yJ2_checkIndex_2214a : MethodName := ⟨RJ2, "checkIndex", "(I[B)V"⟩
def RJ10 : String := "java/lang/System"
def TJ10 : u_T := fun k => match k with
  | _ => ("", "", "", false)
def tyJ10 : Nat → FieldType := fun k => match k with
  | _ => .int
abbrev wsJ100 : List Cond := u_ws RJ10 TJ10 0
theorem nmJ10 : ∀ a, a < 0 → ∀ b, b < 0 → a ≠ b → (TJ10 a).2.1 ≠ (TJ10 b).2.1 := by decide +kernel
theorem tyJ10_ok : ∀ k, k < 0 → parseFieldDescriptor (TJ10 k).2.2.1 = some (tyJ10 k) := by decide +kernel
def RJ3 : String := "jdk/internal/util/Preconditions"
def TJ3 : u_T := fun k => match k with
  | _ => ("", "", "", false)
def tyJ3 : Nat → FieldType := fun k => match k with
  | _ => .int
abbrev wsJ30 : List Cond := u_ws RJ3 TJ3 0
theorem nmJ3 : ∀ a, a < 0 → ∀ b, b < 0 → a ≠ b → (TJ3 a).2.1 ≠ (TJ3 b).2.1 := by decide +kernel
theorem tyJ3_ok : ∀ k, k < 0 → parseFieldDescriptor (TJ3 k).2.2.1 = some (tyJ3 k) := by decide +kernel
abbrev cJ3_checkIndex_8e157 : ByteArray := prog_18_method_11_code
def yJ3_checkIndex_8e157 : MethodName := ⟨RJ3, "checkIndex", "(IILjava/util/function/BiFunction;)I"⟩
def RL : String := "CoreTestsLaw"
abbrev cL_law : ByteArray := code
def yL_law : MethodName := ⟨RL, "law", "([I)Z"⟩
def wsL_law_r1 : List Cond := [Cond.classLink RL 7 RX9, Cond.instantiable RX9 12, Cond.initialized RX9, Cond.classLink RL 10 RX10, Cond.instantiable RX10 44, Cond.initialized RX10, Cond.methodLink RL 9 yX9_init, Cond.instanceMethod yX9_init, Cond.code yX9_init cX9_init 2 none, Cond.methodLink RX9 3 objectInit, Cond.instanceMethod objectInit, Cond.code objectInit ⟨#[0xb1]⟩ 1 none, Cond.classLink RX9 9 RX8, Cond.instantiable RX8 2, Cond.initialized RX8, Cond.fieldLink RX9 12 "CoreTests" "text" "LCoreTests$Text;", Cond.classLink RX9 16 RX4, Cond.instantiable RX4 2, Cond.initialized RX4, Cond.fieldLink RX9 21 "CoreTests" "reader" "LCoreTests$Reader;", Cond.classLink RX9 25 RX2, Cond.instantiable RX2 15, Cond.initialized RX2, Cond.fieldLink RX9 28 "CoreTests" "draft" "LCoreTests$Chip;"]
def wsL_law_r2 : List Cond := [Cond.fieldLink RX9 32 "CoreTests" "chip" "LCoreTests$Chip;", Cond.classLink RX9 35 RX3, Cond.instantiable RX3 6, Cond.initialized RX3, Cond.fieldLink RX9 40 "CoreTests" "plan" "LCoreTests$Plan;", Cond.classLink RX9 44 RX0, Cond.instantiable RX0 2, Cond.initialized RX0, Cond.fieldLink RX9 47 "CoreTests" "bounds" "LCoreTests$Bounds;", Cond.classLink RX9 51 RX5, Cond.instantiable RX5 10, Cond.initialized RX5, Cond.fieldLink RX9 54 "CoreTests" "search" "LCoreTests$Search;", Cond.arrayClass .int, Cond.fieldLink RX9 58 "CoreTests" "before" "[I", Cond.classLink RX9 62 RX6, Cond.instantiable RX6 2, Cond.initialized RX6, Cond.fieldLink RX9 67 "CoreTests" "history" "LCoreTests$Shelf;", Cond.fieldLink RX9 71 "CoreTests" "shelf" "LCoreTests$Shelf;", Cond.classLink RX9 74 RX1, Cond.instantiable RX1 2, Cond.initialized RX1, Cond.fieldLink RX9 77 "CoreTests" "cause" "LCoreTests$Cause;"]
def wsL_law_r3 : List Cond := [Cond.classLink RX9 81 RX7, Cond.instantiable RX7 5, Cond.initialized RX7, Cond.fieldLink RX9 84 "CoreTests" "sightings" "LCoreTests$Sightings;", Cond.instanceMethod yX8_init, Cond.code yX8_init cX8_init 1 none, Cond.methodLink RX8 3 objectInit, Cond.fieldLink RX8 9 "CoreTests$Text" "letters" "[I", Cond.fieldLink RX8 15 "CoreTests$Text" "length" "I", Cond.methodLink RX9 18 yX4_init, Cond.instanceMethod yX4_init, Cond.code yX4_init cX4_init 2 none, Cond.methodLink RX4 3 objectInit, Cond.fieldLink RX4 9 "CoreTests$Reader" "at" "I", Cond.fieldLink RX4 15 "CoreTests$Reader" "text" "LCoreTests$Text;", Cond.instanceMethod yX2_init, Cond.code yX2_init cX2_init 1 none, Cond.methodLink RX2 3 objectInit, Cond.fieldLink RX2 9 "CoreTests$Chip" "kind" "[I", Cond.fieldLink RX2 15 "CoreTests$Chip" "patterns" "[I", Cond.fieldLink RX2 18 "CoreTests$Chip" "draws" "[I", Cond.fieldLink RX2 21 "CoreTests$Chip" "chains" "[I", Cond.classLink RX2 24 "[[I", Cond.fieldLink RX2 26 "CoreTests$Chip" "lengths" "[[I"]
def wsL_law_r4 : List Cond := [Cond.fieldLink RX2 29 "CoreTests$Chip" "ruleAhead" "[I", Cond.fieldLink RX2 32 "CoreTests$Chip" "ruleBehind" "[I", Cond.fieldLink RX2 35 "CoreTests$Chip" "load" "[[I", Cond.fieldLink RX2 38 "CoreTests$Chip" "laidOn" "[[I", Cond.fieldLink RX2 41 "CoreTests$Chip" "loads" "[I", Cond.fieldLink RX2 44 "CoreTests$Chip" "longestFirst" "[I", Cond.methodLink RX9 37 yX3_init, Cond.instanceMethod yX3_init, Cond.code yX3_init cX3_init 2 none, Cond.methodLink RX3 3 objectInit, Cond.fieldLink RX3 9 "CoreTests$Plan" "kind" "[I", Cond.fieldLink RX3 15 "CoreTests$Plan" "width" "[I", Cond.fieldLink RX3 18 "CoreTests$Plan" "from" "[I", Cond.fieldLink RX3 21 "CoreTests$Plan" "until" "[I", Cond.fieldLink RX3 24 "CoreTests$Plan" "ahead" "[I", Cond.fieldLink RX3 27 "CoreTests$Plan" "chip" "LCoreTests$Chip;", Cond.methodLink RX9 46 yX0_init, Cond.instanceMethod yX0_init, Cond.code yX0_init cX0_init 2 none, Cond.methodLink RX0 3 objectInit, Cond.fieldLink RX0 9 "CoreTests$Bounds" "longest" "[I", Cond.fieldLink RX0 15 "CoreTests$Bounds" "chip" "LCoreTests$Chip;", Cond.methodLink RX9 53 yX5_init, Cond.instanceMethod yX5_init]
def wsL_law_r5 : List Cond := [Cond.code yX5_init cX5_init 2 none, Cond.methodLink RX5 3 objectInit, Cond.fieldLink RX5 9 "CoreTests$Search" "order" "[I", Cond.classLink RX5 15 "[[I", Cond.fieldLink RX5 17 "CoreTests$Search" "orders" "[[I", Cond.fieldLink RX5 20 "CoreTests$Search" "lengths" "[I", Cond.fieldLink RX5 23 "CoreTests$Search" "searchedFor" "[I", Cond.fieldLink RX5 26 "CoreTests$Search" "slot" "I", Cond.constant RX5 30 (1000000), Cond.fieldLink RX5 31 "CoreTests$Search" "least" "I", Cond.fieldLink RX5 34 "CoreTests$Search" "floor" "I", Cond.fieldLink RX5 37 "CoreTests$Search" "chip" "LCoreTests$Chip;", Cond.classLink RX5 41 RX3, Cond.fieldLink RX5 46 "CoreTests$Search" "trial" "LCoreTests$Plan;", Cond.classLink RX5 50 RX0, Cond.fieldLink RX5 53 "CoreTests$Search" "bounds" "LCoreTests$Bounds;", Cond.methodLink RX5 43 yX3_init, Cond.methodLink RX5 52 yX0_init, Cond.methodLink RX9 64 yX6_init, Cond.instanceMethod yX6_init, Cond.code yX6_init cX6_init 2 none, Cond.methodLink RX6 3 objectInit, Cond.fieldLink RX6 9 "CoreTests$Shelf" "held" "I", Cond.methodLink RX6 15 Lib.Math.max.name]
def wsL_law_r6 : List Cond := [Cond.static Lib.Math.max.name, Cond.initialized "java/lang/Math", Cond.code Lib.Math.max.name Lib.Math.max.code 2 (some .int), Cond.classLink RX6 21 "[[I", Cond.fieldLink RX6 23 "CoreTests$Shelf" "rows" "[[I", Cond.instanceMethod yX1_init, Cond.code yX1_init cX1_init 1 none, Cond.methodLink RX1 3 objectInit, Cond.fieldLink RX1 9 "CoreTests$Cause" "numbers" "[I", Cond.fieldLink RX1 15 "CoreTests$Cause" "many" "I", Cond.methodLink RX9 83 yX7_init, Cond.instanceMethod yX7_init, Cond.code yX7_init cX7_init 2 none, Cond.methodLink RX7 3 objectInit, Cond.fieldLink RX7 9 "CoreTests$Sightings" "cores" "[I", Cond.fieldLink RX7 15 "CoreTests$Sightings" "widths" "[I", Cond.fieldLink RX7 18 "CoreTests$Sightings" "cycles" "[I", Cond.fieldLink RX7 21 "CoreTests$Sightings" "many" "I", Cond.fieldLink RX7 25 "CoreTests$Sightings" "chip" "LCoreTests$Chip;", Cond.methodLink RX9 90 yJ0_length_8abf5, Cond.instanceMethod yJ0_length_8abf5, Cond.selects RJ0 yJ0_length_8abf5 yJ0_length_8abf5, Cond.initialized RJ0, Cond.code yJ0_length_8abf5 cJ0_length_8abf5 1 (some .int)]
def wsL_law_r7 : List Cond := [Cond.fieldLink RJ0 9 "java/lang/String" "value" "[B", Cond.methodLink RJ0 335 yJ0_coder_7d493, Cond.instanceMethod yJ0_coder_7d493, Cond.selects RJ0 yJ0_coder_7d493 yJ0_coder_7d493, Cond.code yJ0_coder_7d493 cJ0_coder_7d493 1 (some .byte), Cond.fieldLink RJ0 38 "java/lang/String" "COMPACT_STRINGS" "Z", Cond.fieldLink RJ0 15 "java/lang/String" "coder" "B", Cond.methodLink RX9 96 yJ0_charAt_5068e, Cond.instanceMethod yJ0_charAt_5068e, Cond.selects RJ0 yJ0_charAt_5068e yJ0_charAt_5068e, Cond.code yJ0_charAt_5068e cJ0_charAt_5068e 2 (some .char), Cond.methodLink RJ0 492 yJ0_isLatin1_aae02, Cond.instanceMethod yJ0_isLatin1_aae02, Cond.selects RJ0 yJ0_isLatin1_aae02 yJ0_isLatin1_aae02, Cond.code yJ0_isLatin1_aae02 cJ0_isLatin1_aae02 1 (some .boolean), Cond.methodLink RJ0 495 yJ1_charAt_3b067, Cond.static yJ1_charAt_3b067, Cond.initialized RJ1, Cond.code yJ1_charAt_3b067 cJ1_charAt_3b067 2 (some .char), Cond.methodLink RJ1 9 yJ0_checkIndex_df160, Cond.static yJ0_checkIndex_df160, Cond.code yJ0_checkIndex_df160 cJ0_checkIndex_df160 2 none, Cond.fieldLink RJ0 1053 "jdk/internal/util/Preconditions" "SIOOBE_FORMATTER" "Ljava/util/function/BiFunction;", Cond.methodLink RJ0 1059 yJ3_checkIndex_8e157]
def wsL_law_r8 : List Cond := [Cond.static yJ3_checkIndex_8e157, Cond.initialized RJ3, Cond.code yJ3_checkIndex_8e157 cJ3_checkIndex_8e157 3 (some .int), Cond.methodLink RJ0 498 yJ2_charAt_3b067, Cond.static yJ2_charAt_3b067, Cond.initialized RJ2, Cond.code yJ2_charAt_3b067 cJ2_charAt_3b067 2 (some .char), Cond.methodLink RJ2 67 yJ2_checkIndex_2214a, Cond.static yJ2_checkIndex_2214a, Cond.code yJ2_checkIndex_2214a cJ2_checkIndex_2214a 2 none, Cond.methodLink RJ2 48 yJ2_length_9d52b, Cond.static yJ2_length_9d52b, Cond.code yJ2_length_9d52b cJ2_length_9d52b 1 (some .int), Cond.methodLink RJ2 414 yJ0_checkIndex_df160, Cond.methodLink RJ2 71 yJ2_getChar_3b067, Cond.static yJ2_getChar_3b067, Cond.code yJ2_getChar_3b067 cJ2_getChar_3b067 2 (some .char), Cond.fieldLink RJ2 44 "java/lang/StringUTF16" "$assertionsDisabled" "Z", Cond.fieldLink RJ2 59 "java/lang/StringUTF16" "HI_BYTE_SHIFT" "I", Cond.fieldLink RJ2 63 "java/lang/StringUTF16" "LO_BYTE_SHIFT" "I", Cond.methodLink RX9 100 yX8_add, Cond.instanceMethod yX8_add, Cond.selects RX8 yX8_add yX8_add, Cond.code yX8_add cX8_add 2 none]
def wsL_law_r9 : List Cond := [Cond.methodLink RX9 103 yX9_layText, Cond.instanceMethod yX9_layText, Cond.selects RX9 yX9_layText yX9_layText, Cond.code yX9_layText cX9_layText 2 (some .int), Cond.fieldLink RX9 194 "CoreTests$Chip" "cores" "I", Cond.fieldLink RX9 120 "CoreTests$Plan" "kind" "[I", Cond.fieldLink RX9 276 "CoreTests$Chip" "kind" "[I", Cond.methodLink RX9 112 yX4_firstFault, Cond.instanceMethod yX4_firstFault, Cond.selects RX4 yX4_firstFault yX4_firstFault, Cond.code yX4_firstFault cX4_firstFault 4 (some .int), Cond.fieldLink RX4 24 "CoreTests$Text" "length" "I", Cond.methodLink RX4 19 yX2_clear, Cond.instanceMethod yX2_clear, Cond.selects RX2 yX2_clear yX2_clear, Cond.code yX2_clear cX2_clear 1 none, Cond.fieldLink RX2 47 "CoreTests$Chip" "lines" "I", Cond.fieldLink RX2 51 "CoreTests$Chip" "power" "I", Cond.fieldLink RX2 54 "CoreTests$Chip" "cores" "I", Cond.fieldLink RX2 57 "CoreTests$Chip" "rules" "I", Cond.methodLink RX4 29 yX4_readItem, Cond.instanceMethod yX4_readItem, Cond.selects RX4 yX4_readItem yX4_readItem, Cond.code yX4_readItem cX4_readItem 4 (some .boolean)]
def wsL_law_r10 : List Cond := [Cond.methodLink RX4 33 yX8_letterAt, Cond.instanceMethod yX8_letterAt, Cond.selects RX8 yX8_letterAt yX8_letterAt, Cond.code yX8_letterAt cX8_letterAt 2 (some .int), Cond.methodLink RX4 37 yX4_readLines, Cond.instanceMethod yX4_readLines, Cond.selects RX4 yX4_readLines yX4_readLines, Cond.code yX4_readLines cX4_readLines 3 (some .boolean), Cond.fieldLink RX4 53 "CoreTests$Chip" "lines" "I", Cond.methodLink RX4 49 yX4_number, Cond.instanceMethod yX4_number, Cond.selects RX4 yX4_number yX4_number, Cond.code yX4_number cX4_number 6 (some .int), Cond.methodLink RX4 92 yX8_figureAt, Cond.instanceMethod yX8_figureAt, Cond.selects RX8 yX8_figureAt yX8_figureAt, Cond.code yX8_figureAt cX8_figureAt 3 (some .int), Cond.methodLink RX4 40 yX4_readPower, Cond.instanceMethod yX4_readPower, Cond.selects RX4 yX4_readPower yX4_readPower, Cond.code yX4_readPower cX4_readPower 3 (some .boolean), Cond.fieldLink RX4 56 "CoreTests$Chip" "power" "I", Cond.methodLink RX4 43 yX4_readCore, Cond.instanceMethod yX4_readCore]
def wsL_law_r11 : List Cond := [Cond.selects RX4 yX4_readCore yX4_readCore, Cond.code yX4_readCore cX4_readCore 7 (some .boolean), Cond.fieldLink RX4 59 "CoreTests$Chip" "cores" "I", Cond.fieldLink RX4 62 "CoreTests$Chip" "lengths" "[[I", Cond.fieldLink RX4 70 "CoreTests$Chip" "kind" "[I", Cond.fieldLink RX4 74 "CoreTests$Chip" "patterns" "[I", Cond.fieldLink RX4 77 "CoreTests$Chip" "draws" "[I", Cond.fieldLink RX4 80 "CoreTests$Chip" "chains" "[I", Cond.methodLink RX4 66 yX4_row, Cond.instanceMethod yX4_row, Cond.selects RX4 yX4_row yX4_row, Cond.code yX4_row cX4_row 4 (some .int), Cond.methodLink RX4 46 yX4_readRule, Cond.instanceMethod yX4_readRule, Cond.selects RX4 yX4_readRule yX4_readRule, Cond.code yX4_readRule cX4_readRule 5 (some .boolean), Cond.fieldLink RX4 83 "CoreTests$Chip" "rules" "I", Cond.fieldLink RX4 86 "CoreTests$Chip" "ruleAhead" "[I", Cond.fieldLink RX4 89 "CoreTests$Chip" "ruleBehind" "[I", Cond.methodLink RX9 270 yX2_layChains, Cond.instanceMethod yX2_layChains, Cond.selects RX2 yX2_layChains yX2_layChains, Cond.code yX2_layChains cX2_layChains 3 none, Cond.methodLink RX2 60 yX2_orderChains]
def wsL_law_r12 : List Cond := [Cond.instanceMethod yX2_orderChains, Cond.selects RX2 yX2_orderChains yX2_orderChains, Cond.code yX2_orderChains cX2_orderChains 4 none, Cond.methodLink RX2 64 yX2_layAt, Cond.instanceMethod yX2_layAt, Cond.selects RX2 yX2_layAt yX2_layAt, Cond.code yX2_layAt cX2_layAt 7 none, Cond.methodLink RX2 75 Lib.Math.max.name, Cond.methodLink RX2 68 yX2_clearLoads, Cond.instanceMethod yX2_clearLoads, Cond.selects RX2 yX2_clearLoads yX2_clearLoads, Cond.code yX2_clearLoads cX2_clearLoads 2 none, Cond.methodLink RX2 71 yX2_leastLoaded, Cond.instanceMethod yX2_leastLoaded, Cond.selects RX2 yX2_leastLoaded yX2_leastLoaded, Cond.code yX2_leastLoaded cX2_leastLoaded 4 (some .int), Cond.methodLink RX9 273 yX3_startOver, Cond.instanceMethod yX3_startOver, Cond.selects RX3 yX3_startOver yX3_startOver, Cond.code yX3_startOver cX3_startOver 3 none, Cond.fieldLink RX3 35 "CoreTests$Chip" "rules" "I", Cond.fieldLink RX3 41 "CoreTests$Chip" "ruleBehind" "[I", Cond.fieldLink RX3 44 "CoreTests$Chip" "ruleAhead" "[I", Cond.methodLink RX3 31 yX3_takeOff]
def wsL_law_r13 : List Cond := [Cond.instanceMethod yX3_takeOff, Cond.selects RX3 yX3_takeOff yX3_takeOff, Cond.code yX3_takeOff cX3_takeOff 2 none, Cond.methodLink RX9 277 yX5_forgetAll, Cond.instanceMethod yX5_forgetAll, Cond.selects RX5 yX5_forgetAll yX5_forgetAll, Cond.code yX5_forgetAll cX5_forgetAll 2 none, Cond.methodLink RX9 259 yX6_clear, Cond.instanceMethod yX6_clear, Cond.selects RX6 yX6_clear yX6_clear, Cond.code yX6_clear cX6_clear 1 none, Cond.methodLink RX9 280 yX1_clear, Cond.instanceMethod yX1_clear, Cond.selects RX1 yX1_clear yX1_clear, Cond.code yX1_clear cX1_clear 1 none, Cond.methodLink RX9 255 yX7_clear, Cond.instanceMethod yX7_clear, Cond.selects RX7 yX7_clear yX7_clear, Cond.code yX7_clear cX7_clear 1 none, Cond.methodLink RX9 106 yX8_clear, Cond.instanceMethod yX8_clear, Cond.selects RX8 yX8_clear yX8_clear, Cond.code yX8_clear cX8_clear 1 none, Cond.methodLink RL 12 yX10_init]
def wsL_law_r14 : List Cond := [Cond.instanceMethod yX10_init, Cond.code yX10_init cX10_init 1 none, Cond.methodLink RX10 1 objectInit, Cond.fieldLink RX10 7 "CoreTestsModel" "patterns" "[I", Cond.fieldLink RX10 13 "CoreTestsModel" "draws" "[I", Cond.fieldLink RX10 16 "CoreTestsModel" "chainMany" "[I", Cond.fieldLink RX10 19 "CoreTestsModel" "chains" "[I", Cond.fieldLink RX10 22 "CoreTestsModel" "ruleA" "[I", Cond.fieldLink RX10 25 "CoreTestsModel" "ruleB" "[I", Cond.fieldLink RX10 28 "CoreTestsModel" "st" "[I", Cond.fieldLink RX10 31 "CoreTestsModel" "past" "[I", Cond.fieldLink RX10 34 "CoreTestsModel" "seen" "[I", Cond.fieldLink RX10 37 "CoreTestsModel" "kept" "[I", Cond.fieldLink RX10 40 "CoreTestsModel" "why" "[I", Cond.fieldLink RX10 43 "CoreTestsModel" "text" "[I", Cond.fieldLink RX10 46 "CoreTestsModel" "newKinds" "[I", Cond.fieldLink RX10 49 "CoreTestsModel" "newPatterns" "[I", Cond.fieldLink RX10 52 "CoreTestsModel" "newDraws" "[I", Cond.fieldLink RX10 55 "CoreTestsModel" "newMany" "[I", Cond.fieldLink RX10 58 "CoreTestsModel" "newChains" "[I", Cond.fieldLink RX10 61 "CoreTestsModel" "newA" "[I", Cond.fieldLink RX10 64 "CoreTestsModel" "newB" "[I", Cond.fieldLink RX10 67 "CoreTestsModel" "loads" "[I", Cond.fieldLink RX10 70 "CoreTestsModel" "laidOn" "[I"]
def wsL_law_r15 : List Cond := [Cond.fieldLink RX10 73 "CoreTestsModel" "takes" "[I", Cond.fieldLink RX10 76 "CoreTestsModel" "aside" "[I", Cond.fieldLink RX10 79 "CoreTestsModel" "filled" "[I", Cond.fieldLink RX10 82 "CoreTestsModel" "upTo" "[I", Cond.fieldLink RX10 85 "CoreTestsModel" "order" "[I", Cond.fieldLink RX10 88 "CoreTestsModel" "bestOrder" "[I", Cond.fieldLink RX10 91 "CoreTestsModel" "lines" "I", Cond.fieldLink RX10 95 "CoreTestsModel" "power" "I", Cond.constantLong RX10 98 (9433), Cond.constantLong RX10 104 (72), Cond.constantLong RX10 106 (5551), Cond.constantLong RX10 108 (8643), Cond.constantLong RX10 110 (31), Cond.fieldLink RX10 112 "CoreTestsModel" "newCores" "I", Cond.fieldLink RX10 115 "CoreTestsModel" "cores" "I", Cond.fieldLink RX10 121 "CoreTestsModel" "rules" "I", Cond.methodLink RX10 100 yX10_tell, Cond.instanceMethod yX10_tell, Cond.selects RX10 yX10_tell yX10_tell, Cond.code yX10_tell cX10_tell 11 none, Cond.constantLong RX10 128 (10), Cond.methodLink RX10 118 yX10_takeCores, Cond.instanceMethod yX10_takeCores, Cond.selects RX10 yX10_takeCores yX10_takeCores]
def wsL_law_r16 : List Cond := [Cond.code yX10_takeCores cX10_takeCores 3 none, Cond.methodLink RL 13 yX9_write, Cond.instanceMethod yX9_write, Cond.selects RX9 yX9_write yX9_write, Cond.code yX9_write cX9_write 2 (some .int), Cond.fieldLink RX9 109 "CoreTests$Text" "length" "I", Cond.methodLink RL 17 yX10_write, Cond.instanceMethod yX10_write, Cond.selects RX10 yX10_write yX10_write, Cond.code yX10_write cX10_write 2 (some .int), Cond.constantLong RX10 130 (32), Cond.constantLong RX10 132 (126), Cond.fieldLink RX10 134 "CoreTestsModel" "length" "I", Cond.methodLink RX10 124 yX10_in, Cond.static yX10_in, Cond.code yX10_in cX10_in 6 (some .boolean), Cond.methodLink RL 18 yX9_wipe, Cond.instanceMethod yX9_wipe, Cond.selects RX9 yX9_wipe yX9_wipe, Cond.code yX9_wipe cX9_wipe 2 (some .int), Cond.methodLink RL 22 yX10_wipe, Cond.instanceMethod yX10_wipe, Cond.selects RX10 yX10_wipe yX10_wipe, Cond.code yX10_wipe cX10_wipe 2 (some .int)]
def wsL_law_r17 : List Cond := [Cond.methodLink RL 23 yX9_fault, Cond.instanceMethod yX9_fault, Cond.selects RX9 yX9_fault yX9_fault, Cond.code yX9_fault cX9_fault 1 (some .int), Cond.methodLink RL 26 yX10_fault, Cond.instanceMethod yX10_fault, Cond.selects RX10 yX10_fault yX10_fault, Cond.code yX10_fault cX10_fault 2 (some .int), Cond.fieldLink RX10 137 "CoreTestsModel" "place" "I", Cond.fieldLink RX10 169 "CoreTestsModel" "newLines" "I", Cond.fieldLink RX10 172 "CoreTestsModel" "newPower" "I", Cond.fieldLink RX10 166 "CoreTestsModel" "newRules" "I", Cond.methodLink RX10 182 yX10_takesItem, Cond.instanceMethod yX10_takesItem, Cond.selects RX10 yX10_takesItem yX10_takesItem, Cond.code yX10_takesItem cX10_takesItem 3 (some .boolean), Cond.fieldLink RX10 144 "CoreTestsModel" "number" "I", Cond.methodLink RX10 140 yX10_letter, Cond.instanceMethod yX10_letter, Cond.selects RX10 yX10_letter yX10_letter, Cond.code yX10_letter cX10_letter 1 (some .int), Cond.methodLink RX10 155 yX10_takesNumber, Cond.instanceMethod yX10_takesNumber, Cond.selects RX10 yX10_takesNumber yX10_takesNumber]
def wsL_law_r18 : List Cond := [Cond.code yX10_takesNumber cX10_takesNumber 4 (some .boolean), Cond.constantLong RX10 147 (48), Cond.constantLong RX10 149 (57), Cond.constantLong RX10 151 (2), Cond.methodLink RX10 159 yX10_isSign, Cond.instanceMethod yX10_isSign, Cond.selects RX10 yX10_isSign yX10_isSign, Cond.code yX10_isSign cX10_isSign 3 (some .boolean), Cond.methodLink RX10 175 yX10_takesCore, Cond.instanceMethod yX10_takesCore, Cond.selects RX10 yX10_takesCore yX10_takesCore, Cond.code yX10_takesCore cX10_takesCore 2 (some .boolean), Cond.methodLink RX10 163 yX10_takesRow, Cond.instanceMethod yX10_takesRow, Cond.selects RX10 yX10_takesRow yX10_takesRow, Cond.code yX10_takesRow cX10_takesRow 3 (some .boolean), Cond.constantLong RX10 153 (49), Cond.methodLink RX10 179 yX10_takesRule, Cond.instanceMethod yX10_takesRule, Cond.selects RX10 yX10_takesRule yX10_takesRule, Cond.code yX10_takesRule cX10_takesRule 1 (some .boolean), Cond.methodLink RL 27 yX9_lay, Cond.instanceMethod yX9_lay, Cond.selects RX9 yX9_lay yX9_lay]
def wsL_law_r19 : List Cond := [Cond.code yX9_lay cX9_lay 1 (some .int), Cond.methodLink RL 30 yX10_lay, Cond.instanceMethod yX10_lay, Cond.selects RX10 yX10_lay yX10_lay, Cond.code yX10_lay cX10_lay 2 (some .int), Cond.fieldLink RX10 188 "CoreTestsModel" "undoMany" "I", Cond.fieldLink RX10 191 "CoreTestsModel" "seenMany" "I", Cond.fieldLink RX10 194 "CoreTestsModel" "keptMany" "I", Cond.fieldLink RX10 197 "CoreTestsModel" "whyMany" "I", Cond.methodLink RX10 185 yX10_fault, Cond.methodLink RL 31 yX9_core, Cond.instanceMethod yX9_core, Cond.selects RX9 yX9_core yX9_core, Cond.code yX9_core cX9_core 3 (some .int), Cond.fieldLink RX9 123 "CoreTests$Chip" "patterns" "[I", Cond.fieldLink RX9 126 "CoreTests$Chip" "draws" "[I", Cond.fieldLink RX9 129 "CoreTests$Chip" "chains" "[I", Cond.fieldLink RX9 135 "CoreTests$Plan" "width" "[I", Cond.fieldLink RX9 138 "CoreTests$Plan" "from" "[I", Cond.methodLink RX9 116 yX9_isCore, Cond.instanceMethod yX9_isCore, Cond.selects RX9 yX9_isCore yX9_isCore, Cond.code yX9_isCore cX9_isCore 2 (some .boolean), Cond.methodLink RX9 132 yX3_isPut]
def wsL_law_r20 : List Cond := [Cond.instanceMethod yX3_isPut, Cond.selects RX3 yX3_isPut yX3_isPut, Cond.code yX3_isPut cX3_isPut 2 (some .boolean), Cond.methodLink RX9 141 yX3_stairs, Cond.instanceMethod yX3_stairs, Cond.selects RX3 yX3_stairs yX3_stairs, Cond.code yX3_stairs cX3_stairs 5 (some .int), Cond.constant RX3 54 (1000000), Cond.fieldLink RX3 55 "CoreTests$Chip" "lines" "I", Cond.methodLink RX3 47 yX3_takes, Cond.instanceMethod yX3_takes, Cond.selects RX3 yX3_takes yX3_takes, Cond.code yX3_takes cX3_takes 3 (some .int), Cond.methodLink RX3 51 yX2_takes, Cond.instanceMethod yX2_takes, Cond.selects RX2 yX2_takes yX2_takes, Cond.code yX2_takes cX2_takes 8 (some .int), Cond.methodLink RL 35 yX10_core, Cond.instanceMethod yX10_core, Cond.selects RX10 yX10_core yX10_core, Cond.code yX10_core cX10_core 3 (some .int), Cond.methodLink RX10 212 yX10_isCore, Cond.instanceMethod yX10_isCore, Cond.selects RX10 yX10_isCore yX10_isCore]
def wsL_law_r21 : List Cond := [Cond.code yX10_isCore cX10_isCore 2 (some .boolean), Cond.methodLink RX10 215 yX10_isPut, Cond.instanceMethod yX10_isPut, Cond.selects RX10 yX10_isPut yX10_isPut, Cond.code yX10_isPut cX10_isPut 2 (some .boolean), Cond.methodLink RX10 218 yX10_stairsOf, Cond.instanceMethod yX10_stairsOf, Cond.selects RX10 yX10_stairsOf yX10_stairsOf, Cond.code yX10_stairsOf cX10_stairsOf 5 (some .int), Cond.constant RX10 200 (100000), Cond.methodLink RX10 209 yX10_layTakes, Cond.instanceMethod yX10_layTakes, Cond.selects RX10 yX10_layTakes yX10_layTakes, Cond.code yX10_layTakes cX10_layTakes 3 none, Cond.methodLink RX10 205 yX10_takesBy, Cond.instanceMethod yX10_takesBy, Cond.selects RX10 yX10_takesBy yX10_takesBy, Cond.code yX10_takesBy cX10_takesBy 8 (some .int), Cond.methodLink RX10 201 yX10_wrapOf, Cond.instanceMethod yX10_wrapOf, Cond.selects RX10 yX10_wrapOf yX10_wrapOf, Cond.code yX10_wrapOf cX10_wrapOf 8 (some .int), Cond.methodLink RL 36 yX9_chain, Cond.instanceMethod yX9_chain]
def wsL_law_r22 : List Cond := [Cond.selects RX9 yX9_chain yX9_chain, Cond.code yX9_chain cX9_chain 3 (some .int), Cond.fieldLink RX9 145 "CoreTests$Chip" "lengths" "[[I", Cond.methodLink RL 39 yX10_chain, Cond.instanceMethod yX10_chain, Cond.selects RX10 yX10_chain yX10_chain, Cond.code yX10_chain cX10_chain 3 (some .int), Cond.methodLink RL 40 yX9_wrap, Cond.instanceMethod yX9_wrap, Cond.selects RX9 yX9_wrap yX9_wrap, Cond.code yX9_wrap cX9_wrap 4 (some .int), Cond.fieldLink RX9 152 "CoreTests$Chip" "load" "[[I", Cond.methodLink RX9 149 yX9_isWidth, Cond.instanceMethod yX9_isWidth, Cond.selects RX9 yX9_isWidth yX9_isWidth, Cond.code yX9_isWidth cX9_isWidth 2 (some .boolean), Cond.fieldLink RX9 260 "CoreTests$Chip" "lines" "I", Cond.methodLink RX9 155 yX2_idealLoad, Cond.instanceMethod yX2_idealLoad, Cond.selects RX2 yX2_idealLoad yX2_idealLoad, Cond.code yX2_idealLoad cX2_idealLoad 3 (some .int), Cond.methodLink RX2 81 yX2_leastLoad, Cond.static yX2_leastLoad, Cond.code yX2_leastLoad cX2_leastLoad 10 (some .int)]
def wsL_law_r23 : List Cond := [Cond.methodLink RX9 159 yX3_takes, Cond.methodLink RL 44 yX10_wrap, Cond.instanceMethod yX10_wrap, Cond.selects RX10 yX10_wrap yX10_wrap, Cond.code yX10_wrap cX10_wrap 4 (some .int), Cond.methodLink RX10 222 yX10_isWidth, Cond.instanceMethod yX10_isWidth, Cond.selects RX10 yX10_isWidth yX10_isWidth, Cond.code yX10_isWidth cX10_isWidth 2 (some .boolean), Cond.methodLink RX10 225 yX10_idealOf, Cond.instanceMethod yX10_idealOf, Cond.selects RX10 yX10_idealOf yX10_idealOf, Cond.code yX10_idealOf cX10_idealOf 12 (some .int), Cond.methodLink RL 45 yX9_line, Cond.instanceMethod yX9_line, Cond.selects RX9 yX9_line yX9_line, Cond.code yX9_line cX9_line 4 (some .int), Cond.fieldLink RX9 162 "CoreTests$Chip" "laidOn" "[[I", Cond.methodLink RL 48 yX10_line, Cond.instanceMethod yX10_line, Cond.selects RX10 yX10_line yX10_line, Cond.code yX10_line cX10_line 5 (some .int), Cond.methodLink RL 49 yX9_put, Cond.instanceMethod yX9_put]
def wsL_law_r24 : List Cond := [Cond.selects RX9 yX9_put yX9_put, Cond.code yX9_put cX9_put 5 (some .int), Cond.methodLink RX9 165 yX9_isCycle, Cond.static yX9_isCycle, Cond.code yX9_isCycle cX9_isCycle 1 (some .boolean), Cond.constant RX9 269 (99999), Cond.methodLink RX9 168 yX3_reason, Cond.instanceMethod yX3_reason, Cond.selects RX3 yX3_reason yX3_reason, Cond.code yX3_reason cX3_reason 5 (some .int), Cond.fieldLink RX3 86 "CoreTests$Chip" "power" "I", Cond.fieldLink RX3 73 "CoreTests$Chip" "draws" "[I", Cond.methodLink RX3 76 yX3_notDoneAhead, Cond.instanceMethod yX3_notDoneAhead, Cond.selects RX3 yX3_notDoneAhead yX3_notDoneAhead, Cond.code yX3_notDoneAhead cX3_notDoneAhead 4 (some .int), Cond.fieldLink RX3 63 "CoreTests$Chip" "cores" "I", Cond.methodLink RX3 79 yX3_begunBehind, Cond.instanceMethod yX3_begunBehind, Cond.selects RX3 yX3_begunBehind yX3_begunBehind, Cond.code yX3_begunBehind cX3_begunBehind 4 (some .int), Cond.methodLink RX3 82 yX3_firstOver, Cond.instanceMethod yX3_firstOver, Cond.selects RX3 yX3_firstOver yX3_firstOver]
def wsL_law_r25 : List Cond := [Cond.code yX3_firstOver cX3_firstOver 9 (some .int), Cond.methodLink RX3 89 yX3_used, Cond.instanceMethod yX3_used, Cond.selects RX3 yX3_used yX3_used, Cond.code yX3_used cX3_used 5 (some .int), Cond.methodLink RX9 172 yX3_toldBy, Cond.instanceMethod yX3_toldBy, Cond.selects RX3 yX3_toldBy yX3_toldBy, Cond.code yX3_toldBy cX3_toldBy 6 (some .int), Cond.methodLink RX9 176 yX1_ofPut, Cond.instanceMethod yX1_ofPut, Cond.selects RX1 yX1_ofPut yX1_ofPut, Cond.code yX1_ofPut cX1_ofPut 4 none, Cond.methodLink RX1 19 yX1_clear, Cond.methodLink RX1 22 yX1_addThree, Cond.instanceMethod yX1_addThree, Cond.selects RX1 yX1_addThree yX1_addThree, Cond.code yX1_addThree cX1_addThree 4 none, Cond.methodLink RX9 180 yX9_remember, Cond.instanceMethod yX9_remember, Cond.selects RX9 yX9_remember yX9_remember, Cond.code yX9_remember cX9_remember 1 none, Cond.methodLink RX9 190 yX3_writeTo, Cond.instanceMethod yX3_writeTo]
def wsL_law_r26 : List Cond := [Cond.selects RX3 yX3_writeTo yX3_writeTo, Cond.code yX3_writeTo cX3_writeTo 2 none, Cond.methodLink RX3 99 arraycopyName, Cond.native arraycopyName, Cond.static arraycopyName, Cond.initialized "java/lang/System", Cond.methodLink RX9 206 yX6_push, Cond.instanceMethod yX6_push, Cond.selects RX6 yX6_push yX6_push, Cond.code yX6_push cX6_push 4 none, Cond.methodLink RX6 26 arraycopyName, Cond.methodLink RX9 183 yX3_place, Cond.instanceMethod yX3_place, Cond.selects RX3 yX3_place yX3_place, Cond.code yX3_place cX3_place 4 none, Cond.methodLink RX9 186 yX3_length, Cond.instanceMethod yX3_length, Cond.selects RX3 yX3_length yX3_length, Cond.code yX3_length cX3_length 3 (some .int), Cond.methodLink RX3 70 Lib.Math.max.name, Cond.methodLink RX3 66 yX3_isPut, Cond.methodLink RL 52 yX10_put, Cond.instanceMethod yX10_put, Cond.selects RX10 yX10_put yX10_put]
def wsL_law_r27 : List Cond := [Cond.code yX10_put cX10_put 4 (some .int), Cond.constantLong RX10 249 (99999), Cond.fieldLink RX10 251 "CoreTestsModel" "reason" "I", Cond.fieldLink RX10 234 "CoreTestsModel" "told" "I", Cond.methodLink RX10 245 yX10_judge, Cond.instanceMethod yX10_judge, Cond.selects RX10 yX10_judge yX10_judge, Cond.code yX10_judge cX10_judge 7 (some .int), Cond.methodLink RX10 237 yX10_isAhead, Cond.instanceMethod yX10_isAhead, Cond.selects RX10 yX10_isAhead yX10_isAhead, Cond.code yX10_isAhead cX10_isAhead 6 (some .boolean), Cond.methodLink RX10 228 yX10_endOf, Cond.instanceMethod yX10_endOf, Cond.selects RX10 yX10_endOf yX10_endOf, Cond.code yX10_endOf cX10_endOf 2 (some .int), Cond.methodLink RX10 241 yX10_isTooMuch, Cond.instanceMethod yX10_isTooMuch, Cond.selects RX10 yX10_isTooMuch yX10_isTooMuch, Cond.code yX10_isTooMuch cX10_isTooMuch 10 (some .boolean), Cond.methodLink RX10 231 yX10_runsIn, Cond.instanceMethod yX10_runsIn, Cond.selects RX10 yX10_runsIn yX10_runsIn, Cond.code yX10_runsIn cX10_runsIn 6 (some .int)]
def wsL_law_r28 : List Cond := [Cond.methodLink RX10 254 yX10_note, Cond.instanceMethod yX10_note, Cond.selects RX10 yX10_note yX10_note, Cond.code yX10_note cX10_note 2 none, Cond.methodLink RX10 257 yX10_putAt, Cond.instanceMethod yX10_putAt, Cond.selects RX10 yX10_putAt yX10_putAt, Cond.code yX10_putAt cX10_putAt 4 none, Cond.methodLink RX10 261 yX10_lengthOf, Cond.instanceMethod yX10_lengthOf, Cond.selects RX10 yX10_lengthOf yX10_lengthOf, Cond.code yX10_lengthOf cX10_lengthOf 3 (some .int), Cond.methodLink RL 53 yX9_take, Cond.instanceMethod yX9_take, Cond.selects RX9 yX9_take yX9_take, Cond.code yX9_take cX9_take 2 (some .int), Cond.methodLink RX9 187 yX3_takeOff, Cond.methodLink RL 56 yX10_take, Cond.instanceMethod yX10_take, Cond.selects RX10 yX10_take yX10_take, Cond.code yX10_take cX10_take 2 (some .int), Cond.methodLink RL 57 yX9_fill, Cond.instanceMethod yX9_fill, Cond.selects RX9 yX9_fill yX9_fill]
def wsL_law_r29 : List Cond := [Cond.code yX9_fill cX9_fill 3 (some .int), Cond.constant RX9 197 (1000000), Cond.methodLink RX9 198 yX3_placeDoneFirst, Cond.instanceMethod yX3_placeDoneFirst, Cond.selects RX3 yX3_placeDoneFirst yX3_placeDoneFirst, Cond.code yX3_placeDoneFirst cX3_placeDoneFirst 10 (some .boolean), Cond.methodLink RX3 92 yX3_firstNotRefused, Cond.instanceMethod yX3_firstNotRefused, Cond.selects RX3 yX3_firstNotRefused yX3_firstNotRefused, Cond.code yX3_firstNotRefused cX3_firstNotRefused 8 (some .int), Cond.methodLink RX3 95 yX3_place, Cond.methodLink RX9 202 yX9_stuck, Cond.instanceMethod yX9_stuck, Cond.selects RX9 yX9_stuck yX9_stuck, Cond.code yX9_stuck cX9_stuck 5 none, Cond.methodLink RX9 281 yX1_ofFill, Cond.instanceMethod yX1_ofFill, Cond.selects RX1 yX1_ofFill yX1_ofFill, Cond.code yX1_ofFill cX1_ofFill 5 none, Cond.methodLink RX9 285 yX3_readFrom, Cond.instanceMethod yX3_readFrom, Cond.selects RX3 yX3_readFrom yX3_readFrom, Cond.code yX3_readFrom cX3_readFrom 2 none, Cond.methodLink RL 60 yX10_fill]
def wsL_law_r30 : List Cond := [Cond.instanceMethod yX10_fill, Cond.selects RX10 yX10_fill yX10_fill, Cond.code yX10_fill cX10_fill 3 (some .int), Cond.methodLink RX10 267 yX10_putAside, Cond.instanceMethod yX10_putAside, Cond.selects RX10 yX10_putAside yX10_putAside, Cond.code yX10_putAside cX10_putAside 3 none, Cond.methodLink RX10 271 yX10_nextCore, Cond.instanceMethod yX10_nextCore, Cond.selects RX10 yX10_nextCore yX10_nextCore, Cond.code yX10_nextCore cX10_nextCore 4 (some .int), Cond.methodLink RX10 274 yX10_fills, Cond.instanceMethod yX10_fills, Cond.selects RX10 yX10_fills yX10_fills, Cond.code yX10_fills cX10_fills 8 (some .boolean), Cond.methodLink RX10 264 yX10_soonestOf, Cond.instanceMethod yX10_soonestOf, Cond.selects RX10 yX10_soonestOf yX10_soonestOf, Cond.code yX10_soonestOf cX10_soonestOf 7 (some .int), Cond.methodLink RX10 277 yX10_keepFilled, Cond.instanceMethod yX10_keepFilled, Cond.selects RX10 yX10_keepFilled yX10_keepFilled, Cond.code yX10_keepFilled cX10_keepFilled 2 none, Cond.methodLink RL 61 yX9_rename]
def wsL_law_r31 : List Cond := [Cond.instanceMethod yX9_rename, Cond.selects RX9 yX9_rename yX9_rename, Cond.code yX9_rename cX9_rename 4 (some .int), Cond.methodLink RL 64 yX10_rename, Cond.instanceMethod yX10_rename, Cond.selects RX10 yX10_rename yX10_rename, Cond.code yX10_rename cX10_rename 4 (some .int), Cond.constantLong RX10 280 (3), Cond.methodLink RL 65 yX9_undo, Cond.instanceMethod yX9_undo, Cond.selects RX9 yX9_undo yX9_undo, Cond.code yX9_undo cX9_undo 1 (some .int), Cond.fieldLink RX9 213 "CoreTests$Shelf" "held" "I", Cond.methodLink RX9 209 yX6_popInto, Cond.instanceMethod yX6_popInto, Cond.selects RX6 yX6_popInto yX6_popInto, Cond.code yX6_popInto cX6_popInto 2 (some .boolean), Cond.methodLink RX6 32 yX3_readFrom, Cond.methodLink RL 68 yX10_undo, Cond.instanceMethod yX10_undo, Cond.selects RX10 yX10_undo yX10_undo, Cond.code yX10_undo cX10_undo 2 (some .int), Cond.methodLink RL 69 yX9_why, Cond.instanceMethod yX9_why]
def wsL_law_r32 : List Cond := [Cond.selects RX9 yX9_why yX9_why, Cond.code yX9_why cX9_why 2 (some .int), Cond.fieldLink RX9 216 "CoreTests$Cause" "many" "I", Cond.methodLink RX9 219 yX1_number, Cond.instanceMethod yX1_number, Cond.selects RX1 yX1_number yX1_number, Cond.code yX1_number cX1_number 2 (some .int), Cond.methodLink RL 72 yX10_why, Cond.instanceMethod yX10_why, Cond.selects RX10 yX10_why yX10_why, Cond.code yX10_why cX10_why 2 (some .int), Cond.methodLink RL 73 yX9_soonest, Cond.instanceMethod yX9_soonest, Cond.selects RX9 yX9_soonest yX9_soonest, Cond.code yX9_soonest cX9_soonest 3 (some .int), Cond.methodLink RX9 222 yX3_firstNotRefused, Cond.methodLink RL 76 yX10_soonest, Cond.instanceMethod yX10_soonest, Cond.selects RX10 yX10_soonest yX10_soonest, Cond.code yX10_soonest cX10_soonest 3 (some .int), Cond.methodLink RL 77 yX9_runs, Cond.instanceMethod yX9_runs, Cond.selects RX9 yX9_runs yX9_runs, Cond.code yX9_runs cX9_runs 3 (some .int)]
def wsL_law_r33 : List Cond := [Cond.methodLink RX9 225 yX3_used, Cond.methodLink RL 80 yX10_runs, Cond.instanceMethod yX10_runs, Cond.selects RX10 yX10_runs yX10_runs, Cond.code yX10_runs cX10_runs 3 (some .int), Cond.methodLink RL 81 yX9_bound, Cond.instanceMethod yX9_bound, Cond.selects RX9 yX9_bound yX9_bound, Cond.code yX9_bound cX9_bound 2 (some .int), Cond.methodLink RX9 228 yX0_area, Cond.instanceMethod yX0_area, Cond.selects RX0 yX0_area yX0_area, Cond.code yX0_area cX0_area 6 (some .int), Cond.fieldLink RX0 19 "CoreTests$Chip" "cores" "I", Cond.constant RX0 25 (1000000), Cond.fieldLink RX0 26 "CoreTests$Chip" "lines" "I", Cond.methodLink RX0 35 Lib.Math.min.name, Cond.static Lib.Math.min.name, Cond.code Lib.Math.min.name Lib.Math.min.code 2 (some .int), Cond.methodLink RX0 29 yX3_takes, Cond.methodLink RX0 40 yX0_upward, Cond.static yX0_upward, Cond.code yX0_upward cX0_upward 2 (some .int), Cond.methodLink RX9 232 yX0_path]
def wsL_law_r34 : List Cond := [Cond.instanceMethod yX0_path, Cond.selects RX0 yX0_path yX0_path, Cond.code yX0_path cX0_path 6 (some .int), Cond.fieldLink RX0 43 "CoreTests$Plan" "ahead" "[I", Cond.methodLink RX0 46 Lib.Math.max.name, Cond.methodLink RX0 49 yX3_leastTaken, Cond.instanceMethod yX3_leastTaken, Cond.selects RX3 yX3_leastTaken yX3_leastTaken, Cond.code yX3_leastTaken cX3_leastTaken 4 (some .int), Cond.methodLink RX3 58 Lib.Math.min.name, Cond.methodLink RX9 235 yX0_drawn, Cond.instanceMethod yX0_drawn, Cond.selects RX0 yX0_drawn yX0_drawn, Cond.code yX0_drawn cX0_drawn 4 (some .int), Cond.fieldLink RX0 53 "CoreTests$Chip" "draws" "[I", Cond.fieldLink RX0 56 "CoreTests$Chip" "power" "I", Cond.methodLink RX9 238 yX0_greatest, Cond.instanceMethod yX0_greatest, Cond.selects RX0 yX0_greatest yX0_greatest, Cond.code yX0_greatest cX0_greatest 2 (some .int), Cond.methodLink RX0 59 yX0_area, Cond.methodLink RX0 63 yX0_path, Cond.methodLink RX0 66 yX0_drawn, Cond.methodLink RL 84 yX10_bound]
def wsL_law_r35 : List Cond := [Cond.instanceMethod yX10_bound, Cond.selects RX10 yX10_bound yX10_bound, Cond.code yX10_bound cX10_bound 6 (some .int), Cond.methodLink RX10 288 yX10_areaOf, Cond.instanceMethod yX10_areaOf, Cond.selects RX10 yX10_areaOf yX10_areaOf, Cond.code yX10_areaOf cX10_areaOf 6 (some .int), Cond.methodLink RX10 282 yX10_upward, Cond.static yX10_upward, Cond.code yX10_upward cX10_upward 2 (some .int), Cond.methodLink RX10 291 yX10_pathOf, Cond.instanceMethod yX10_pathOf, Cond.selects RX10 yX10_pathOf yX10_pathOf, Cond.code yX10_pathOf cX10_pathOf 5 (some .int), Cond.methodLink RX10 285 yX10_leastTakes, Cond.instanceMethod yX10_leastTakes, Cond.selects RX10 yX10_leastTakes yX10_leastTakes, Cond.code yX10_leastTakes cX10_leastTakes 4 (some .int), Cond.methodLink RX10 294 yX10_drawnOf, Cond.instanceMethod yX10_drawnOf, Cond.selects RX10 yX10_drawnOf yX10_drawnOf, Cond.code yX10_drawnOf cX10_drawnOf 3 (some .int), Cond.methodLink RL 85 yX9_best, Cond.instanceMethod yX9_best]
def wsL_law_r36 : List Cond := [Cond.selects RX9 yX9_best yX9_best, Cond.code yX9_best cX9_best 3 (some .int), Cond.methodLink RX9 241 yX5_leastLength, Cond.instanceMethod yX5_leastLength, Cond.selects RX5 yX5_leastLength yX5_leastLength, Cond.code yX5_leastLength cX5_leastLength 5 (some .int), Cond.fieldLink RX5 57 "CoreTests$Chip" "cores" "I", Cond.fieldLink RX5 62 "CoreTests$Chip" "draws" "[I", Cond.fieldLink RX5 65 "CoreTests$Chip" "power" "I", Cond.fieldLink RX5 68 "CoreTests$Plan" "kind" "[I", Cond.methodLink RX5 71 yX3_startOver, Cond.methodLink RX5 75 yX0_greatest, Cond.methodLink RX5 79 yX5_tryAll, Cond.static yX5_tryAll, Cond.code yX5_tryAll cX5_tryAll 5 none, Cond.methodLink RX5 83 arraycopyName, Cond.fieldLink RX5 89 "CoreTests$Plan" "ahead" "[I", Cond.fieldLink RX5 96 "CoreTests$Plan" "until" "[I", Cond.methodLink RX5 99 Lib.Math.max.name, Cond.methodLink RX5 92 yX3_placeDoneFirst, Cond.methodLink RX5 105 yX3_takeOff, Cond.methodLink RX9 245 yX5_placedAt, Cond.instanceMethod yX5_placedAt, Cond.selects RX5 yX5_placedAt yX5_placedAt]
def wsL_law_r37 : List Cond := [Cond.code yX5_placedAt cX5_placedAt 2 (some .int), Cond.methodLink RL 88 yX10_best, Cond.instanceMethod yX10_best, Cond.selects RX10 yX10_best yX10_best, Cond.code yX10_best cX10_best 3 (some .int), Cond.constantLong RX10 307 (-1), Cond.methodLink RX10 309 yX10_bestBy, Cond.instanceMethod yX10_bestBy, Cond.selects RX10 yX10_bestBy yX10_bestBy, Cond.code yX10_bestBy cX10_bestBy 5 (some .int), Cond.methodLink RX10 301 yX10_goOrder, Cond.instanceMethod yX10_goOrder, Cond.selects RX10 yX10_goOrder yX10_goOrder, Cond.code yX10_goOrder cX10_goOrder 3 (some .int), Cond.methodLink RX10 304 yX10_nextOrder, Cond.instanceMethod yX10_nextOrder, Cond.selects RX10 yX10_nextOrder yX10_nextOrder, Cond.code yX10_nextOrder cX10_nextOrder 5 (some .boolean), Cond.methodLink RX10 297 yX10_swap, Cond.instanceMethod yX10_swap, Cond.selects RX10 yX10_swap yX10_swap, Cond.code yX10_swap cX10_swap 4 none, Cond.methodLink RL 89 yX9_costs, Cond.instanceMethod yX9_costs]
def wsL_law_r38 : List Cond := [Cond.selects RX9 yX9_costs yX9_costs, Cond.code yX9_costs cX9_costs 4 (some .int), Cond.fieldLink RX9 248 "CoreTests$Chip" "rules" "I", Cond.constant RX9 251 (100000), Cond.methodLink RL 92 yX10_costs, Cond.instanceMethod yX10_costs, Cond.selects RX10 yX10_costs yX10_costs, Cond.code yX10_costs cX10_costs 3 (some .int), Cond.methodLink RL 93 yX9_seen, Cond.instanceMethod yX9_seen, Cond.selects RX9 yX9_seen yX9_seen, Cond.code yX9_seen cX9_seen 4 (some .int), Cond.fieldLink RX9 252 "CoreTests$Sightings" "many" "I", Cond.methodLink RX9 253 yX7_add, Cond.instanceMethod yX7_add, Cond.selects RX7 yX7_add yX7_add, Cond.code yX7_add cX7_add 4 none, Cond.methodLink RL 96 yX10_seen, Cond.instanceMethod yX10_seen, Cond.selects RX10 yX10_seen yX10_seen, Cond.code yX10_seen cX10_seen 4 (some .int), Cond.constantLong RX10 312 (9999), Cond.methodLink RL 97 yX9_forget, Cond.instanceMethod yX9_forget]
def wsL_law_r39 : List Cond := [Cond.selects RX9 yX9_forget yX9_forget, Cond.code yX9_forget cX9_forget 2 (some .int), Cond.methodLink RL 100 yX10_forget, Cond.instanceMethod yX10_forget, Cond.selects RX10 yX10_forget yX10_forget, Cond.code yX10_forget cX10_forget 2 (some .int), Cond.methodLink RL 101 yX9_kinds, Cond.instanceMethod yX9_kinds, Cond.selects RX9 yX9_kinds yX9_kinds, Cond.code yX9_kinds cX9_kinds 2 (some .int), Cond.methodLink RX9 256 yX7_kindsOf, Cond.instanceMethod yX7_kindsOf, Cond.selects RX7 yX7_kindsOf yX7_kindsOf, Cond.code yX7_kindsOf cX7_kindsOf 4 (some .int), Cond.methodLink RX7 29 yX7_agree, Cond.instanceMethod yX7_agree, Cond.selects RX7 yX7_agree yX7_agree, Cond.code yX7_agree cX7_agree 4 (some .boolean), Cond.methodLink RX7 33 yX2_takes, Cond.methodLink RL 104 yX10_kinds, Cond.instanceMethod yX10_kinds, Cond.selects RX10 yX10_kinds yX10_kinds, Cond.code yX10_kinds cX10_kinds 6 (some .int), Cond.methodLink RL 105 yX9_keep]
def wsL_law_r40 : List Cond := [Cond.instanceMethod yX9_keep, Cond.selects RX9 yX9_keep yX9_keep, Cond.code yX9_keep cX9_keep 1 (some .int), Cond.methodLink RL 108 yX10_keep, Cond.instanceMethod yX10_keep, Cond.selects RX10 yX10_keep yX10_keep, Cond.code yX10_keep cX10_keep 2 (some .int), Cond.methodLink RL 109 yX9_back, Cond.instanceMethod yX9_back, Cond.selects RX9 yX9_back yX9_back, Cond.code yX9_back cX9_back 1 (some .int), Cond.methodLink RL 112 yX10_back, Cond.instanceMethod yX10_back, Cond.selects RX10 yX10_back yX10_back, Cond.code yX10_back cX10_back 2 (some .int), Cond.methodLink RL 113 yX9_count, Cond.instanceMethod yX9_count, Cond.selects RX9 yX9_count yX9_count, Cond.code yX9_count cX9_count 2 (some .int), Cond.fieldLink RX9 263 "CoreTests$Chip" "power" "I", Cond.methodLink RX9 266 yX3_manyPut, Cond.instanceMethod yX3_manyPut, Cond.selects RX3 yX3_manyPut yX3_manyPut, Cond.code yX3_manyPut cX3_manyPut 3 (some .int)]
def wsL_law_r41 : List Cond := [Cond.methodLink RL 116 yX10_count, Cond.instanceMethod yX10_count, Cond.selects RX10 yX10_count yX10_count, Cond.code yX10_count cX10_count 2 (some .int), Cond.methodLink RX10 314 yX10_putMany, Cond.instanceMethod yX10_putMany, Cond.selects RX10 yX10_putMany yX10_putMany, Cond.code yX10_putMany cX10_putMany 3 (some .int), Cond.methodLink RX10 317 yX10_lengthNow, Cond.instanceMethod yX10_lengthNow, Cond.selects RX10 yX10_lengthNow yX10_lengthNow, Cond.code yX10_lengthNow cX10_lengthNow 1 (some .int)]
def wsL_law : List Cond := (wsL_law_r1 ++ (wsL_law_r2 ++ (wsL_law_r3 ++ (wsL_law_r4 ++ (wsL_law_r5 ++ (wsL_law_r6 ++ (wsL_law_r7 ++ (wsL_law_r8 ++ (wsL_law_r9 ++ (wsL_law_r10 ++ (wsL_law_r11 ++ (wsL_law_r12 ++ (wsL_law_r13 ++ (wsL_law_r14 ++ (wsL_law_r15 ++ (wsL_law_r16 ++ (wsL_law_r17 ++ (wsL_law_r18 ++ (wsL_law_r19 ++ (wsL_law_r20 ++ (wsL_law_r21 ++ (wsL_law_r22 ++ (wsL_law_r23 ++ (wsL_law_r24 ++ (wsL_law_r25 ++ (wsL_law_r26 ++ (wsL_law_r27 ++ (wsL_law_r28 ++ (wsL_law_r29 ++ (wsL_law_r30 ++ (wsL_law_r31 ++ (wsL_law_r32 ++ (wsL_law_r33 ++ (wsL_law_r34 ++ (wsL_law_r35 ++ (wsL_law_r36 ++ (wsL_law_r37 ++ (wsL_law_r38 ++ (wsL_law_r39 ++ (wsL_law_r40 ++ wsL_law_r41)))))))))))))))))))))))))))))))))))))))) ++ wsX90 ++ wsX100 ++ wsX80 ++ wsX40 ++ wsX20 ++ wsX30 ++ wsX00 ++ wsX50 ++ wsX60 ++ wsX10 ++ wsX70 ++ ([] : List Cond)
set_option maxRecDepth 20000 in
theorem wsL_law_r1_in : ∀ w ∈ wsL_law_r1, w ∈ lw_tbl := List.forall_mem_cons.mpr ⟨(List.mem_append_right _ (List.mem_append_left _ (List.mem_of_getElem? (i := 18) rfl))), List.forall_mem_cons.mpr ⟨(List.mem_append_right _ (List.mem_append_left _ (List.mem_of_getElem? (i := 19) rfl))), List.forall_mem_cons.mpr ⟨(List.mem_append_right _ (List.mem_append_left _ (List.mem_of_getElem? (i := 1) rfl))), List.forall_mem_cons.mpr ⟨(List.mem_append_right _ (List.mem_append_right _ (List.mem_append_right _ (List.mem_append_right _ (List.mem_append_left _ (List.mem_of_getElem? (i := 54) rfl)))))), List.forall_mem_cons.mpr ⟨(List.mem_append_right _ (List.mem_append_right _ (List.mem_append_right _ (List.mem_append_right _ (List.mem_append_left _ (List.mem_of_getElem? (i := 55) rfl)))))), List.forall_mem_cons.mpr ⟨(List.mem_append_right _ (List.mem_append_left _ (List.mem_of_getElem? (i := 16) rfl))), List.forall_mem_cons.mpr ⟨(List.mem_append_right _ (List.mem_append_left _ (List.mem_of_getElem? (i := 20) rfl))), List.forall_mem_cons.mpr ⟨(List.mem_append_right _ (List.mem_append_left _ (List.mem_of_getElem? (i := 21) rfl))), List.forall_mem_cons.mpr ⟨(List.mem_append_right _ (List.mem_append_left _ (List.mem_of_getElem? (i := 22) rfl))), List.forall_mem_cons.mpr ⟨(List.mem_append_right _ (List.mem_append_left _ (List.mem_of_getElem? (i := 23) rfl))), List.forall_mem_cons.mpr ⟨(List.mem_append_right _ (List.mem_append_left _ (List.mem_of_getElem? (i := 24) rfl))), List.forall_mem_cons.mpr ⟨(List.mem_append_right _ (List.mem_append_left _ (List.mem_of_getElem? (i := 25) rfl))), List.forall_mem_cons.mpr ⟨(List.mem_append_right _ (List.mem_append_left _ (List.mem_of_getElem? (i := 26) rfl))), List.forall_mem_cons.mpr ⟨(List.mem_append_right _ (List.mem_append_left _ (List.mem_of_getElem? (i := 27) rfl))), List.forall_mem_cons.mpr ⟨(List.mem_append_right _ (List.mem_append_left _ (List.mem_of_getElem? (i := 2) rfl))), List.forall_mem_cons.mpr ⟨(List.mem_append_right _ (List.mem_append_right _ (List.mem_append_left _ (List.mem_of_getElem? (i := 198) rfl)))), List.forall_mem_cons.mpr ⟨(List.mem_append_right _ (List.mem_append_left _ (List.mem_of_getElem? (i := 42) rfl))), List.forall_mem_cons.mpr ⟨(List.mem_append_right _ (List.mem_append_left _ (List.mem_of_getElem? (i := 43) rfl))), List.forall_mem_cons.mpr ⟨(List.mem_append_right _ (List.mem_append_left _ (List.mem_of_getElem? (i := 3) rfl))), List.forall_mem_cons.mpr ⟨(List.mem_append_right _ (List.mem_append_right _ (List.mem_append_left _ (List.mem_of_getElem? (i := 199) rfl)))), List.forall_mem_cons.mpr ⟨(List.mem_append_right _ (List.mem_append_left _ (List.mem_of_getElem? (i := 55) rfl))), List.forall_mem_cons.mpr ⟨(List.mem_append_right _ (List.mem_append_left _ (List.mem_of_getElem? (i := 56) rfl))), List.forall_mem_cons.mpr ⟨(List.mem_append_right _ (List.mem_append_left _ (List.mem_of_getElem? (i := 4) rfl))), List.forall_mem_cons.mpr ⟨(List.mem_append_right _ (List.mem_append_right _ (List.mem_append_left _ (List.mem_of_getElem? (i := 200) rfl)))), fun _ h => absurd h List.not_mem_nil⟩⟩⟩⟩⟩⟩⟩⟩⟩⟩⟩⟩⟩⟩⟩⟩⟩⟩⟩⟩⟩⟩⟩⟩
theorem wsL_law_r1_g : wsL_law_r1.all goodWord = true := by decide +kernel
set_option maxRecDepth 20000 in
theorem wsL_law_r2_in : ∀ w ∈ wsL_law_r2, w ∈ lw_tbl := List.forall_mem_cons.mpr ⟨(List.mem_append_right _ (List.mem_append_right _ (List.mem_append_left _ (List.mem_of_getElem? (i := 201) rfl)))), List.forall_mem_cons.mpr ⟨(List.mem_append_right _ (List.mem_append_left _ (List.mem_of_getElem? (i := 145) rfl))), List.forall_mem_cons.mpr ⟨(List.mem_append_right _ (List.mem_append_left _ (List.mem_of_getElem? (i := 146) rfl))), List.forall_mem_cons.mpr ⟨(List.mem_append_right _ (List.mem_append_left _ (List.mem_of_getElem? (i := 5) rfl))), List.forall_mem_cons.mpr ⟨(List.mem_append_right _ (List.mem_append_right _ (List.mem_append_left _ (List.mem_of_getElem? (i := 202) rfl)))), List.forall_mem_cons.mpr ⟨(List.mem_append_right _ (List.mem_append_left _ (List.mem_of_getElem? (i := 177) rfl))), List.forall_mem_cons.mpr ⟨(List.mem_append_right _ (List.mem_append_left _ (List.mem_of_getElem? (i := 178) rfl))), List.forall_mem_cons.mpr ⟨(List.mem_append_right _ (List.mem_append_left _ (List.mem_of_getElem? (i := 6) rfl))), List.forall_mem_cons.mpr ⟨(List.mem_append_right _ (List.mem_append_right _ (List.mem_append_left _ (List.mem_of_getElem? (i := 203) rfl)))), List.forall_mem_cons.mpr ⟨(List.mem_append_right _ (List.mem_append_left _ (List.mem_of_getElem? (i := 190) rfl))), List.forall_mem_cons.mpr ⟨(List.mem_append_right _ (List.mem_append_left _ (List.mem_of_getElem? (i := 191) rfl))), List.forall_mem_cons.mpr ⟨(List.mem_append_right _ (List.mem_append_left _ (List.mem_of_getElem? (i := 7) rfl))), List.forall_mem_cons.mpr ⟨(List.mem_append_right _ (List.mem_append_right _ (List.mem_append_left _ (List.mem_of_getElem? (i := 204) rfl)))), List.forall_mem_cons.mpr ⟨(List.mem_append_right _ (List.mem_append_left _ (List.mem_of_getElem? (i := 41) rfl))), List.forall_mem_cons.mpr ⟨(List.mem_append_right _ (List.mem_append_right _ (List.mem_append_left _ (List.mem_of_getElem? (i := 205) rfl)))), List.forall_mem_cons.mpr ⟨(List.mem_append_right _ (List.mem_append_left _ (List.mem_of_getElem? (i := 233) rfl))), List.forall_mem_cons.mpr ⟨(List.mem_append_right _ (List.mem_append_left _ (List.mem_of_getElem? (i := 234) rfl))), List.forall_mem_cons.mpr ⟨(List.mem_append_right _ (List.mem_append_left _ (List.mem_of_getElem? (i := 8) rfl))), List.forall_mem_cons.mpr ⟨(List.mem_append_right _ (List.mem_append_right _ (List.mem_append_left _ (List.mem_of_getElem? (i := 206) rfl)))), List.forall_mem_cons.mpr ⟨(List.mem_append_right _ (List.mem_append_right _ (List.mem_append_left _ (List.mem_of_getElem? (i := 207) rfl)))), List.forall_mem_cons.mpr ⟨(List.mem_append_right _ (List.mem_append_right _ (List.mem_append_left _ (List.mem_of_getElem? (i := 11) rfl)))), List.forall_mem_cons.mpr ⟨(List.mem_append_right _ (List.mem_append_right _ (List.mem_append_left _ (List.mem_of_getElem? (i := 12) rfl)))), List.forall_mem_cons.mpr ⟨(List.mem_append_right _ (List.mem_append_left _ (List.mem_of_getElem? (i := 10) rfl))), List.forall_mem_cons.mpr ⟨(List.mem_append_right _ (List.mem_append_right _ (List.mem_append_left _ (List.mem_of_getElem? (i := 208) rfl)))), fun _ h => absurd h List.not_mem_nil⟩⟩⟩⟩⟩⟩⟩⟩⟩⟩⟩⟩⟩⟩⟩⟩⟩⟩⟩⟩⟩⟩⟩⟩
theorem wsL_law_r2_g : wsL_law_r2.all goodWord = true := by decide +kernel
set_option maxRecDepth 20000 in
theorem wsL_law_r3_in : ∀ w ∈ wsL_law_r3, w ∈ lw_tbl := List.forall_mem_cons.mpr ⟨(List.mem_append_right _ (List.mem_append_right _ (List.mem_append_left _ (List.mem_of_getElem? (i := 25) rfl)))), List.forall_mem_cons.mpr ⟨(List.mem_append_right _ (List.mem_append_right _ (List.mem_append_left _ (List.mem_of_getElem? (i := 26) rfl)))), List.forall_mem_cons.mpr ⟨(List.mem_append_right _ (List.mem_append_left _ (List.mem_of_getElem? (i := 11) rfl))), List.forall_mem_cons.mpr ⟨(List.mem_append_right _ (List.mem_append_right _ (List.mem_append_left _ (List.mem_of_getElem? (i := 209) rfl)))), List.forall_mem_cons.mpr ⟨(List.mem_append_right _ (List.mem_append_left _ (List.mem_of_getElem? (i := 29) rfl))), List.forall_mem_cons.mpr ⟨(List.mem_append_right _ (List.mem_append_left _ (List.mem_of_getElem? (i := 30) rfl))), List.forall_mem_cons.mpr ⟨(List.mem_append_right _ (List.mem_append_left _ (List.mem_of_getElem? (i := 31) rfl))), List.forall_mem_cons.mpr ⟨(List.mem_append_right _ (List.mem_append_left _ (List.mem_of_getElem? (i := 32) rfl))), List.forall_mem_cons.mpr ⟨(List.mem_append_right _ (List.mem_append_left _ (List.mem_of_getElem? (i := 33) rfl))), List.forall_mem_cons.mpr ⟨(List.mem_append_right _ (List.mem_append_left _ (List.mem_of_getElem? (i := 44) rfl))), List.forall_mem_cons.mpr ⟨(List.mem_append_right _ (List.mem_append_left _ (List.mem_of_getElem? (i := 45) rfl))), List.forall_mem_cons.mpr ⟨(List.mem_append_right _ (List.mem_append_left _ (List.mem_of_getElem? (i := 46) rfl))), List.forall_mem_cons.mpr ⟨(List.mem_append_right _ (List.mem_append_left _ (List.mem_of_getElem? (i := 47) rfl))), List.forall_mem_cons.mpr ⟨(List.mem_append_right _ (List.mem_append_left _ (List.mem_of_getElem? (i := 49) rfl))), List.forall_mem_cons.mpr ⟨(List.mem_append_right _ (List.mem_append_left _ (List.mem_of_getElem? (i := 48) rfl))), List.forall_mem_cons.mpr ⟨(List.mem_append_right _ (List.mem_append_left _ (List.mem_of_getElem? (i := 58) rfl))), List.forall_mem_cons.mpr ⟨(List.mem_append_right _ (List.mem_append_left _ (List.mem_of_getElem? (i := 59) rfl))), List.forall_mem_cons.mpr ⟨(List.mem_append_right _ (List.mem_append_left _ (List.mem_of_getElem? (i := 60) rfl))), List.forall_mem_cons.mpr ⟨(List.mem_append_right _ (List.mem_append_left _ (List.mem_of_getElem? (i := 84) rfl))), List.forall_mem_cons.mpr ⟨(List.mem_append_right _ (List.mem_append_left _ (List.mem_of_getElem? (i := 87) rfl))), List.forall_mem_cons.mpr ⟨(List.mem_append_right _ (List.mem_append_left _ (List.mem_of_getElem? (i := 90) rfl))), List.forall_mem_cons.mpr ⟨(List.mem_append_right _ (List.mem_append_left _ (List.mem_of_getElem? (i := 96) rfl))), List.forall_mem_cons.mpr ⟨(List.mem_append_right _ (List.mem_append_left _ (List.mem_of_getElem? (i := 61) rfl))), List.forall_mem_cons.mpr ⟨(List.mem_append_right _ (List.mem_append_left _ (List.mem_of_getElem? (i := 99) rfl))), fun _ h => absurd h List.not_mem_nil⟩⟩⟩⟩⟩⟩⟩⟩⟩⟩⟩⟩⟩⟩⟩⟩⟩⟩⟩⟩⟩⟩⟩⟩
theorem wsL_law_r3_g : wsL_law_r3.all goodWord = true := by decide +kernel
set_option maxRecDepth 20000 in
theorem wsL_law_r4_in : ∀ w ∈ wsL_law_r4, w ∈ lw_tbl := List.forall_mem_cons.mpr ⟨(List.mem_append_right _ (List.mem_append_left _ (List.mem_of_getElem? (i := 102) rfl))), List.forall_mem_cons.mpr ⟨(List.mem_append_right _ (List.mem_append_left _ (List.mem_of_getElem? (i := 105) rfl))), List.forall_mem_cons.mpr ⟨(List.mem_append_right _ (List.mem_append_left _ (List.mem_of_getElem? (i := 108) rfl))), List.forall_mem_cons.mpr ⟨(List.mem_append_right _ (List.mem_append_left _ (List.mem_of_getElem? (i := 110) rfl))), List.forall_mem_cons.mpr ⟨(List.mem_append_right _ (List.mem_append_left _ (List.mem_of_getElem? (i := 112) rfl))), List.forall_mem_cons.mpr ⟨(List.mem_append_right _ (List.mem_append_left _ (List.mem_of_getElem? (i := 113) rfl))), List.forall_mem_cons.mpr ⟨(List.mem_append_right _ (List.mem_append_left _ (List.mem_of_getElem? (i := 147) rfl))), List.forall_mem_cons.mpr ⟨(List.mem_append_right _ (List.mem_append_left _ (List.mem_of_getElem? (i := 148) rfl))), List.forall_mem_cons.mpr ⟨(List.mem_append_right _ (List.mem_append_left _ (List.mem_of_getElem? (i := 149) rfl))), List.forall_mem_cons.mpr ⟨(List.mem_append_right _ (List.mem_append_left _ (List.mem_of_getElem? (i := 150) rfl))), List.forall_mem_cons.mpr ⟨(List.mem_append_right _ (List.mem_append_left _ (List.mem_of_getElem? (i := 152) rfl))), List.forall_mem_cons.mpr ⟨(List.mem_append_right _ (List.mem_append_left _ (List.mem_of_getElem? (i := 155) rfl))), List.forall_mem_cons.mpr ⟨(List.mem_append_right _ (List.mem_append_left _ (List.mem_of_getElem? (i := 157) rfl))), List.forall_mem_cons.mpr ⟨(List.mem_append_right _ (List.mem_append_left _ (List.mem_of_getElem? (i := 159) rfl))), List.forall_mem_cons.mpr ⟨(List.mem_append_right _ (List.mem_append_left _ (List.mem_of_getElem? (i := 161) rfl))), List.forall_mem_cons.mpr ⟨(List.mem_append_right _ (List.mem_append_left _ (List.mem_of_getElem? (i := 151) rfl))), List.forall_mem_cons.mpr ⟨(List.mem_append_right _ (List.mem_append_left _ (List.mem_of_getElem? (i := 179) rfl))), List.forall_mem_cons.mpr ⟨(List.mem_append_right _ (List.mem_append_left _ (List.mem_of_getElem? (i := 180) rfl))), List.forall_mem_cons.mpr ⟨(List.mem_append_right _ (List.mem_append_left _ (List.mem_of_getElem? (i := 181) rfl))), List.forall_mem_cons.mpr ⟨(List.mem_append_right _ (List.mem_append_left _ (List.mem_of_getElem? (i := 182) rfl))), List.forall_mem_cons.mpr ⟨(List.mem_append_right _ (List.mem_append_left _ (List.mem_of_getElem? (i := 184) rfl))), List.forall_mem_cons.mpr ⟨(List.mem_append_right _ (List.mem_append_left _ (List.mem_of_getElem? (i := 183) rfl))), List.forall_mem_cons.mpr ⟨(List.mem_append_right _ (List.mem_append_left _ (List.mem_of_getElem? (i := 192) rfl))), List.forall_mem_cons.mpr ⟨(List.mem_append_right _ (List.mem_append_left _ (List.mem_of_getElem? (i := 193) rfl))), fun _ h => absurd h List.not_mem_nil⟩⟩⟩⟩⟩⟩⟩⟩⟩⟩⟩⟩⟩⟩⟩⟩⟩⟩⟩⟩⟩⟩⟩⟩
theorem wsL_law_r4_g : wsL_law_r4.all goodWord = true := by decide +kernel
set_option maxRecDepth 20000 in
theorem wsL_law_r5_in : ∀ w ∈ wsL_law_r5, w ∈ lw_tbl := List.forall_mem_cons.mpr ⟨(List.mem_append_right _ (List.mem_append_left _ (List.mem_of_getElem? (i := 194) rfl))), List.forall_mem_cons.mpr ⟨(List.mem_append_right _ (List.mem_append_left _ (List.mem_of_getElem? (i := 195) rfl))), List.forall_mem_cons.mpr ⟨(List.mem_append_right _ (List.mem_append_left _ (List.mem_of_getElem? (i := 205) rfl))), List.forall_mem_cons.mpr ⟨(List.mem_append_right _ (List.mem_append_left _ (List.mem_of_getElem? (i := 196) rfl))), List.forall_mem_cons.mpr ⟨(List.mem_append_right _ (List.mem_append_left _ (List.mem_of_getElem? (i := 206) rfl))), List.forall_mem_cons.mpr ⟨(List.mem_append_right _ (List.mem_append_left _ (List.mem_of_getElem? (i := 207) rfl))), List.forall_mem_cons.mpr ⟨(List.mem_append_right _ (List.mem_append_left _ (List.mem_of_getElem? (i := 208) rfl))), List.forall_mem_cons.mpr ⟨(List.mem_append_right _ (List.mem_append_left _ (List.mem_of_getElem? (i := 209) rfl))), List.forall_mem_cons.mpr ⟨(List.mem_append_right _ (List.mem_append_left _ (List.mem_of_getElem? (i := 197) rfl))), List.forall_mem_cons.mpr ⟨(List.mem_append_right _ (List.mem_append_left _ (List.mem_of_getElem? (i := 210) rfl))), List.forall_mem_cons.mpr ⟨(List.mem_append_right _ (List.mem_append_left _ (List.mem_of_getElem? (i := 211) rfl))), List.forall_mem_cons.mpr ⟨(List.mem_append_right _ (List.mem_append_left _ (List.mem_of_getElem? (i := 202) rfl))), List.forall_mem_cons.mpr ⟨(List.mem_append_right _ (List.mem_append_left _ (List.mem_of_getElem? (i := 198) rfl))), List.forall_mem_cons.mpr ⟨(List.mem_append_right _ (List.mem_append_left _ (List.mem_of_getElem? (i := 203) rfl))), List.forall_mem_cons.mpr ⟨(List.mem_append_right _ (List.mem_append_left _ (List.mem_of_getElem? (i := 200) rfl))), List.forall_mem_cons.mpr ⟨(List.mem_append_right _ (List.mem_append_left _ (List.mem_of_getElem? (i := 204) rfl))), List.forall_mem_cons.mpr ⟨(List.mem_append_right _ (List.mem_append_left _ (List.mem_of_getElem? (i := 199) rfl))), List.forall_mem_cons.mpr ⟨(List.mem_append_right _ (List.mem_append_left _ (List.mem_of_getElem? (i := 201) rfl))), List.forall_mem_cons.mpr ⟨(List.mem_append_right _ (List.mem_append_left _ (List.mem_of_getElem? (i := 235) rfl))), List.forall_mem_cons.mpr ⟨(List.mem_append_right _ (List.mem_append_left _ (List.mem_of_getElem? (i := 236) rfl))), List.forall_mem_cons.mpr ⟨(List.mem_append_right _ (List.mem_append_left _ (List.mem_of_getElem? (i := 237) rfl))), List.forall_mem_cons.mpr ⟨(List.mem_append_right _ (List.mem_append_left _ (List.mem_of_getElem? (i := 238) rfl))), List.forall_mem_cons.mpr ⟨(List.mem_append_right _ (List.mem_append_right _ (List.mem_append_left _ (List.mem_of_getElem? (i := 4) rfl)))), List.forall_mem_cons.mpr ⟨(List.mem_append_right _ (List.mem_append_left _ (List.mem_of_getElem? (i := 239) rfl))), fun _ h => absurd h List.not_mem_nil⟩⟩⟩⟩⟩⟩⟩⟩⟩⟩⟩⟩⟩⟩⟩⟩⟩⟩⟩⟩⟩⟩⟩⟩
theorem wsL_law_r5_g : wsL_law_r5.all goodWord = true := by decide +kernel
set_option maxRecDepth 20000 in
theorem wsL_law_r6_in : ∀ w ∈ wsL_law_r6, w ∈ lw_tbl := List.forall_mem_cons.mpr ⟨(List.mem_append_right _ (List.mem_append_right _ (List.mem_append_left _ (List.mem_of_getElem? (i := 0) rfl)))), List.forall_mem_cons.mpr ⟨(List.mem_append_right _ (List.mem_append_left _ (List.mem_of_getElem? (i := 9) rfl))), List.forall_mem_cons.mpr ⟨(List.mem_append_right _ (List.mem_append_right _ (List.mem_append_left _ (List.mem_of_getElem? (i := 1) rfl)))), List.forall_mem_cons.mpr ⟨(List.mem_append_right _ (List.mem_append_right _ (List.mem_append_left _ (List.mem_of_getElem? (i := 2) rfl)))), List.forall_mem_cons.mpr ⟨(List.mem_append_right _ (List.mem_append_right _ (List.mem_append_left _ (List.mem_of_getElem? (i := 3) rfl)))), List.forall_mem_cons.mpr ⟨(List.mem_append_right _ (List.mem_append_right _ (List.mem_append_left _ (List.mem_of_getElem? (i := 14) rfl)))), List.forall_mem_cons.mpr ⟨(List.mem_append_right _ (List.mem_append_right _ (List.mem_append_left _ (List.mem_of_getElem? (i := 15) rfl)))), List.forall_mem_cons.mpr ⟨(List.mem_append_right _ (List.mem_append_right _ (List.mem_append_left _ (List.mem_of_getElem? (i := 16) rfl)))), List.forall_mem_cons.mpr ⟨(List.mem_append_right _ (List.mem_append_right _ (List.mem_append_left _ (List.mem_of_getElem? (i := 17) rfl)))), List.forall_mem_cons.mpr ⟨(List.mem_append_right _ (List.mem_append_right _ (List.mem_append_left _ (List.mem_of_getElem? (i := 18) rfl)))), List.forall_mem_cons.mpr ⟨(List.mem_append_right _ (List.mem_append_right _ (List.mem_append_left _ (List.mem_of_getElem? (i := 27) rfl)))), List.forall_mem_cons.mpr ⟨(List.mem_append_right _ (List.mem_append_right _ (List.mem_append_left _ (List.mem_of_getElem? (i := 28) rfl)))), List.forall_mem_cons.mpr ⟨(List.mem_append_right _ (List.mem_append_right _ (List.mem_append_left _ (List.mem_of_getElem? (i := 29) rfl)))), List.forall_mem_cons.mpr ⟨(List.mem_append_right _ (List.mem_append_right _ (List.mem_append_left _ (List.mem_of_getElem? (i := 30) rfl)))), List.forall_mem_cons.mpr ⟨(List.mem_append_right _ (List.mem_append_right _ (List.mem_append_left _ (List.mem_of_getElem? (i := 32) rfl)))), List.forall_mem_cons.mpr ⟨(List.mem_append_right _ (List.mem_append_right _ (List.mem_append_left _ (List.mem_of_getElem? (i := 33) rfl)))), List.forall_mem_cons.mpr ⟨(List.mem_append_right _ (List.mem_append_right _ (List.mem_append_left _ (List.mem_of_getElem? (i := 34) rfl)))), List.forall_mem_cons.mpr ⟨(List.mem_append_right _ (List.mem_append_right _ (List.mem_append_left _ (List.mem_of_getElem? (i := 35) rfl)))), List.forall_mem_cons.mpr ⟨(List.mem_append_right _ (List.mem_append_right _ (List.mem_append_left _ (List.mem_of_getElem? (i := 31) rfl)))), List.forall_mem_cons.mpr ⟨(List.mem_append_right _ (List.mem_append_right _ (List.mem_append_left _ (List.mem_of_getElem? (i := 49) rfl)))), List.forall_mem_cons.mpr ⟨(List.mem_append_right _ (List.mem_append_right _ (List.mem_append_left _ (List.mem_of_getElem? (i := 50) rfl)))), List.forall_mem_cons.mpr ⟨(List.mem_append_right _ (List.mem_append_right _ (List.mem_append_left _ (List.mem_of_getElem? (i := 51) rfl)))), List.forall_mem_cons.mpr ⟨(List.mem_append_right _ (List.mem_append_left _ (List.mem_of_getElem? (i := 12) rfl))), List.forall_mem_cons.mpr ⟨(List.mem_append_right _ (List.mem_append_right _ (List.mem_append_left _ (List.mem_of_getElem? (i := 52) rfl)))), fun _ h => absurd h List.not_mem_nil⟩⟩⟩⟩⟩⟩⟩⟩⟩⟩⟩⟩⟩⟩⟩⟩⟩⟩⟩⟩⟩⟩⟩⟩
theorem wsL_law_r6_g : wsL_law_r6.all goodWord = true := by decide +kernel
set_option maxRecDepth 20000 in
theorem wsL_law_r7_in : ∀ w ∈ wsL_law_r7, w ∈ lw_tbl := List.forall_mem_cons.mpr ⟨(List.mem_append_right _ (List.mem_append_right _ (List.mem_append_right _ (List.mem_append_right _ (List.mem_append_right _ (List.mem_of_getElem? (i := 237) rfl)))))), List.forall_mem_cons.mpr ⟨(List.mem_append_right _ (List.mem_append_right _ (List.mem_append_left _ (List.mem_of_getElem? (i := 53) rfl)))), List.forall_mem_cons.mpr ⟨(List.mem_append_right _ (List.mem_append_right _ (List.mem_append_left _ (List.mem_of_getElem? (i := 54) rfl)))), List.forall_mem_cons.mpr ⟨(List.mem_append_right _ (List.mem_append_right _ (List.mem_append_left _ (List.mem_of_getElem? (i := 55) rfl)))), List.forall_mem_cons.mpr ⟨(List.mem_append_right _ (List.mem_append_right _ (List.mem_append_left _ (List.mem_of_getElem? (i := 56) rfl)))), List.forall_mem_cons.mpr ⟨(List.mem_append_right _ (List.mem_append_right _ (List.mem_append_left _ (List.mem_of_getElem? (i := 57) rfl)))), List.forall_mem_cons.mpr ⟨(List.mem_append_right _ (List.mem_append_right _ (List.mem_append_right _ (List.mem_append_right _ (List.mem_append_right _ (List.mem_of_getElem? (i := 238) rfl)))))), List.forall_mem_cons.mpr ⟨(List.mem_append_right _ (List.mem_append_right _ (List.mem_append_left _ (List.mem_of_getElem? (i := 59) rfl)))), List.forall_mem_cons.mpr ⟨(List.mem_append_right _ (List.mem_append_right _ (List.mem_append_left _ (List.mem_of_getElem? (i := 60) rfl)))), List.forall_mem_cons.mpr ⟨(List.mem_append_right _ (List.mem_append_right _ (List.mem_append_left _ (List.mem_of_getElem? (i := 61) rfl)))), List.forall_mem_cons.mpr ⟨(List.mem_append_right _ (List.mem_append_right _ (List.mem_append_left _ (List.mem_of_getElem? (i := 62) rfl)))), List.forall_mem_cons.mpr ⟨(List.mem_append_right _ (List.mem_append_right _ (List.mem_append_left _ (List.mem_of_getElem? (i := 63) rfl)))), List.forall_mem_cons.mpr ⟨(List.mem_append_right _ (List.mem_append_right _ (List.mem_append_left _ (List.mem_of_getElem? (i := 64) rfl)))), List.forall_mem_cons.mpr ⟨(List.mem_append_right _ (List.mem_append_right _ (List.mem_append_left _ (List.mem_of_getElem? (i := 65) rfl)))), List.forall_mem_cons.mpr ⟨(List.mem_append_right _ (List.mem_append_right _ (List.mem_append_left _ (List.mem_of_getElem? (i := 66) rfl)))), List.forall_mem_cons.mpr ⟨(List.mem_append_right _ (List.mem_append_right _ (List.mem_append_left _ (List.mem_of_getElem? (i := 67) rfl)))), List.forall_mem_cons.mpr ⟨(List.mem_append_right _ (List.mem_append_right _ (List.mem_append_left _ (List.mem_of_getElem? (i := 68) rfl)))), List.forall_mem_cons.mpr ⟨(List.mem_append_right _ (List.mem_append_left _ (List.mem_of_getElem? (i := 13) rfl))), List.forall_mem_cons.mpr ⟨(List.mem_append_right _ (List.mem_append_right _ (List.mem_append_left _ (List.mem_of_getElem? (i := 69) rfl)))), List.forall_mem_cons.mpr ⟨(List.mem_append_right _ (List.mem_append_right _ (List.mem_append_left _ (List.mem_of_getElem? (i := 70) rfl)))), List.forall_mem_cons.mpr ⟨(List.mem_append_right _ (List.mem_append_right _ (List.mem_append_left _ (List.mem_of_getElem? (i := 71) rfl)))), List.forall_mem_cons.mpr ⟨(List.mem_append_right _ (List.mem_append_right _ (List.mem_append_left _ (List.mem_of_getElem? (i := 72) rfl)))), List.forall_mem_cons.mpr ⟨(List.mem_append_right _ (List.mem_append_right _ (List.mem_append_left _ (List.mem_of_getElem? (i := 73) rfl)))), List.forall_mem_cons.mpr ⟨(List.mem_append_right _ (List.mem_append_right _ (List.mem_append_left _ (List.mem_of_getElem? (i := 75) rfl)))), fun _ h => absurd h List.not_mem_nil⟩⟩⟩⟩⟩⟩⟩⟩⟩⟩⟩⟩⟩⟩⟩⟩⟩⟩⟩⟩⟩⟩⟩⟩
theorem wsL_law_r7_g : wsL_law_r7.all goodWord = true := by decide +kernel
set_option maxRecDepth 20000 in
theorem wsL_law_r8_in : ∀ w ∈ wsL_law_r8, w ∈ lw_tbl := List.forall_mem_cons.mpr ⟨(List.mem_append_right _ (List.mem_append_right _ (List.mem_append_left _ (List.mem_of_getElem? (i := 76) rfl)))), List.forall_mem_cons.mpr ⟨(List.mem_append_right _ (List.mem_append_left _ (List.mem_of_getElem? (i := 14) rfl))), List.forall_mem_cons.mpr ⟨(List.mem_append_right _ (List.mem_append_right _ (List.mem_append_left _ (List.mem_of_getElem? (i := 77) rfl)))), List.forall_mem_cons.mpr ⟨(List.mem_append_right _ (List.mem_append_right _ (List.mem_append_left _ (List.mem_of_getElem? (i := 78) rfl)))), List.forall_mem_cons.mpr ⟨(List.mem_append_right _ (List.mem_append_right _ (List.mem_append_left _ (List.mem_of_getElem? (i := 79) rfl)))), List.forall_mem_cons.mpr ⟨(List.mem_append_right _ (List.mem_append_left _ (List.mem_of_getElem? (i := 15) rfl))), List.forall_mem_cons.mpr ⟨(List.mem_append_right _ (List.mem_append_right _ (List.mem_append_left _ (List.mem_of_getElem? (i := 80) rfl)))), List.forall_mem_cons.mpr ⟨(List.mem_append_right _ (List.mem_append_right _ (List.mem_append_left _ (List.mem_of_getElem? (i := 81) rfl)))), List.forall_mem_cons.mpr ⟨(List.mem_append_right _ (List.mem_append_right _ (List.mem_append_left _ (List.mem_of_getElem? (i := 82) rfl)))), List.forall_mem_cons.mpr ⟨(List.mem_append_right _ (List.mem_append_right _ (List.mem_append_left _ (List.mem_of_getElem? (i := 83) rfl)))), List.forall_mem_cons.mpr ⟨(List.mem_append_right _ (List.mem_append_right _ (List.mem_append_left _ (List.mem_of_getElem? (i := 84) rfl)))), List.forall_mem_cons.mpr ⟨(List.mem_append_right _ (List.mem_append_right _ (List.mem_append_left _ (List.mem_of_getElem? (i := 85) rfl)))), List.forall_mem_cons.mpr ⟨(List.mem_append_right _ (List.mem_append_right _ (List.mem_append_left _ (List.mem_of_getElem? (i := 86) rfl)))), List.forall_mem_cons.mpr ⟨(List.mem_append_right _ (List.mem_append_right _ (List.mem_append_left _ (List.mem_of_getElem? (i := 87) rfl)))), List.forall_mem_cons.mpr ⟨(List.mem_append_right _ (List.mem_append_right _ (List.mem_append_left _ (List.mem_of_getElem? (i := 88) rfl)))), List.forall_mem_cons.mpr ⟨(List.mem_append_right _ (List.mem_append_right _ (List.mem_append_left _ (List.mem_of_getElem? (i := 89) rfl)))), List.forall_mem_cons.mpr ⟨(List.mem_append_right _ (List.mem_append_right _ (List.mem_append_left _ (List.mem_of_getElem? (i := 90) rfl)))), List.forall_mem_cons.mpr ⟨(List.mem_append_right _ (List.mem_append_right _ (List.mem_append_left _ (List.mem_of_getElem? (i := 91) rfl)))), List.forall_mem_cons.mpr ⟨(List.mem_append_right _ (List.mem_append_right _ (List.mem_append_left _ (List.mem_of_getElem? (i := 93) rfl)))), List.forall_mem_cons.mpr ⟨(List.mem_append_right _ (List.mem_append_right _ (List.mem_append_left _ (List.mem_of_getElem? (i := 95) rfl)))), List.forall_mem_cons.mpr ⟨(List.mem_append_right _ (List.mem_append_right _ (List.mem_append_left _ (List.mem_of_getElem? (i := 97) rfl)))), List.forall_mem_cons.mpr ⟨(List.mem_append_right _ (List.mem_append_right _ (List.mem_append_left _ (List.mem_of_getElem? (i := 98) rfl)))), List.forall_mem_cons.mpr ⟨(List.mem_append_right _ (List.mem_append_right _ (List.mem_append_left _ (List.mem_of_getElem? (i := 99) rfl)))), List.forall_mem_cons.mpr ⟨(List.mem_append_right _ (List.mem_append_right _ (List.mem_append_left _ (List.mem_of_getElem? (i := 100) rfl)))), fun _ h => absurd h List.not_mem_nil⟩⟩⟩⟩⟩⟩⟩⟩⟩⟩⟩⟩⟩⟩⟩⟩⟩⟩⟩⟩⟩⟩⟩⟩
theorem wsL_law_r8_g : wsL_law_r8.all goodWord = true := by decide +kernel
set_option maxRecDepth 20000 in
theorem wsL_law_r9_in : ∀ w ∈ wsL_law_r9, w ∈ lw_tbl := List.forall_mem_cons.mpr ⟨(List.mem_append_right _ (List.mem_append_right _ (List.mem_append_left _ (List.mem_of_getElem? (i := 101) rfl)))), List.forall_mem_cons.mpr ⟨(List.mem_append_right _ (List.mem_append_right _ (List.mem_append_left _ (List.mem_of_getElem? (i := 103) rfl)))), List.forall_mem_cons.mpr ⟨(List.mem_append_left _ (List.mem_of_getElem? (i := 0) rfl)), List.forall_mem_cons.mpr ⟨(List.mem_append_right _ (List.mem_append_right _ (List.mem_append_left _ (List.mem_of_getElem? (i := 104) rfl)))), List.forall_mem_cons.mpr ⟨(List.mem_append_right _ (List.mem_append_left _ (List.mem_of_getElem? (i := 79) rfl))), List.forall_mem_cons.mpr ⟨(List.mem_append_right _ (List.mem_append_left _ (List.mem_of_getElem? (i := 154) rfl))), List.forall_mem_cons.mpr ⟨(List.mem_append_right _ (List.mem_append_left _ (List.mem_of_getElem? (i := 86) rfl))), List.forall_mem_cons.mpr ⟨(List.mem_append_right _ (List.mem_append_right _ (List.mem_append_left _ (List.mem_of_getElem? (i := 105) rfl)))), List.forall_mem_cons.mpr ⟨(List.mem_append_right _ (List.mem_append_right _ (List.mem_append_left _ (List.mem_of_getElem? (i := 106) rfl)))), List.forall_mem_cons.mpr ⟨(List.mem_append_right _ (List.mem_append_right _ (List.mem_append_left _ (List.mem_of_getElem? (i := 107) rfl)))), List.forall_mem_cons.mpr ⟨(List.mem_append_right _ (List.mem_append_right _ (List.mem_append_left _ (List.mem_of_getElem? (i := 108) rfl)))), List.forall_mem_cons.mpr ⟨(List.mem_append_right _ (List.mem_append_left _ (List.mem_of_getElem? (i := 35) rfl))), List.forall_mem_cons.mpr ⟨(List.mem_append_right _ (List.mem_append_right _ (List.mem_append_left _ (List.mem_of_getElem? (i := 109) rfl)))), List.forall_mem_cons.mpr ⟨(List.mem_append_right _ (List.mem_append_right _ (List.mem_append_left _ (List.mem_of_getElem? (i := 110) rfl)))), List.forall_mem_cons.mpr ⟨(List.mem_append_right _ (List.mem_append_right _ (List.mem_append_left _ (List.mem_of_getElem? (i := 111) rfl)))), List.forall_mem_cons.mpr ⟨(List.mem_append_right _ (List.mem_append_right _ (List.mem_append_left _ (List.mem_of_getElem? (i := 112) rfl)))), List.forall_mem_cons.mpr ⟨(List.mem_append_right _ (List.mem_append_left _ (List.mem_of_getElem? (i := 63) rfl))), List.forall_mem_cons.mpr ⟨(List.mem_append_right _ (List.mem_append_left _ (List.mem_of_getElem? (i := 68) rfl))), List.forall_mem_cons.mpr ⟨(List.mem_append_right _ (List.mem_append_left _ (List.mem_of_getElem? (i := 75) rfl))), List.forall_mem_cons.mpr ⟨(List.mem_append_right _ (List.mem_append_left _ (List.mem_of_getElem? (i := 80) rfl))), List.forall_mem_cons.mpr ⟨(List.mem_append_right _ (List.mem_append_right _ (List.mem_append_left _ (List.mem_of_getElem? (i := 113) rfl)))), List.forall_mem_cons.mpr ⟨(List.mem_append_right _ (List.mem_append_right _ (List.mem_append_left _ (List.mem_of_getElem? (i := 115) rfl)))), List.forall_mem_cons.mpr ⟨(List.mem_append_left _ (List.mem_of_getElem? (i := 1) rfl)), List.forall_mem_cons.mpr ⟨(List.mem_append_right _ (List.mem_append_right _ (List.mem_append_left _ (List.mem_of_getElem? (i := 116) rfl)))), fun _ h => absurd h List.not_mem_nil⟩⟩⟩⟩⟩⟩⟩⟩⟩⟩⟩⟩⟩⟩⟩⟩⟩⟩⟩⟩⟩⟩⟩⟩
theorem wsL_law_r9_g : wsL_law_r9.all goodWord = true := by decide +kernel
set_option maxRecDepth 20000 in
theorem wsL_law_r10_in : ∀ w ∈ wsL_law_r10, w ∈ lw_tbl := List.forall_mem_cons.mpr ⟨(List.mem_append_right _ (List.mem_append_right _ (List.mem_append_left _ (List.mem_of_getElem? (i := 117) rfl)))), List.forall_mem_cons.mpr ⟨(List.mem_append_right _ (List.mem_append_right _ (List.mem_append_left _ (List.mem_of_getElem? (i := 118) rfl)))), List.forall_mem_cons.mpr ⟨(List.mem_append_right _ (List.mem_append_right _ (List.mem_append_left _ (List.mem_of_getElem? (i := 119) rfl)))), List.forall_mem_cons.mpr ⟨(List.mem_append_right _ (List.mem_append_right _ (List.mem_append_left _ (List.mem_of_getElem? (i := 120) rfl)))), List.forall_mem_cons.mpr ⟨(List.mem_append_right _ (List.mem_append_right _ (List.mem_append_left _ (List.mem_of_getElem? (i := 121) rfl)))), List.forall_mem_cons.mpr ⟨(List.mem_append_right _ (List.mem_append_right _ (List.mem_append_left _ (List.mem_of_getElem? (i := 123) rfl)))), List.forall_mem_cons.mpr ⟨(List.mem_append_left _ (List.mem_of_getElem? (i := 2) rfl)), List.forall_mem_cons.mpr ⟨(List.mem_append_right _ (List.mem_append_right _ (List.mem_append_left _ (List.mem_of_getElem? (i := 124) rfl)))), List.forall_mem_cons.mpr ⟨(List.mem_append_right _ (List.mem_append_left _ (List.mem_of_getElem? (i := 65) rfl))), List.forall_mem_cons.mpr ⟨(List.mem_append_right _ (List.mem_append_right _ (List.mem_append_left _ (List.mem_of_getElem? (i := 125) rfl)))), List.forall_mem_cons.mpr ⟨(List.mem_append_right _ (List.mem_append_right _ (List.mem_append_left _ (List.mem_of_getElem? (i := 127) rfl)))), List.forall_mem_cons.mpr ⟨(List.mem_append_left _ (List.mem_of_getElem? (i := 3) rfl)), List.forall_mem_cons.mpr ⟨(List.mem_append_right _ (List.mem_append_right _ (List.mem_append_left _ (List.mem_of_getElem? (i := 128) rfl)))), List.forall_mem_cons.mpr ⟨(List.mem_append_right _ (List.mem_append_right _ (List.mem_append_left _ (List.mem_of_getElem? (i := 129) rfl)))), List.forall_mem_cons.mpr ⟨(List.mem_append_right _ (List.mem_append_right _ (List.mem_append_left _ (List.mem_of_getElem? (i := 130) rfl)))), List.forall_mem_cons.mpr ⟨(List.mem_append_right _ (List.mem_append_right _ (List.mem_append_left _ (List.mem_of_getElem? (i := 131) rfl)))), List.forall_mem_cons.mpr ⟨(List.mem_append_right _ (List.mem_append_right _ (List.mem_append_left _ (List.mem_of_getElem? (i := 132) rfl)))), List.forall_mem_cons.mpr ⟨(List.mem_append_right _ (List.mem_append_right _ (List.mem_append_left _ (List.mem_of_getElem? (i := 133) rfl)))), List.forall_mem_cons.mpr ⟨(List.mem_append_right _ (List.mem_append_right _ (List.mem_append_left _ (List.mem_of_getElem? (i := 135) rfl)))), List.forall_mem_cons.mpr ⟨(List.mem_append_left _ (List.mem_of_getElem? (i := 4) rfl)), List.forall_mem_cons.mpr ⟨(List.mem_append_right _ (List.mem_append_right _ (List.mem_append_left _ (List.mem_of_getElem? (i := 136) rfl)))), List.forall_mem_cons.mpr ⟨(List.mem_append_right _ (List.mem_append_left _ (List.mem_of_getElem? (i := 71) rfl))), List.forall_mem_cons.mpr ⟨(List.mem_append_right _ (List.mem_append_right _ (List.mem_append_left _ (List.mem_of_getElem? (i := 137) rfl)))), List.forall_mem_cons.mpr ⟨(List.mem_append_right _ (List.mem_append_right _ (List.mem_append_left _ (List.mem_of_getElem? (i := 139) rfl)))), fun _ h => absurd h List.not_mem_nil⟩⟩⟩⟩⟩⟩⟩⟩⟩⟩⟩⟩⟩⟩⟩⟩⟩⟩⟩⟩⟩⟩⟩⟩
theorem wsL_law_r10_g : wsL_law_r10.all goodWord = true := by decide +kernel
set_option maxRecDepth 20000 in
theorem wsL_law_r11_in : ∀ w ∈ wsL_law_r11, w ∈ lw_tbl := List.forall_mem_cons.mpr ⟨(List.mem_append_left _ (List.mem_of_getElem? (i := 5) rfl)), List.forall_mem_cons.mpr ⟨(List.mem_append_right _ (List.mem_append_right _ (List.mem_append_left _ (List.mem_of_getElem? (i := 140) rfl)))), List.forall_mem_cons.mpr ⟨(List.mem_append_right _ (List.mem_append_left _ (List.mem_of_getElem? (i := 77) rfl))), List.forall_mem_cons.mpr ⟨(List.mem_append_right _ (List.mem_append_left _ (List.mem_of_getElem? (i := 100) rfl))), List.forall_mem_cons.mpr ⟨(List.mem_append_right _ (List.mem_append_left _ (List.mem_of_getElem? (i := 85) rfl))), List.forall_mem_cons.mpr ⟨(List.mem_append_right _ (List.mem_append_left _ (List.mem_of_getElem? (i := 89) rfl))), List.forall_mem_cons.mpr ⟨(List.mem_append_right _ (List.mem_append_left _ (List.mem_of_getElem? (i := 94) rfl))), List.forall_mem_cons.mpr ⟨(List.mem_append_right _ (List.mem_append_left _ (List.mem_of_getElem? (i := 98) rfl))), List.forall_mem_cons.mpr ⟨(List.mem_append_right _ (List.mem_append_right _ (List.mem_append_left _ (List.mem_of_getElem? (i := 141) rfl)))), List.forall_mem_cons.mpr ⟨(List.mem_append_right _ (List.mem_append_right _ (List.mem_append_left _ (List.mem_of_getElem? (i := 143) rfl)))), List.forall_mem_cons.mpr ⟨(List.mem_append_left _ (List.mem_of_getElem? (i := 6) rfl)), List.forall_mem_cons.mpr ⟨(List.mem_append_right _ (List.mem_append_right _ (List.mem_append_left _ (List.mem_of_getElem? (i := 144) rfl)))), List.forall_mem_cons.mpr ⟨(List.mem_append_right _ (List.mem_append_right _ (List.mem_append_left _ (List.mem_of_getElem? (i := 145) rfl)))), List.forall_mem_cons.mpr ⟨(List.mem_append_right _ (List.mem_append_right _ (List.mem_append_left _ (List.mem_of_getElem? (i := 147) rfl)))), List.forall_mem_cons.mpr ⟨(List.mem_append_left _ (List.mem_of_getElem? (i := 7) rfl)), List.forall_mem_cons.mpr ⟨(List.mem_append_right _ (List.mem_append_right _ (List.mem_append_left _ (List.mem_of_getElem? (i := 148) rfl)))), List.forall_mem_cons.mpr ⟨(List.mem_append_right _ (List.mem_append_left _ (List.mem_of_getElem? (i := 82) rfl))), List.forall_mem_cons.mpr ⟨(List.mem_append_right _ (List.mem_append_left _ (List.mem_of_getElem? (i := 104) rfl))), List.forall_mem_cons.mpr ⟨(List.mem_append_right _ (List.mem_append_left _ (List.mem_of_getElem? (i := 107) rfl))), List.forall_mem_cons.mpr ⟨(List.mem_append_right _ (List.mem_append_right _ (List.mem_append_left _ (List.mem_of_getElem? (i := 149) rfl)))), List.forall_mem_cons.mpr ⟨(List.mem_append_right _ (List.mem_append_right _ (List.mem_append_left _ (List.mem_of_getElem? (i := 150) rfl)))), List.forall_mem_cons.mpr ⟨(List.mem_append_right _ (List.mem_append_right _ (List.mem_append_left _ (List.mem_of_getElem? (i := 151) rfl)))), List.forall_mem_cons.mpr ⟨(List.mem_append_right _ (List.mem_append_right _ (List.mem_append_left _ (List.mem_of_getElem? (i := 152) rfl)))), List.forall_mem_cons.mpr ⟨(List.mem_append_right _ (List.mem_append_right _ (List.mem_append_left _ (List.mem_of_getElem? (i := 153) rfl)))), fun _ h => absurd h List.not_mem_nil⟩⟩⟩⟩⟩⟩⟩⟩⟩⟩⟩⟩⟩⟩⟩⟩⟩⟩⟩⟩⟩⟩⟩⟩
theorem wsL_law_r11_g : wsL_law_r11.all goodWord = true := by decide +kernel
set_option maxRecDepth 20000 in
theorem wsL_law_r12_in : ∀ w ∈ wsL_law_r12, w ∈ lw_tbl := List.forall_mem_cons.mpr ⟨(List.mem_append_right _ (List.mem_append_right _ (List.mem_append_left _ (List.mem_of_getElem? (i := 155) rfl)))), List.forall_mem_cons.mpr ⟨(List.mem_append_left _ (List.mem_of_getElem? (i := 8) rfl)), List.forall_mem_cons.mpr ⟨(List.mem_append_right _ (List.mem_append_right _ (List.mem_append_left _ (List.mem_of_getElem? (i := 156) rfl)))), List.forall_mem_cons.mpr ⟨(List.mem_append_right _ (List.mem_append_right _ (List.mem_append_left _ (List.mem_of_getElem? (i := 157) rfl)))), List.forall_mem_cons.mpr ⟨(List.mem_append_right _ (List.mem_append_right _ (List.mem_append_left _ (List.mem_of_getElem? (i := 159) rfl)))), List.forall_mem_cons.mpr ⟨(List.mem_append_left _ (List.mem_of_getElem? (i := 9) rfl)), List.forall_mem_cons.mpr ⟨(List.mem_append_right _ (List.mem_append_right _ (List.mem_append_left _ (List.mem_of_getElem? (i := 160) rfl)))), List.forall_mem_cons.mpr ⟨(List.mem_append_right _ (List.mem_append_right _ (List.mem_append_left _ (List.mem_of_getElem? (i := 169) rfl)))), List.forall_mem_cons.mpr ⟨(List.mem_append_right _ (List.mem_append_right _ (List.mem_append_left _ (List.mem_of_getElem? (i := 161) rfl)))), List.forall_mem_cons.mpr ⟨(List.mem_append_right _ (List.mem_append_right _ (List.mem_append_left _ (List.mem_of_getElem? (i := 163) rfl)))), List.forall_mem_cons.mpr ⟨(List.mem_append_left _ (List.mem_of_getElem? (i := 10) rfl)), List.forall_mem_cons.mpr ⟨(List.mem_append_right _ (List.mem_append_right _ (List.mem_append_left _ (List.mem_of_getElem? (i := 164) rfl)))), List.forall_mem_cons.mpr ⟨(List.mem_append_right _ (List.mem_append_right _ (List.mem_append_left _ (List.mem_of_getElem? (i := 165) rfl)))), List.forall_mem_cons.mpr ⟨(List.mem_append_right _ (List.mem_append_right _ (List.mem_append_left _ (List.mem_of_getElem? (i := 167) rfl)))), List.forall_mem_cons.mpr ⟨(List.mem_append_left _ (List.mem_of_getElem? (i := 11) rfl)), List.forall_mem_cons.mpr ⟨(List.mem_append_right _ (List.mem_append_right _ (List.mem_append_left _ (List.mem_of_getElem? (i := 168) rfl)))), List.forall_mem_cons.mpr ⟨(List.mem_append_right _ (List.mem_append_right _ (List.mem_append_left _ (List.mem_of_getElem? (i := 170) rfl)))), List.forall_mem_cons.mpr ⟨(List.mem_append_right _ (List.mem_append_right _ (List.mem_append_left _ (List.mem_of_getElem? (i := 171) rfl)))), List.forall_mem_cons.mpr ⟨(List.mem_append_right _ (List.mem_append_right _ (List.mem_append_left _ (List.mem_of_getElem? (i := 172) rfl)))), List.forall_mem_cons.mpr ⟨(List.mem_append_right _ (List.mem_append_right _ (List.mem_append_left _ (List.mem_of_getElem? (i := 173) rfl)))), List.forall_mem_cons.mpr ⟨(List.mem_append_right _ (List.mem_append_left _ (List.mem_of_getElem? (i := 81) rfl))), List.forall_mem_cons.mpr ⟨(List.mem_append_right _ (List.mem_append_left _ (List.mem_of_getElem? (i := 106) rfl))), List.forall_mem_cons.mpr ⟨(List.mem_append_right _ (List.mem_append_left _ (List.mem_of_getElem? (i := 103) rfl))), List.forall_mem_cons.mpr ⟨(List.mem_append_right _ (List.mem_append_right _ (List.mem_append_left _ (List.mem_of_getElem? (i := 174) rfl)))), fun _ h => absurd h List.not_mem_nil⟩⟩⟩⟩⟩⟩⟩⟩⟩⟩⟩⟩⟩⟩⟩⟩⟩⟩⟩⟩⟩⟩⟩⟩
theorem wsL_law_r12_g : wsL_law_r12.all goodWord = true := by decide +kernel
set_option maxRecDepth 20000 in
theorem wsL_law_r13_in : ∀ w ∈ wsL_law_r13, w ∈ lw_tbl := List.forall_mem_cons.mpr ⟨(List.mem_append_right _ (List.mem_append_right _ (List.mem_append_left _ (List.mem_of_getElem? (i := 175) rfl)))), List.forall_mem_cons.mpr ⟨(List.mem_append_right _ (List.mem_append_right _ (List.mem_append_left _ (List.mem_of_getElem? (i := 176) rfl)))), List.forall_mem_cons.mpr ⟨(List.mem_append_right _ (List.mem_append_right _ (List.mem_append_left _ (List.mem_of_getElem? (i := 177) rfl)))), List.forall_mem_cons.mpr ⟨(List.mem_append_right _ (List.mem_append_right _ (List.mem_append_left _ (List.mem_of_getElem? (i := 178) rfl)))), List.forall_mem_cons.mpr ⟨(List.mem_append_right _ (List.mem_append_right _ (List.mem_append_left _ (List.mem_of_getElem? (i := 179) rfl)))), List.forall_mem_cons.mpr ⟨(List.mem_append_right _ (List.mem_append_right _ (List.mem_append_left _ (List.mem_of_getElem? (i := 180) rfl)))), List.forall_mem_cons.mpr ⟨(List.mem_append_right _ (List.mem_append_right _ (List.mem_append_left _ (List.mem_of_getElem? (i := 181) rfl)))), List.forall_mem_cons.mpr ⟨(List.mem_append_right _ (List.mem_append_right _ (List.mem_append_left _ (List.mem_of_getElem? (i := 182) rfl)))), List.forall_mem_cons.mpr ⟨(List.mem_append_right _ (List.mem_append_right _ (List.mem_append_left _ (List.mem_of_getElem? (i := 183) rfl)))), List.forall_mem_cons.mpr ⟨(List.mem_append_right _ (List.mem_append_right _ (List.mem_append_left _ (List.mem_of_getElem? (i := 184) rfl)))), List.forall_mem_cons.mpr ⟨(List.mem_append_right _ (List.mem_append_right _ (List.mem_append_left _ (List.mem_of_getElem? (i := 185) rfl)))), List.forall_mem_cons.mpr ⟨(List.mem_append_right _ (List.mem_append_right _ (List.mem_append_left _ (List.mem_of_getElem? (i := 186) rfl)))), List.forall_mem_cons.mpr ⟨(List.mem_append_right _ (List.mem_append_right _ (List.mem_append_left _ (List.mem_of_getElem? (i := 187) rfl)))), List.forall_mem_cons.mpr ⟨(List.mem_append_right _ (List.mem_append_right _ (List.mem_append_left _ (List.mem_of_getElem? (i := 188) rfl)))), List.forall_mem_cons.mpr ⟨(List.mem_append_right _ (List.mem_append_right _ (List.mem_append_left _ (List.mem_of_getElem? (i := 189) rfl)))), List.forall_mem_cons.mpr ⟨(List.mem_append_right _ (List.mem_append_right _ (List.mem_append_left _ (List.mem_of_getElem? (i := 190) rfl)))), List.forall_mem_cons.mpr ⟨(List.mem_append_right _ (List.mem_append_right _ (List.mem_append_left _ (List.mem_of_getElem? (i := 191) rfl)))), List.forall_mem_cons.mpr ⟨(List.mem_append_right _ (List.mem_append_right _ (List.mem_append_left _ (List.mem_of_getElem? (i := 192) rfl)))), List.forall_mem_cons.mpr ⟨(List.mem_append_right _ (List.mem_append_right _ (List.mem_append_left _ (List.mem_of_getElem? (i := 193) rfl)))), List.forall_mem_cons.mpr ⟨(List.mem_append_right _ (List.mem_append_right _ (List.mem_append_left _ (List.mem_of_getElem? (i := 194) rfl)))), List.forall_mem_cons.mpr ⟨(List.mem_append_right _ (List.mem_append_right _ (List.mem_append_left _ (List.mem_of_getElem? (i := 195) rfl)))), List.forall_mem_cons.mpr ⟨(List.mem_append_right _ (List.mem_append_right _ (List.mem_append_left _ (List.mem_of_getElem? (i := 196) rfl)))), List.forall_mem_cons.mpr ⟨(List.mem_append_right _ (List.mem_append_right _ (List.mem_append_left _ (List.mem_of_getElem? (i := 197) rfl)))), List.forall_mem_cons.mpr ⟨(List.mem_append_right _ (List.mem_append_right _ (List.mem_append_right _ (List.mem_append_right _ (List.mem_append_left _ (List.mem_of_getElem? (i := 56) rfl)))))), fun _ h => absurd h List.not_mem_nil⟩⟩⟩⟩⟩⟩⟩⟩⟩⟩⟩⟩⟩⟩⟩⟩⟩⟩⟩⟩⟩⟩⟩⟩
theorem wsL_law_r13_g : wsL_law_r13.all goodWord = true := by decide +kernel
set_option maxRecDepth 20000 in
theorem wsL_law_r14_in : ∀ w ∈ wsL_law_r14, w ∈ lw_tbl := List.forall_mem_cons.mpr ⟨(List.mem_append_right _ (List.mem_append_right _ (List.mem_append_right _ (List.mem_append_right _ (List.mem_append_left _ (List.mem_of_getElem? (i := 57) rfl)))))), List.forall_mem_cons.mpr ⟨(List.mem_append_right _ (List.mem_append_right _ (List.mem_append_right _ (List.mem_append_right _ (List.mem_append_left _ (List.mem_of_getElem? (i := 58) rfl)))))), List.forall_mem_cons.mpr ⟨(List.mem_append_right _ (List.mem_append_right _ (List.mem_append_right _ (List.mem_append_right _ (List.mem_append_left _ (List.mem_of_getElem? (i := 59) rfl)))))), List.forall_mem_cons.mpr ⟨(List.mem_append_right _ (List.mem_append_right _ (List.mem_append_right _ (List.mem_append_right _ (List.mem_append_left _ (List.mem_of_getElem? (i := 78) rfl)))))), List.forall_mem_cons.mpr ⟨(List.mem_append_right _ (List.mem_append_right _ (List.mem_append_right _ (List.mem_append_right _ (List.mem_append_left _ (List.mem_of_getElem? (i := 79) rfl)))))), List.forall_mem_cons.mpr ⟨(List.mem_append_right _ (List.mem_append_right _ (List.mem_append_right _ (List.mem_append_right _ (List.mem_append_left _ (List.mem_of_getElem? (i := 80) rfl)))))), List.forall_mem_cons.mpr ⟨(List.mem_append_right _ (List.mem_append_right _ (List.mem_append_right _ (List.mem_append_right _ (List.mem_append_left _ (List.mem_of_getElem? (i := 81) rfl)))))), List.forall_mem_cons.mpr ⟨(List.mem_append_right _ (List.mem_append_right _ (List.mem_append_right _ (List.mem_append_right _ (List.mem_append_left _ (List.mem_of_getElem? (i := 82) rfl)))))), List.forall_mem_cons.mpr ⟨(List.mem_append_right _ (List.mem_append_right _ (List.mem_append_right _ (List.mem_append_right _ (List.mem_append_left _ (List.mem_of_getElem? (i := 83) rfl)))))), List.forall_mem_cons.mpr ⟨(List.mem_append_right _ (List.mem_append_right _ (List.mem_append_right _ (List.mem_append_right _ (List.mem_append_left _ (List.mem_of_getElem? (i := 84) rfl)))))), List.forall_mem_cons.mpr ⟨(List.mem_append_right _ (List.mem_append_right _ (List.mem_append_right _ (List.mem_append_right _ (List.mem_append_left _ (List.mem_of_getElem? (i := 85) rfl)))))), List.forall_mem_cons.mpr ⟨(List.mem_append_right _ (List.mem_append_right _ (List.mem_append_right _ (List.mem_append_right _ (List.mem_append_left _ (List.mem_of_getElem? (i := 87) rfl)))))), List.forall_mem_cons.mpr ⟨(List.mem_append_right _ (List.mem_append_right _ (List.mem_append_right _ (List.mem_append_right _ (List.mem_append_left _ (List.mem_of_getElem? (i := 89) rfl)))))), List.forall_mem_cons.mpr ⟨(List.mem_append_right _ (List.mem_append_right _ (List.mem_append_right _ (List.mem_append_right _ (List.mem_append_left _ (List.mem_of_getElem? (i := 91) rfl)))))), List.forall_mem_cons.mpr ⟨(List.mem_append_right _ (List.mem_append_right _ (List.mem_append_right _ (List.mem_append_right _ (List.mem_append_left _ (List.mem_of_getElem? (i := 93) rfl)))))), List.forall_mem_cons.mpr ⟨(List.mem_append_right _ (List.mem_append_right _ (List.mem_append_right _ (List.mem_append_right _ (List.mem_append_left _ (List.mem_of_getElem? (i := 101) rfl)))))), List.forall_mem_cons.mpr ⟨(List.mem_append_right _ (List.mem_append_right _ (List.mem_append_right _ (List.mem_append_right _ (List.mem_append_left _ (List.mem_of_getElem? (i := 102) rfl)))))), List.forall_mem_cons.mpr ⟨(List.mem_append_right _ (List.mem_append_right _ (List.mem_append_right _ (List.mem_append_right _ (List.mem_append_left _ (List.mem_of_getElem? (i := 103) rfl)))))), List.forall_mem_cons.mpr ⟨(List.mem_append_right _ (List.mem_append_right _ (List.mem_append_right _ (List.mem_append_right _ (List.mem_append_left _ (List.mem_of_getElem? (i := 104) rfl)))))), List.forall_mem_cons.mpr ⟨(List.mem_append_right _ (List.mem_append_right _ (List.mem_append_right _ (List.mem_append_right _ (List.mem_append_left _ (List.mem_of_getElem? (i := 105) rfl)))))), List.forall_mem_cons.mpr ⟨(List.mem_append_right _ (List.mem_append_right _ (List.mem_append_right _ (List.mem_append_right _ (List.mem_append_left _ (List.mem_of_getElem? (i := 106) rfl)))))), List.forall_mem_cons.mpr ⟨(List.mem_append_right _ (List.mem_append_right _ (List.mem_append_right _ (List.mem_append_right _ (List.mem_append_left _ (List.mem_of_getElem? (i := 107) rfl)))))), List.forall_mem_cons.mpr ⟨(List.mem_append_right _ (List.mem_append_right _ (List.mem_append_right _ (List.mem_append_right _ (List.mem_append_left _ (List.mem_of_getElem? (i := 108) rfl)))))), List.forall_mem_cons.mpr ⟨(List.mem_append_right _ (List.mem_append_right _ (List.mem_append_right _ (List.mem_append_right _ (List.mem_append_left _ (List.mem_of_getElem? (i := 109) rfl)))))), fun _ h => absurd h List.not_mem_nil⟩⟩⟩⟩⟩⟩⟩⟩⟩⟩⟩⟩⟩⟩⟩⟩⟩⟩⟩⟩⟩⟩⟩⟩
theorem wsL_law_r14_g : wsL_law_r14.all goodWord = true := by decide +kernel
set_option maxRecDepth 20000 in
theorem wsL_law_r15_in : ∀ w ∈ wsL_law_r15, w ∈ lw_tbl := List.forall_mem_cons.mpr ⟨(List.mem_append_right _ (List.mem_append_right _ (List.mem_append_right _ (List.mem_append_right _ (List.mem_append_left _ (List.mem_of_getElem? (i := 110) rfl)))))), List.forall_mem_cons.mpr ⟨(List.mem_append_right _ (List.mem_append_right _ (List.mem_append_right _ (List.mem_append_right _ (List.mem_append_left _ (List.mem_of_getElem? (i := 113) rfl)))))), List.forall_mem_cons.mpr ⟨(List.mem_append_right _ (List.mem_append_right _ (List.mem_append_right _ (List.mem_append_right _ (List.mem_append_left _ (List.mem_of_getElem? (i := 114) rfl)))))), List.forall_mem_cons.mpr ⟨(List.mem_append_right _ (List.mem_append_right _ (List.mem_append_right _ (List.mem_append_right _ (List.mem_append_left _ (List.mem_of_getElem? (i := 115) rfl)))))), List.forall_mem_cons.mpr ⟨(List.mem_append_right _ (List.mem_append_right _ (List.mem_append_right _ (List.mem_append_right _ (List.mem_append_left _ (List.mem_of_getElem? (i := 116) rfl)))))), List.forall_mem_cons.mpr ⟨(List.mem_append_right _ (List.mem_append_right _ (List.mem_append_right _ (List.mem_append_right _ (List.mem_append_left _ (List.mem_of_getElem? (i := 117) rfl)))))), List.forall_mem_cons.mpr ⟨(List.mem_append_right _ (List.mem_append_right _ (List.mem_append_right _ (List.mem_append_right _ (List.mem_append_left _ (List.mem_of_getElem? (i := 74) rfl)))))), List.forall_mem_cons.mpr ⟨(List.mem_append_right _ (List.mem_append_right _ (List.mem_append_right _ (List.mem_append_right _ (List.mem_append_left _ (List.mem_of_getElem? (i := 75) rfl)))))), List.forall_mem_cons.mpr ⟨(List.mem_append_right _ (List.mem_append_right _ (List.mem_append_right _ (List.mem_append_right _ (List.mem_append_left _ (List.mem_of_getElem? (i := 60) rfl)))))), List.forall_mem_cons.mpr ⟨(List.mem_append_right _ (List.mem_append_right _ (List.mem_append_right _ (List.mem_append_right _ (List.mem_append_left _ (List.mem_of_getElem? (i := 66) rfl)))))), List.forall_mem_cons.mpr ⟨(List.mem_append_right _ (List.mem_append_right _ (List.mem_append_right _ (List.mem_append_right _ (List.mem_append_left _ (List.mem_of_getElem? (i := 67) rfl)))))), List.forall_mem_cons.mpr ⟨(List.mem_append_right _ (List.mem_append_right _ (List.mem_append_right _ (List.mem_append_right _ (List.mem_append_left _ (List.mem_of_getElem? (i := 68) rfl)))))), List.forall_mem_cons.mpr ⟨(List.mem_append_right _ (List.mem_append_right _ (List.mem_append_right _ (List.mem_append_right _ (List.mem_append_left _ (List.mem_of_getElem? (i := 69) rfl)))))), List.forall_mem_cons.mpr ⟨(List.mem_append_right _ (List.mem_append_right _ (List.mem_append_right _ (List.mem_append_right _ (List.mem_append_left _ (List.mem_of_getElem? (i := 99) rfl)))))), List.forall_mem_cons.mpr ⟨(List.mem_append_right _ (List.mem_append_right _ (List.mem_append_right _ (List.mem_append_right _ (List.mem_append_left _ (List.mem_of_getElem? (i := 76) rfl)))))), List.forall_mem_cons.mpr ⟨(List.mem_append_right _ (List.mem_append_right _ (List.mem_append_right _ (List.mem_append_right _ (List.mem_append_left _ (List.mem_of_getElem? (i := 77) rfl)))))), List.forall_mem_cons.mpr ⟨(List.mem_append_right _ (List.mem_append_right _ (List.mem_append_right _ (List.mem_append_right _ (List.mem_append_left _ (List.mem_of_getElem? (i := 61) rfl)))))), List.forall_mem_cons.mpr ⟨(List.mem_append_right _ (List.mem_append_right _ (List.mem_append_right _ (List.mem_append_right _ (List.mem_append_left _ (List.mem_of_getElem? (i := 63) rfl)))))), List.forall_mem_cons.mpr ⟨(List.mem_append_left _ (List.mem_of_getElem? (i := 21) rfl)), List.forall_mem_cons.mpr ⟨(List.mem_append_right _ (List.mem_append_right _ (List.mem_append_right _ (List.mem_append_right _ (List.mem_append_left _ (List.mem_of_getElem? (i := 64) rfl)))))), List.forall_mem_cons.mpr ⟨(List.mem_append_right _ (List.mem_append_right _ (List.mem_append_right _ (List.mem_append_right _ (List.mem_append_left _ (List.mem_of_getElem? (i := 65) rfl)))))), List.forall_mem_cons.mpr ⟨(List.mem_append_right _ (List.mem_append_right _ (List.mem_append_right _ (List.mem_append_right _ (List.mem_append_left _ (List.mem_of_getElem? (i := 70) rfl)))))), List.forall_mem_cons.mpr ⟨(List.mem_append_right _ (List.mem_append_right _ (List.mem_append_right _ (List.mem_append_right _ (List.mem_append_left _ (List.mem_of_getElem? (i := 72) rfl)))))), List.forall_mem_cons.mpr ⟨(List.mem_append_left _ (List.mem_of_getElem? (i := 22) rfl)), fun _ h => absurd h List.not_mem_nil⟩⟩⟩⟩⟩⟩⟩⟩⟩⟩⟩⟩⟩⟩⟩⟩⟩⟩⟩⟩⟩⟩⟩⟩
theorem wsL_law_r15_g : wsL_law_r15.all goodWord = true := by decide +kernel
set_option maxRecDepth 20000 in
theorem wsL_law_r16_in : ∀ w ∈ wsL_law_r16, w ∈ lw_tbl := List.forall_mem_cons.mpr ⟨(List.mem_append_right _ (List.mem_append_right _ (List.mem_append_right _ (List.mem_append_right _ (List.mem_append_left _ (List.mem_of_getElem? (i := 73) rfl)))))), List.forall_mem_cons.mpr ⟨(List.mem_append_right _ (List.mem_append_right _ (List.mem_append_left _ (List.mem_of_getElem? (i := 236) rfl)))), List.forall_mem_cons.mpr ⟨(List.mem_append_right _ (List.mem_append_right _ (List.mem_append_left _ (List.mem_of_getElem? (i := 237) rfl)))), List.forall_mem_cons.mpr ⟨(List.mem_append_right _ (List.mem_append_right _ (List.mem_append_left _ (List.mem_of_getElem? (i := 238) rfl)))), List.forall_mem_cons.mpr ⟨(List.mem_append_right _ (List.mem_append_right _ (List.mem_append_left _ (List.mem_of_getElem? (i := 239) rfl)))), List.forall_mem_cons.mpr ⟨(List.mem_append_right _ (List.mem_append_left _ (List.mem_of_getElem? (i := 34) rfl))), List.forall_mem_cons.mpr ⟨(List.mem_append_right _ (List.mem_append_right _ (List.mem_append_right _ (List.mem_append_right _ (List.mem_append_left _ (List.mem_of_getElem? (i := 207) rfl)))))), List.forall_mem_cons.mpr ⟨(List.mem_append_right _ (List.mem_append_right _ (List.mem_append_right _ (List.mem_append_right _ (List.mem_append_left _ (List.mem_of_getElem? (i := 208) rfl)))))), List.forall_mem_cons.mpr ⟨(List.mem_append_right _ (List.mem_append_right _ (List.mem_append_right _ (List.mem_append_right _ (List.mem_append_left _ (List.mem_of_getElem? (i := 209) rfl)))))), List.forall_mem_cons.mpr ⟨(List.mem_append_right _ (List.mem_append_right _ (List.mem_append_right _ (List.mem_append_right _ (List.mem_append_left _ (List.mem_of_getElem? (i := 210) rfl)))))), List.forall_mem_cons.mpr ⟨(List.mem_append_right _ (List.mem_append_right _ (List.mem_append_right _ (List.mem_append_right _ (List.mem_append_left _ (List.mem_of_getElem? (i := 211) rfl)))))), List.forall_mem_cons.mpr ⟨(List.mem_append_right _ (List.mem_append_right _ (List.mem_append_right _ (List.mem_append_right _ (List.mem_append_left _ (List.mem_of_getElem? (i := 212) rfl)))))), List.forall_mem_cons.mpr ⟨(List.mem_append_right _ (List.mem_append_right _ (List.mem_append_right _ (List.mem_append_right _ (List.mem_append_left _ (List.mem_of_getElem? (i := 94) rfl)))))), List.forall_mem_cons.mpr ⟨(List.mem_append_right _ (List.mem_append_right _ (List.mem_append_right _ (List.mem_append_right _ (List.mem_append_left _ (List.mem_of_getElem? (i := 213) rfl)))))), List.forall_mem_cons.mpr ⟨(List.mem_append_right _ (List.mem_append_right _ (List.mem_append_right _ (List.mem_append_right _ (List.mem_append_left _ (List.mem_of_getElem? (i := 214) rfl)))))), List.forall_mem_cons.mpr ⟨(List.mem_append_right _ (List.mem_append_right _ (List.mem_append_right _ (List.mem_append_right _ (List.mem_append_left _ (List.mem_of_getElem? (i := 215) rfl)))))), List.forall_mem_cons.mpr ⟨(List.mem_append_right _ (List.mem_append_right _ (List.mem_append_right _ (List.mem_append_left _ (List.mem_of_getElem? (i := 0) rfl))))), List.forall_mem_cons.mpr ⟨(List.mem_append_right _ (List.mem_append_right _ (List.mem_append_right _ (List.mem_append_left _ (List.mem_of_getElem? (i := 1) rfl))))), List.forall_mem_cons.mpr ⟨(List.mem_append_right _ (List.mem_append_right _ (List.mem_append_right _ (List.mem_append_left _ (List.mem_of_getElem? (i := 2) rfl))))), List.forall_mem_cons.mpr ⟨(List.mem_append_right _ (List.mem_append_right _ (List.mem_append_right _ (List.mem_append_left _ (List.mem_of_getElem? (i := 3) rfl))))), List.forall_mem_cons.mpr ⟨(List.mem_append_right _ (List.mem_append_right _ (List.mem_append_right _ (List.mem_append_right _ (List.mem_append_left _ (List.mem_of_getElem? (i := 216) rfl)))))), List.forall_mem_cons.mpr ⟨(List.mem_append_right _ (List.mem_append_right _ (List.mem_append_right _ (List.mem_append_right _ (List.mem_append_left _ (List.mem_of_getElem? (i := 217) rfl)))))), List.forall_mem_cons.mpr ⟨(List.mem_append_right _ (List.mem_append_right _ (List.mem_append_right _ (List.mem_append_right _ (List.mem_append_left _ (List.mem_of_getElem? (i := 218) rfl)))))), List.forall_mem_cons.mpr ⟨(List.mem_append_right _ (List.mem_append_right _ (List.mem_append_right _ (List.mem_append_right _ (List.mem_append_left _ (List.mem_of_getElem? (i := 219) rfl)))))), fun _ h => absurd h List.not_mem_nil⟩⟩⟩⟩⟩⟩⟩⟩⟩⟩⟩⟩⟩⟩⟩⟩⟩⟩⟩⟩⟩⟩⟩⟩
theorem wsL_law_r16_g : wsL_law_r16.all goodWord = true := by decide +kernel
set_option maxRecDepth 20000 in
theorem wsL_law_r17_in : ∀ w ∈ wsL_law_r17, w ∈ lw_tbl := List.forall_mem_cons.mpr ⟨(List.mem_append_right _ (List.mem_append_right _ (List.mem_append_right _ (List.mem_append_left _ (List.mem_of_getElem? (i := 4) rfl))))), List.forall_mem_cons.mpr ⟨(List.mem_append_right _ (List.mem_append_right _ (List.mem_append_right _ (List.mem_append_left _ (List.mem_of_getElem? (i := 5) rfl))))), List.forall_mem_cons.mpr ⟨(List.mem_append_right _ (List.mem_append_right _ (List.mem_append_right _ (List.mem_append_left _ (List.mem_of_getElem? (i := 6) rfl))))), List.forall_mem_cons.mpr ⟨(List.mem_append_right _ (List.mem_append_right _ (List.mem_append_right _ (List.mem_append_left _ (List.mem_of_getElem? (i := 7) rfl))))), List.forall_mem_cons.mpr ⟨(List.mem_append_right _ (List.mem_append_right _ (List.mem_append_right _ (List.mem_append_right _ (List.mem_append_left _ (List.mem_of_getElem? (i := 220) rfl)))))), List.forall_mem_cons.mpr ⟨(List.mem_append_right _ (List.mem_append_right _ (List.mem_append_right _ (List.mem_append_right _ (List.mem_append_left _ (List.mem_of_getElem? (i := 221) rfl)))))), List.forall_mem_cons.mpr ⟨(List.mem_append_right _ (List.mem_append_right _ (List.mem_append_right _ (List.mem_append_right _ (List.mem_append_left _ (List.mem_of_getElem? (i := 222) rfl)))))), List.forall_mem_cons.mpr ⟨(List.mem_append_right _ (List.mem_append_right _ (List.mem_append_right _ (List.mem_append_right _ (List.mem_append_left _ (List.mem_of_getElem? (i := 223) rfl)))))), List.forall_mem_cons.mpr ⟨(List.mem_append_right _ (List.mem_append_right _ (List.mem_append_right _ (List.mem_append_right _ (List.mem_append_left _ (List.mem_of_getElem? (i := 95) rfl)))))), List.forall_mem_cons.mpr ⟨(List.mem_append_right _ (List.mem_append_right _ (List.mem_append_right _ (List.mem_append_right _ (List.mem_append_left _ (List.mem_of_getElem? (i := 97) rfl)))))), List.forall_mem_cons.mpr ⟨(List.mem_append_right _ (List.mem_append_right _ (List.mem_append_right _ (List.mem_append_right _ (List.mem_append_left _ (List.mem_of_getElem? (i := 98) rfl)))))), List.forall_mem_cons.mpr ⟨(List.mem_append_right _ (List.mem_append_right _ (List.mem_append_right _ (List.mem_append_right _ (List.mem_append_left _ (List.mem_of_getElem? (i := 100) rfl)))))), List.forall_mem_cons.mpr ⟨(List.mem_append_right _ (List.mem_append_right _ (List.mem_append_right _ (List.mem_append_right _ (List.mem_append_left _ (List.mem_of_getElem? (i := 224) rfl)))))), List.forall_mem_cons.mpr ⟨(List.mem_append_right _ (List.mem_append_right _ (List.mem_append_right _ (List.mem_append_right _ (List.mem_append_left _ (List.mem_of_getElem? (i := 226) rfl)))))), List.forall_mem_cons.mpr ⟨(List.mem_append_left _ (List.mem_of_getElem? (i := 23) rfl)), List.forall_mem_cons.mpr ⟨(List.mem_append_right _ (List.mem_append_right _ (List.mem_append_right _ (List.mem_append_right _ (List.mem_append_left _ (List.mem_of_getElem? (i := 227) rfl)))))), List.forall_mem_cons.mpr ⟨(List.mem_append_right _ (List.mem_append_right _ (List.mem_append_right _ (List.mem_append_right _ (List.mem_append_left _ (List.mem_of_getElem? (i := 96) rfl)))))), List.forall_mem_cons.mpr ⟨(List.mem_append_right _ (List.mem_append_right _ (List.mem_append_right _ (List.mem_append_right _ (List.mem_append_left _ (List.mem_of_getElem? (i := 228) rfl)))))), List.forall_mem_cons.mpr ⟨(List.mem_append_right _ (List.mem_append_right _ (List.mem_append_right _ (List.mem_append_right _ (List.mem_append_left _ (List.mem_of_getElem? (i := 230) rfl)))))), List.forall_mem_cons.mpr ⟨(List.mem_append_left _ (List.mem_of_getElem? (i := 24) rfl)), List.forall_mem_cons.mpr ⟨(List.mem_append_right _ (List.mem_append_right _ (List.mem_append_right _ (List.mem_append_right _ (List.mem_append_left _ (List.mem_of_getElem? (i := 231) rfl)))))), List.forall_mem_cons.mpr ⟨(List.mem_append_right _ (List.mem_append_right _ (List.mem_append_right _ (List.mem_append_right _ (List.mem_append_left _ (List.mem_of_getElem? (i := 232) rfl)))))), List.forall_mem_cons.mpr ⟨(List.mem_append_right _ (List.mem_append_right _ (List.mem_append_right _ (List.mem_append_right _ (List.mem_append_left _ (List.mem_of_getElem? (i := 234) rfl)))))), List.forall_mem_cons.mpr ⟨(List.mem_append_left _ (List.mem_of_getElem? (i := 25) rfl)), fun _ h => absurd h List.not_mem_nil⟩⟩⟩⟩⟩⟩⟩⟩⟩⟩⟩⟩⟩⟩⟩⟩⟩⟩⟩⟩⟩⟩⟩⟩
theorem wsL_law_r17_g : wsL_law_r17.all goodWord = true := by decide +kernel
set_option maxRecDepth 20000 in
theorem wsL_law_r18_in : ∀ w ∈ wsL_law_r18, w ∈ lw_tbl := List.forall_mem_cons.mpr ⟨(List.mem_append_right _ (List.mem_append_right _ (List.mem_append_right _ (List.mem_append_right _ (List.mem_append_left _ (List.mem_of_getElem? (i := 235) rfl)))))), List.forall_mem_cons.mpr ⟨(List.mem_append_right _ (List.mem_append_right _ (List.mem_append_right _ (List.mem_append_right _ (List.mem_append_left _ (List.mem_of_getElem? (i := 236) rfl)))))), List.forall_mem_cons.mpr ⟨(List.mem_append_right _ (List.mem_append_right _ (List.mem_append_right _ (List.mem_append_right _ (List.mem_append_left _ (List.mem_of_getElem? (i := 237) rfl)))))), List.forall_mem_cons.mpr ⟨(List.mem_append_right _ (List.mem_append_right _ (List.mem_append_right _ (List.mem_append_right _ (List.mem_append_left _ (List.mem_of_getElem? (i := 238) rfl)))))), List.forall_mem_cons.mpr ⟨(List.mem_append_right _ (List.mem_append_right _ (List.mem_append_right _ (List.mem_append_right _ (List.mem_append_left _ (List.mem_of_getElem? (i := 239) rfl)))))), List.forall_mem_cons.mpr ⟨(List.mem_append_right _ (List.mem_append_right _ (List.mem_append_right _ (List.mem_append_right _ (List.mem_append_right _ (List.mem_of_getElem? (i := 1) rfl)))))), List.forall_mem_cons.mpr ⟨(List.mem_append_left _ (List.mem_of_getElem? (i := 26) rfl)), List.forall_mem_cons.mpr ⟨(List.mem_append_right _ (List.mem_append_right _ (List.mem_append_right _ (List.mem_append_right _ (List.mem_append_right _ (List.mem_of_getElem? (i := 2) rfl)))))), List.forall_mem_cons.mpr ⟨(List.mem_append_right _ (List.mem_append_right _ (List.mem_append_right _ (List.mem_append_right _ (List.mem_append_right _ (List.mem_of_getElem? (i := 3) rfl)))))), List.forall_mem_cons.mpr ⟨(List.mem_append_right _ (List.mem_append_right _ (List.mem_append_right _ (List.mem_append_right _ (List.mem_append_right _ (List.mem_of_getElem? (i := 5) rfl)))))), List.forall_mem_cons.mpr ⟨(List.mem_append_left _ (List.mem_of_getElem? (i := 27) rfl)), List.forall_mem_cons.mpr ⟨(List.mem_append_right _ (List.mem_append_right _ (List.mem_append_right _ (List.mem_append_right _ (List.mem_append_right _ (List.mem_of_getElem? (i := 6) rfl)))))), List.forall_mem_cons.mpr ⟨(List.mem_append_right _ (List.mem_append_right _ (List.mem_append_right _ (List.mem_append_right _ (List.mem_append_right _ (List.mem_of_getElem? (i := 7) rfl)))))), List.forall_mem_cons.mpr ⟨(List.mem_append_right _ (List.mem_append_right _ (List.mem_append_right _ (List.mem_append_right _ (List.mem_append_right _ (List.mem_of_getElem? (i := 9) rfl)))))), List.forall_mem_cons.mpr ⟨(List.mem_append_left _ (List.mem_of_getElem? (i := 28) rfl)), List.forall_mem_cons.mpr ⟨(List.mem_append_right _ (List.mem_append_right _ (List.mem_append_right _ (List.mem_append_right _ (List.mem_append_right _ (List.mem_of_getElem? (i := 10) rfl)))))), List.forall_mem_cons.mpr ⟨(List.mem_append_right _ (List.mem_append_right _ (List.mem_append_right _ (List.mem_append_right _ (List.mem_append_right _ (List.mem_of_getElem? (i := 11) rfl)))))), List.forall_mem_cons.mpr ⟨(List.mem_append_right _ (List.mem_append_right _ (List.mem_append_right _ (List.mem_append_right _ (List.mem_append_right _ (List.mem_of_getElem? (i := 12) rfl)))))), List.forall_mem_cons.mpr ⟨(List.mem_append_right _ (List.mem_append_right _ (List.mem_append_right _ (List.mem_append_right _ (List.mem_append_right _ (List.mem_of_getElem? (i := 14) rfl)))))), List.forall_mem_cons.mpr ⟨(List.mem_append_left _ (List.mem_of_getElem? (i := 29) rfl)), List.forall_mem_cons.mpr ⟨(List.mem_append_right _ (List.mem_append_right _ (List.mem_append_right _ (List.mem_append_right _ (List.mem_append_right _ (List.mem_of_getElem? (i := 15) rfl)))))), List.forall_mem_cons.mpr ⟨(List.mem_append_right _ (List.mem_append_right _ (List.mem_append_right _ (List.mem_append_left _ (List.mem_of_getElem? (i := 8) rfl))))), List.forall_mem_cons.mpr ⟨(List.mem_append_right _ (List.mem_append_right _ (List.mem_append_right _ (List.mem_append_left _ (List.mem_of_getElem? (i := 9) rfl))))), List.forall_mem_cons.mpr ⟨(List.mem_append_right _ (List.mem_append_right _ (List.mem_append_right _ (List.mem_append_left _ (List.mem_of_getElem? (i := 10) rfl))))), fun _ h => absurd h List.not_mem_nil⟩⟩⟩⟩⟩⟩⟩⟩⟩⟩⟩⟩⟩⟩⟩⟩⟩⟩⟩⟩⟩⟩⟩⟩
theorem wsL_law_r18_g : wsL_law_r18.all goodWord = true := by decide +kernel
set_option maxRecDepth 20000 in
theorem wsL_law_r19_in : ∀ w ∈ wsL_law_r19, w ∈ lw_tbl := List.forall_mem_cons.mpr ⟨(List.mem_append_right _ (List.mem_append_right _ (List.mem_append_right _ (List.mem_append_left _ (List.mem_of_getElem? (i := 11) rfl))))), List.forall_mem_cons.mpr ⟨(List.mem_append_right _ (List.mem_append_right _ (List.mem_append_right _ (List.mem_append_right _ (List.mem_append_right _ (List.mem_of_getElem? (i := 16) rfl)))))), List.forall_mem_cons.mpr ⟨(List.mem_append_right _ (List.mem_append_right _ (List.mem_append_right _ (List.mem_append_right _ (List.mem_append_right _ (List.mem_of_getElem? (i := 17) rfl)))))), List.forall_mem_cons.mpr ⟨(List.mem_append_right _ (List.mem_append_right _ (List.mem_append_right _ (List.mem_append_right _ (List.mem_append_right _ (List.mem_of_getElem? (i := 18) rfl)))))), List.forall_mem_cons.mpr ⟨(List.mem_append_right _ (List.mem_append_right _ (List.mem_append_right _ (List.mem_append_right _ (List.mem_append_right _ (List.mem_of_getElem? (i := 19) rfl)))))), List.forall_mem_cons.mpr ⟨(List.mem_append_right _ (List.mem_append_right _ (List.mem_append_right _ (List.mem_append_right _ (List.mem_append_left _ (List.mem_of_getElem? (i := 86) rfl)))))), List.forall_mem_cons.mpr ⟨(List.mem_append_right _ (List.mem_append_right _ (List.mem_append_right _ (List.mem_append_right _ (List.mem_append_left _ (List.mem_of_getElem? (i := 88) rfl)))))), List.forall_mem_cons.mpr ⟨(List.mem_append_right _ (List.mem_append_right _ (List.mem_append_right _ (List.mem_append_right _ (List.mem_append_left _ (List.mem_of_getElem? (i := 90) rfl)))))), List.forall_mem_cons.mpr ⟨(List.mem_append_right _ (List.mem_append_right _ (List.mem_append_right _ (List.mem_append_right _ (List.mem_append_left _ (List.mem_of_getElem? (i := 92) rfl)))))), List.forall_mem_cons.mpr ⟨(List.mem_append_right _ (List.mem_append_right _ (List.mem_append_right _ (List.mem_append_right _ (List.mem_append_right _ (List.mem_of_getElem? (i := 20) rfl)))))), List.forall_mem_cons.mpr ⟨(List.mem_append_right _ (List.mem_append_right _ (List.mem_append_right _ (List.mem_append_left _ (List.mem_of_getElem? (i := 12) rfl))))), List.forall_mem_cons.mpr ⟨(List.mem_append_right _ (List.mem_append_right _ (List.mem_append_right _ (List.mem_append_left _ (List.mem_of_getElem? (i := 13) rfl))))), List.forall_mem_cons.mpr ⟨(List.mem_append_right _ (List.mem_append_right _ (List.mem_append_right _ (List.mem_append_left _ (List.mem_of_getElem? (i := 14) rfl))))), List.forall_mem_cons.mpr ⟨(List.mem_append_right _ (List.mem_append_right _ (List.mem_append_right _ (List.mem_append_left _ (List.mem_of_getElem? (i := 15) rfl))))), List.forall_mem_cons.mpr ⟨(List.mem_append_right _ (List.mem_append_left _ (List.mem_of_getElem? (i := 88) rfl))), List.forall_mem_cons.mpr ⟨(List.mem_append_right _ (List.mem_append_left _ (List.mem_of_getElem? (i := 93) rfl))), List.forall_mem_cons.mpr ⟨(List.mem_append_right _ (List.mem_append_left _ (List.mem_of_getElem? (i := 97) rfl))), List.forall_mem_cons.mpr ⟨(List.mem_append_right _ (List.mem_append_left _ (List.mem_of_getElem? (i := 156) rfl))), List.forall_mem_cons.mpr ⟨(List.mem_append_right _ (List.mem_append_left _ (List.mem_of_getElem? (i := 158) rfl))), List.forall_mem_cons.mpr ⟨(List.mem_append_right _ (List.mem_append_right _ (List.mem_append_right _ (List.mem_append_left _ (List.mem_of_getElem? (i := 16) rfl))))), List.forall_mem_cons.mpr ⟨(List.mem_append_right _ (List.mem_append_right _ (List.mem_append_right _ (List.mem_append_left _ (List.mem_of_getElem? (i := 18) rfl))))), List.forall_mem_cons.mpr ⟨(List.mem_append_left _ (List.mem_of_getElem? (i := 12) rfl)), List.forall_mem_cons.mpr ⟨(List.mem_append_right _ (List.mem_append_right _ (List.mem_append_right _ (List.mem_append_left _ (List.mem_of_getElem? (i := 19) rfl))))), List.forall_mem_cons.mpr ⟨(List.mem_append_right _ (List.mem_append_right _ (List.mem_append_right _ (List.mem_append_left _ (List.mem_of_getElem? (i := 20) rfl))))), fun _ h => absurd h List.not_mem_nil⟩⟩⟩⟩⟩⟩⟩⟩⟩⟩⟩⟩⟩⟩⟩⟩⟩⟩⟩⟩⟩⟩⟩⟩
theorem wsL_law_r19_g : wsL_law_r19.all goodWord = true := by decide +kernel
set_option maxRecDepth 20000 in
theorem wsL_law_r20_in : ∀ w ∈ wsL_law_r20, w ∈ lw_tbl := List.forall_mem_cons.mpr ⟨(List.mem_append_right _ (List.mem_append_right _ (List.mem_append_right _ (List.mem_append_left _ (List.mem_of_getElem? (i := 21) rfl))))), List.forall_mem_cons.mpr ⟨(List.mem_append_right _ (List.mem_append_right _ (List.mem_append_right _ (List.mem_append_left _ (List.mem_of_getElem? (i := 22) rfl))))), List.forall_mem_cons.mpr ⟨(List.mem_append_right _ (List.mem_append_right _ (List.mem_append_right _ (List.mem_append_left _ (List.mem_of_getElem? (i := 23) rfl))))), List.forall_mem_cons.mpr ⟨(List.mem_append_right _ (List.mem_append_right _ (List.mem_append_right _ (List.mem_append_left _ (List.mem_of_getElem? (i := 24) rfl))))), List.forall_mem_cons.mpr ⟨(List.mem_append_right _ (List.mem_append_right _ (List.mem_append_right _ (List.mem_append_left _ (List.mem_of_getElem? (i := 25) rfl))))), List.forall_mem_cons.mpr ⟨(List.mem_append_right _ (List.mem_append_right _ (List.mem_append_right _ (List.mem_append_left _ (List.mem_of_getElem? (i := 26) rfl))))), List.forall_mem_cons.mpr ⟨(List.mem_append_right _ (List.mem_append_right _ (List.mem_append_right _ (List.mem_append_left _ (List.mem_of_getElem? (i := 27) rfl))))), List.forall_mem_cons.mpr ⟨(List.mem_append_right _ (List.mem_append_right _ (List.mem_append_right _ (List.mem_append_left _ (List.mem_of_getElem? (i := 28) rfl))))), List.forall_mem_cons.mpr ⟨(List.mem_append_right _ (List.mem_append_left _ (List.mem_of_getElem? (i := 66) rfl))), List.forall_mem_cons.mpr ⟨(List.mem_append_right _ (List.mem_append_right _ (List.mem_append_right _ (List.mem_append_left _ (List.mem_of_getElem? (i := 29) rfl))))), List.forall_mem_cons.mpr ⟨(List.mem_append_right _ (List.mem_append_right _ (List.mem_append_right _ (List.mem_append_left _ (List.mem_of_getElem? (i := 30) rfl))))), List.forall_mem_cons.mpr ⟨(List.mem_append_right _ (List.mem_append_right _ (List.mem_append_right _ (List.mem_append_left _ (List.mem_of_getElem? (i := 31) rfl))))), List.forall_mem_cons.mpr ⟨(List.mem_append_right _ (List.mem_append_right _ (List.mem_append_right _ (List.mem_append_left _ (List.mem_of_getElem? (i := 32) rfl))))), List.forall_mem_cons.mpr ⟨(List.mem_append_right _ (List.mem_append_right _ (List.mem_append_right _ (List.mem_append_left _ (List.mem_of_getElem? (i := 33) rfl))))), List.forall_mem_cons.mpr ⟨(List.mem_append_right _ (List.mem_append_right _ (List.mem_append_right _ (List.mem_append_left _ (List.mem_of_getElem? (i := 34) rfl))))), List.forall_mem_cons.mpr ⟨(List.mem_append_right _ (List.mem_append_right _ (List.mem_append_right _ (List.mem_append_left _ (List.mem_of_getElem? (i := 35) rfl))))), List.forall_mem_cons.mpr ⟨(List.mem_append_right _ (List.mem_append_right _ (List.mem_append_right _ (List.mem_append_left _ (List.mem_of_getElem? (i := 36) rfl))))), List.forall_mem_cons.mpr ⟨(List.mem_append_right _ (List.mem_append_right _ (List.mem_append_right _ (List.mem_append_right _ (List.mem_append_right _ (List.mem_of_getElem? (i := 21) rfl)))))), List.forall_mem_cons.mpr ⟨(List.mem_append_right _ (List.mem_append_right _ (List.mem_append_right _ (List.mem_append_right _ (List.mem_append_right _ (List.mem_of_getElem? (i := 22) rfl)))))), List.forall_mem_cons.mpr ⟨(List.mem_append_right _ (List.mem_append_right _ (List.mem_append_right _ (List.mem_append_right _ (List.mem_append_right _ (List.mem_of_getElem? (i := 23) rfl)))))), List.forall_mem_cons.mpr ⟨(List.mem_append_right _ (List.mem_append_right _ (List.mem_append_right _ (List.mem_append_right _ (List.mem_append_right _ (List.mem_of_getElem? (i := 24) rfl)))))), List.forall_mem_cons.mpr ⟨(List.mem_append_right _ (List.mem_append_right _ (List.mem_append_right _ (List.mem_append_right _ (List.mem_append_right _ (List.mem_of_getElem? (i := 25) rfl)))))), List.forall_mem_cons.mpr ⟨(List.mem_append_right _ (List.mem_append_right _ (List.mem_append_right _ (List.mem_append_right _ (List.mem_append_right _ (List.mem_of_getElem? (i := 27) rfl)))))), List.forall_mem_cons.mpr ⟨(List.mem_append_left _ (List.mem_of_getElem? (i := 30) rfl)), fun _ h => absurd h List.not_mem_nil⟩⟩⟩⟩⟩⟩⟩⟩⟩⟩⟩⟩⟩⟩⟩⟩⟩⟩⟩⟩⟩⟩⟩⟩
theorem wsL_law_r20_g : wsL_law_r20.all goodWord = true := by decide +kernel
set_option maxRecDepth 20000 in
theorem wsL_law_r21_in : ∀ w ∈ wsL_law_r21, w ∈ lw_tbl := List.forall_mem_cons.mpr ⟨(List.mem_append_right _ (List.mem_append_right _ (List.mem_append_right _ (List.mem_append_right _ (List.mem_append_right _ (List.mem_of_getElem? (i := 28) rfl)))))), List.forall_mem_cons.mpr ⟨(List.mem_append_right _ (List.mem_append_right _ (List.mem_append_right _ (List.mem_append_right _ (List.mem_append_right _ (List.mem_of_getElem? (i := 29) rfl)))))), List.forall_mem_cons.mpr ⟨(List.mem_append_right _ (List.mem_append_right _ (List.mem_append_right _ (List.mem_append_right _ (List.mem_append_right _ (List.mem_of_getElem? (i := 31) rfl)))))), List.forall_mem_cons.mpr ⟨(List.mem_append_left _ (List.mem_of_getElem? (i := 31) rfl)), List.forall_mem_cons.mpr ⟨(List.mem_append_right _ (List.mem_append_right _ (List.mem_append_right _ (List.mem_append_right _ (List.mem_append_right _ (List.mem_of_getElem? (i := 32) rfl)))))), List.forall_mem_cons.mpr ⟨(List.mem_append_right _ (List.mem_append_right _ (List.mem_append_right _ (List.mem_append_right _ (List.mem_append_right _ (List.mem_of_getElem? (i := 33) rfl)))))), List.forall_mem_cons.mpr ⟨(List.mem_append_right _ (List.mem_append_right _ (List.mem_append_right _ (List.mem_append_right _ (List.mem_append_right _ (List.mem_of_getElem? (i := 35) rfl)))))), List.forall_mem_cons.mpr ⟨(List.mem_append_left _ (List.mem_of_getElem? (i := 32) rfl)), List.forall_mem_cons.mpr ⟨(List.mem_append_right _ (List.mem_append_right _ (List.mem_append_right _ (List.mem_append_right _ (List.mem_append_right _ (List.mem_of_getElem? (i := 36) rfl)))))), List.forall_mem_cons.mpr ⟨(List.mem_append_right _ (List.mem_append_right _ (List.mem_append_right _ (List.mem_append_right _ (List.mem_append_right _ (List.mem_of_getElem? (i := 49) rfl)))))), List.forall_mem_cons.mpr ⟨(List.mem_append_right _ (List.mem_append_right _ (List.mem_append_right _ (List.mem_append_right _ (List.mem_append_right _ (List.mem_of_getElem? (i := 37) rfl)))))), List.forall_mem_cons.mpr ⟨(List.mem_append_right _ (List.mem_append_right _ (List.mem_append_right _ (List.mem_append_right _ (List.mem_append_right _ (List.mem_of_getElem? (i := 39) rfl)))))), List.forall_mem_cons.mpr ⟨(List.mem_append_left _ (List.mem_of_getElem? (i := 33) rfl)), List.forall_mem_cons.mpr ⟨(List.mem_append_right _ (List.mem_append_right _ (List.mem_append_right _ (List.mem_append_right _ (List.mem_append_right _ (List.mem_of_getElem? (i := 40) rfl)))))), List.forall_mem_cons.mpr ⟨(List.mem_append_right _ (List.mem_append_right _ (List.mem_append_right _ (List.mem_append_right _ (List.mem_append_right _ (List.mem_of_getElem? (i := 41) rfl)))))), List.forall_mem_cons.mpr ⟨(List.mem_append_right _ (List.mem_append_right _ (List.mem_append_right _ (List.mem_append_right _ (List.mem_append_right _ (List.mem_of_getElem? (i := 43) rfl)))))), List.forall_mem_cons.mpr ⟨(List.mem_append_left _ (List.mem_of_getElem? (i := 34) rfl)), List.forall_mem_cons.mpr ⟨(List.mem_append_right _ (List.mem_append_right _ (List.mem_append_right _ (List.mem_append_right _ (List.mem_append_right _ (List.mem_of_getElem? (i := 44) rfl)))))), List.forall_mem_cons.mpr ⟨(List.mem_append_right _ (List.mem_append_right _ (List.mem_append_right _ (List.mem_append_right _ (List.mem_append_right _ (List.mem_of_getElem? (i := 45) rfl)))))), List.forall_mem_cons.mpr ⟨(List.mem_append_right _ (List.mem_append_right _ (List.mem_append_right _ (List.mem_append_right _ (List.mem_append_right _ (List.mem_of_getElem? (i := 47) rfl)))))), List.forall_mem_cons.mpr ⟨(List.mem_append_left _ (List.mem_of_getElem? (i := 35) rfl)), List.forall_mem_cons.mpr ⟨(List.mem_append_right _ (List.mem_append_right _ (List.mem_append_right _ (List.mem_append_right _ (List.mem_append_right _ (List.mem_of_getElem? (i := 48) rfl)))))), List.forall_mem_cons.mpr ⟨(List.mem_append_right _ (List.mem_append_right _ (List.mem_append_right _ (List.mem_append_left _ (List.mem_of_getElem? (i := 37) rfl))))), List.forall_mem_cons.mpr ⟨(List.mem_append_right _ (List.mem_append_right _ (List.mem_append_right _ (List.mem_append_left _ (List.mem_of_getElem? (i := 38) rfl))))), fun _ h => absurd h List.not_mem_nil⟩⟩⟩⟩⟩⟩⟩⟩⟩⟩⟩⟩⟩⟩⟩⟩⟩⟩⟩⟩⟩⟩⟩⟩
theorem wsL_law_r21_g : wsL_law_r21.all goodWord = true := by decide +kernel
set_option maxRecDepth 20000 in
theorem wsL_law_r22_in : ∀ w ∈ wsL_law_r22, w ∈ lw_tbl := List.forall_mem_cons.mpr ⟨(List.mem_append_right _ (List.mem_append_right _ (List.mem_append_right _ (List.mem_append_left _ (List.mem_of_getElem? (i := 39) rfl))))), List.forall_mem_cons.mpr ⟨(List.mem_append_right _ (List.mem_append_right _ (List.mem_append_right _ (List.mem_append_left _ (List.mem_of_getElem? (i := 40) rfl))))), List.forall_mem_cons.mpr ⟨(List.mem_append_right _ (List.mem_append_left _ (List.mem_of_getElem? (i := 101) rfl))), List.forall_mem_cons.mpr ⟨(List.mem_append_right _ (List.mem_append_right _ (List.mem_append_right _ (List.mem_append_right _ (List.mem_append_right _ (List.mem_of_getElem? (i := 50) rfl)))))), List.forall_mem_cons.mpr ⟨(List.mem_append_right _ (List.mem_append_right _ (List.mem_append_right _ (List.mem_append_right _ (List.mem_append_right _ (List.mem_of_getElem? (i := 51) rfl)))))), List.forall_mem_cons.mpr ⟨(List.mem_append_right _ (List.mem_append_right _ (List.mem_append_right _ (List.mem_append_right _ (List.mem_append_right _ (List.mem_of_getElem? (i := 52) rfl)))))), List.forall_mem_cons.mpr ⟨(List.mem_append_right _ (List.mem_append_right _ (List.mem_append_right _ (List.mem_append_right _ (List.mem_append_right _ (List.mem_of_getElem? (i := 53) rfl)))))), List.forall_mem_cons.mpr ⟨(List.mem_append_right _ (List.mem_append_right _ (List.mem_append_right _ (List.mem_append_left _ (List.mem_of_getElem? (i := 41) rfl))))), List.forall_mem_cons.mpr ⟨(List.mem_append_right _ (List.mem_append_right _ (List.mem_append_right _ (List.mem_append_left _ (List.mem_of_getElem? (i := 42) rfl))))), List.forall_mem_cons.mpr ⟨(List.mem_append_right _ (List.mem_append_right _ (List.mem_append_right _ (List.mem_append_left _ (List.mem_of_getElem? (i := 43) rfl))))), List.forall_mem_cons.mpr ⟨(List.mem_append_right _ (List.mem_append_right _ (List.mem_append_right _ (List.mem_append_left _ (List.mem_of_getElem? (i := 44) rfl))))), List.forall_mem_cons.mpr ⟨(List.mem_append_right _ (List.mem_append_left _ (List.mem_of_getElem? (i := 109) rfl))), List.forall_mem_cons.mpr ⟨(List.mem_append_right _ (List.mem_append_right _ (List.mem_append_right _ (List.mem_append_left _ (List.mem_of_getElem? (i := 45) rfl))))), List.forall_mem_cons.mpr ⟨(List.mem_append_right _ (List.mem_append_right _ (List.mem_append_right _ (List.mem_append_left _ (List.mem_of_getElem? (i := 47) rfl))))), List.forall_mem_cons.mpr ⟨(List.mem_append_left _ (List.mem_of_getElem? (i := 13) rfl)), List.forall_mem_cons.mpr ⟨(List.mem_append_right _ (List.mem_append_right _ (List.mem_append_right _ (List.mem_append_left _ (List.mem_of_getElem? (i := 48) rfl))))), List.forall_mem_cons.mpr ⟨(List.mem_append_right _ (List.mem_append_left _ (List.mem_of_getElem? (i := 67) rfl))), List.forall_mem_cons.mpr ⟨(List.mem_append_right _ (List.mem_append_right _ (List.mem_append_right _ (List.mem_append_left _ (List.mem_of_getElem? (i := 49) rfl))))), List.forall_mem_cons.mpr ⟨(List.mem_append_right _ (List.mem_append_right _ (List.mem_append_right _ (List.mem_append_left _ (List.mem_of_getElem? (i := 50) rfl))))), List.forall_mem_cons.mpr ⟨(List.mem_append_right _ (List.mem_append_right _ (List.mem_append_right _ (List.mem_append_left _ (List.mem_of_getElem? (i := 51) rfl))))), List.forall_mem_cons.mpr ⟨(List.mem_append_right _ (List.mem_append_right _ (List.mem_append_right _ (List.mem_append_left _ (List.mem_of_getElem? (i := 52) rfl))))), List.forall_mem_cons.mpr ⟨(List.mem_append_right _ (List.mem_append_right _ (List.mem_append_right _ (List.mem_append_left _ (List.mem_of_getElem? (i := 53) rfl))))), List.forall_mem_cons.mpr ⟨(List.mem_append_right _ (List.mem_append_right _ (List.mem_append_right _ (List.mem_append_left _ (List.mem_of_getElem? (i := 54) rfl))))), List.forall_mem_cons.mpr ⟨(List.mem_append_right _ (List.mem_append_right _ (List.mem_append_right _ (List.mem_append_left _ (List.mem_of_getElem? (i := 55) rfl))))), fun _ h => absurd h List.not_mem_nil⟩⟩⟩⟩⟩⟩⟩⟩⟩⟩⟩⟩⟩⟩⟩⟩⟩⟩⟩⟩⟩⟩⟩⟩
theorem wsL_law_r22_g : wsL_law_r22.all goodWord = true := by decide +kernel
set_option maxRecDepth 20000 in
theorem wsL_law_r23_in : ∀ w ∈ wsL_law_r23, w ∈ lw_tbl := List.forall_mem_cons.mpr ⟨(List.mem_append_right _ (List.mem_append_right _ (List.mem_append_right _ (List.mem_append_left _ (List.mem_of_getElem? (i := 56) rfl))))), List.forall_mem_cons.mpr ⟨(List.mem_append_right _ (List.mem_append_right _ (List.mem_append_right _ (List.mem_append_right _ (List.mem_append_right _ (List.mem_of_getElem? (i := 54) rfl)))))), List.forall_mem_cons.mpr ⟨(List.mem_append_right _ (List.mem_append_right _ (List.mem_append_right _ (List.mem_append_right _ (List.mem_append_right _ (List.mem_of_getElem? (i := 55) rfl)))))), List.forall_mem_cons.mpr ⟨(List.mem_append_right _ (List.mem_append_right _ (List.mem_append_right _ (List.mem_append_right _ (List.mem_append_right _ (List.mem_of_getElem? (i := 56) rfl)))))), List.forall_mem_cons.mpr ⟨(List.mem_append_right _ (List.mem_append_right _ (List.mem_append_right _ (List.mem_append_right _ (List.mem_append_right _ (List.mem_of_getElem? (i := 57) rfl)))))), List.forall_mem_cons.mpr ⟨(List.mem_append_right _ (List.mem_append_right _ (List.mem_append_right _ (List.mem_append_right _ (List.mem_append_right _ (List.mem_of_getElem? (i := 58) rfl)))))), List.forall_mem_cons.mpr ⟨(List.mem_append_right _ (List.mem_append_right _ (List.mem_append_right _ (List.mem_append_right _ (List.mem_append_right _ (List.mem_of_getElem? (i := 60) rfl)))))), List.forall_mem_cons.mpr ⟨(List.mem_append_left _ (List.mem_of_getElem? (i := 36) rfl)), List.forall_mem_cons.mpr ⟨(List.mem_append_right _ (List.mem_append_right _ (List.mem_append_right _ (List.mem_append_right _ (List.mem_append_right _ (List.mem_of_getElem? (i := 61) rfl)))))), List.forall_mem_cons.mpr ⟨(List.mem_append_right _ (List.mem_append_right _ (List.mem_append_right _ (List.mem_append_right _ (List.mem_append_right _ (List.mem_of_getElem? (i := 62) rfl)))))), List.forall_mem_cons.mpr ⟨(List.mem_append_right _ (List.mem_append_right _ (List.mem_append_right _ (List.mem_append_right _ (List.mem_append_right _ (List.mem_of_getElem? (i := 64) rfl)))))), List.forall_mem_cons.mpr ⟨(List.mem_append_left _ (List.mem_of_getElem? (i := 37) rfl)), List.forall_mem_cons.mpr ⟨(List.mem_append_right _ (List.mem_append_right _ (List.mem_append_right _ (List.mem_append_right _ (List.mem_append_right _ (List.mem_of_getElem? (i := 65) rfl)))))), List.forall_mem_cons.mpr ⟨(List.mem_append_right _ (List.mem_append_right _ (List.mem_append_right _ (List.mem_append_left _ (List.mem_of_getElem? (i := 57) rfl))))), List.forall_mem_cons.mpr ⟨(List.mem_append_right _ (List.mem_append_right _ (List.mem_append_right _ (List.mem_append_left _ (List.mem_of_getElem? (i := 58) rfl))))), List.forall_mem_cons.mpr ⟨(List.mem_append_right _ (List.mem_append_right _ (List.mem_append_right _ (List.mem_append_left _ (List.mem_of_getElem? (i := 59) rfl))))), List.forall_mem_cons.mpr ⟨(List.mem_append_right _ (List.mem_append_right _ (List.mem_append_right _ (List.mem_append_left _ (List.mem_of_getElem? (i := 60) rfl))))), List.forall_mem_cons.mpr ⟨(List.mem_append_right _ (List.mem_append_left _ (List.mem_of_getElem? (i := 111) rfl))), List.forall_mem_cons.mpr ⟨(List.mem_append_right _ (List.mem_append_right _ (List.mem_append_right _ (List.mem_append_right _ (List.mem_append_right _ (List.mem_of_getElem? (i := 66) rfl)))))), List.forall_mem_cons.mpr ⟨(List.mem_append_right _ (List.mem_append_right _ (List.mem_append_right _ (List.mem_append_right _ (List.mem_append_right _ (List.mem_of_getElem? (i := 67) rfl)))))), List.forall_mem_cons.mpr ⟨(List.mem_append_right _ (List.mem_append_right _ (List.mem_append_right _ (List.mem_append_right _ (List.mem_append_right _ (List.mem_of_getElem? (i := 68) rfl)))))), List.forall_mem_cons.mpr ⟨(List.mem_append_right _ (List.mem_append_right _ (List.mem_append_right _ (List.mem_append_right _ (List.mem_append_right _ (List.mem_of_getElem? (i := 69) rfl)))))), List.forall_mem_cons.mpr ⟨(List.mem_append_right _ (List.mem_append_right _ (List.mem_append_right _ (List.mem_append_left _ (List.mem_of_getElem? (i := 61) rfl))))), List.forall_mem_cons.mpr ⟨(List.mem_append_right _ (List.mem_append_right _ (List.mem_append_right _ (List.mem_append_left _ (List.mem_of_getElem? (i := 62) rfl))))), fun _ h => absurd h List.not_mem_nil⟩⟩⟩⟩⟩⟩⟩⟩⟩⟩⟩⟩⟩⟩⟩⟩⟩⟩⟩⟩⟩⟩⟩⟩
theorem wsL_law_r23_g : wsL_law_r23.all goodWord = true := by decide +kernel
set_option maxRecDepth 20000 in
theorem wsL_law_r24_in : ∀ w ∈ wsL_law_r24, w ∈ lw_tbl := List.forall_mem_cons.mpr ⟨(List.mem_append_right _ (List.mem_append_right _ (List.mem_append_right _ (List.mem_append_left _ (List.mem_of_getElem? (i := 63) rfl))))), List.forall_mem_cons.mpr ⟨(List.mem_append_right _ (List.mem_append_right _ (List.mem_append_right _ (List.mem_append_left _ (List.mem_of_getElem? (i := 64) rfl))))), List.forall_mem_cons.mpr ⟨(List.mem_append_right _ (List.mem_append_right _ (List.mem_append_right _ (List.mem_append_left _ (List.mem_of_getElem? (i := 65) rfl))))), List.forall_mem_cons.mpr ⟨(List.mem_append_right _ (List.mem_append_right _ (List.mem_append_right _ (List.mem_append_left _ (List.mem_of_getElem? (i := 66) rfl))))), List.forall_mem_cons.mpr ⟨(List.mem_append_right _ (List.mem_append_right _ (List.mem_append_right _ (List.mem_append_left _ (List.mem_of_getElem? (i := 67) rfl))))), List.forall_mem_cons.mpr ⟨(List.mem_append_right _ (List.mem_append_right _ (List.mem_append_right _ (List.mem_append_left _ (List.mem_of_getElem? (i := 68) rfl))))), List.forall_mem_cons.mpr ⟨(List.mem_append_right _ (List.mem_append_right _ (List.mem_append_right _ (List.mem_append_left _ (List.mem_of_getElem? (i := 69) rfl))))), List.forall_mem_cons.mpr ⟨(List.mem_append_right _ (List.mem_append_right _ (List.mem_append_right _ (List.mem_append_left _ (List.mem_of_getElem? (i := 70) rfl))))), List.forall_mem_cons.mpr ⟨(List.mem_append_right _ (List.mem_append_right _ (List.mem_append_right _ (List.mem_append_left _ (List.mem_of_getElem? (i := 71) rfl))))), List.forall_mem_cons.mpr ⟨(List.mem_append_right _ (List.mem_append_right _ (List.mem_append_right _ (List.mem_append_left _ (List.mem_of_getElem? (i := 72) rfl))))), List.forall_mem_cons.mpr ⟨(List.mem_append_right _ (List.mem_append_left _ (List.mem_of_getElem? (i := 72) rfl))), List.forall_mem_cons.mpr ⟨(List.mem_append_right _ (List.mem_append_left _ (List.mem_of_getElem? (i := 95) rfl))), List.forall_mem_cons.mpr ⟨(List.mem_append_right _ (List.mem_append_right _ (List.mem_append_right _ (List.mem_append_left _ (List.mem_of_getElem? (i := 73) rfl))))), List.forall_mem_cons.mpr ⟨(List.mem_append_right _ (List.mem_append_right _ (List.mem_append_right _ (List.mem_append_left _ (List.mem_of_getElem? (i := 75) rfl))))), List.forall_mem_cons.mpr ⟨(List.mem_append_left _ (List.mem_of_getElem? (i := 14) rfl)), List.forall_mem_cons.mpr ⟨(List.mem_append_right _ (List.mem_append_right _ (List.mem_append_right _ (List.mem_append_left _ (List.mem_of_getElem? (i := 76) rfl))))), List.forall_mem_cons.mpr ⟨(List.mem_append_right _ (List.mem_append_left _ (List.mem_of_getElem? (i := 78) rfl))), List.forall_mem_cons.mpr ⟨(List.mem_append_right _ (List.mem_append_right _ (List.mem_append_right _ (List.mem_append_left _ (List.mem_of_getElem? (i := 77) rfl))))), List.forall_mem_cons.mpr ⟨(List.mem_append_right _ (List.mem_append_right _ (List.mem_append_right _ (List.mem_append_left _ (List.mem_of_getElem? (i := 79) rfl))))), List.forall_mem_cons.mpr ⟨(List.mem_append_left _ (List.mem_of_getElem? (i := 15) rfl)), List.forall_mem_cons.mpr ⟨(List.mem_append_right _ (List.mem_append_right _ (List.mem_append_right _ (List.mem_append_left _ (List.mem_of_getElem? (i := 80) rfl))))), List.forall_mem_cons.mpr ⟨(List.mem_append_right _ (List.mem_append_right _ (List.mem_append_right _ (List.mem_append_left _ (List.mem_of_getElem? (i := 81) rfl))))), List.forall_mem_cons.mpr ⟨(List.mem_append_right _ (List.mem_append_right _ (List.mem_append_right _ (List.mem_append_left _ (List.mem_of_getElem? (i := 83) rfl))))), List.forall_mem_cons.mpr ⟨(List.mem_append_left _ (List.mem_of_getElem? (i := 16) rfl)), fun _ h => absurd h List.not_mem_nil⟩⟩⟩⟩⟩⟩⟩⟩⟩⟩⟩⟩⟩⟩⟩⟩⟩⟩⟩⟩⟩⟩⟩⟩
theorem wsL_law_r24_g : wsL_law_r24.all goodWord = true := by decide +kernel
set_option maxRecDepth 20000 in
theorem wsL_law_r25_in : ∀ w ∈ wsL_law_r25, w ∈ lw_tbl := List.forall_mem_cons.mpr ⟨(List.mem_append_right _ (List.mem_append_right _ (List.mem_append_right _ (List.mem_append_left _ (List.mem_of_getElem? (i := 84) rfl))))), List.forall_mem_cons.mpr ⟨(List.mem_append_right _ (List.mem_append_right _ (List.mem_append_right _ (List.mem_append_left _ (List.mem_of_getElem? (i := 85) rfl))))), List.forall_mem_cons.mpr ⟨(List.mem_append_right _ (List.mem_append_right _ (List.mem_append_right _ (List.mem_append_left _ (List.mem_of_getElem? (i := 86) rfl))))), List.forall_mem_cons.mpr ⟨(List.mem_append_right _ (List.mem_append_right _ (List.mem_append_right _ (List.mem_append_left _ (List.mem_of_getElem? (i := 87) rfl))))), List.forall_mem_cons.mpr ⟨(List.mem_append_right _ (List.mem_append_right _ (List.mem_append_right _ (List.mem_append_left _ (List.mem_of_getElem? (i := 88) rfl))))), List.forall_mem_cons.mpr ⟨(List.mem_append_right _ (List.mem_append_right _ (List.mem_append_right _ (List.mem_append_left _ (List.mem_of_getElem? (i := 89) rfl))))), List.forall_mem_cons.mpr ⟨(List.mem_append_right _ (List.mem_append_right _ (List.mem_append_right _ (List.mem_append_left _ (List.mem_of_getElem? (i := 90) rfl))))), List.forall_mem_cons.mpr ⟨(List.mem_append_right _ (List.mem_append_right _ (List.mem_append_right _ (List.mem_append_left _ (List.mem_of_getElem? (i := 91) rfl))))), List.forall_mem_cons.mpr ⟨(List.mem_append_right _ (List.mem_append_right _ (List.mem_append_right _ (List.mem_append_left _ (List.mem_of_getElem? (i := 92) rfl))))), List.forall_mem_cons.mpr ⟨(List.mem_append_right _ (List.mem_append_right _ (List.mem_append_right _ (List.mem_append_left _ (List.mem_of_getElem? (i := 93) rfl))))), List.forall_mem_cons.mpr ⟨(List.mem_append_right _ (List.mem_append_right _ (List.mem_append_right _ (List.mem_append_left _ (List.mem_of_getElem? (i := 94) rfl))))), List.forall_mem_cons.mpr ⟨(List.mem_append_right _ (List.mem_append_right _ (List.mem_append_right _ (List.mem_append_left _ (List.mem_of_getElem? (i := 95) rfl))))), List.forall_mem_cons.mpr ⟨(List.mem_append_right _ (List.mem_append_right _ (List.mem_append_right _ (List.mem_append_left _ (List.mem_of_getElem? (i := 96) rfl))))), List.forall_mem_cons.mpr ⟨(List.mem_append_right _ (List.mem_append_right _ (List.mem_append_right _ (List.mem_append_left _ (List.mem_of_getElem? (i := 97) rfl))))), List.forall_mem_cons.mpr ⟨(List.mem_append_right _ (List.mem_append_right _ (List.mem_append_right _ (List.mem_append_left _ (List.mem_of_getElem? (i := 98) rfl))))), List.forall_mem_cons.mpr ⟨(List.mem_append_right _ (List.mem_append_right _ (List.mem_append_right _ (List.mem_append_left _ (List.mem_of_getElem? (i := 100) rfl))))), List.forall_mem_cons.mpr ⟨(List.mem_append_left _ (List.mem_of_getElem? (i := 17) rfl)), List.forall_mem_cons.mpr ⟨(List.mem_append_right _ (List.mem_append_right _ (List.mem_append_right _ (List.mem_append_left _ (List.mem_of_getElem? (i := 101) rfl))))), List.forall_mem_cons.mpr ⟨(List.mem_append_right _ (List.mem_append_right _ (List.mem_append_right _ (List.mem_append_left _ (List.mem_of_getElem? (i := 102) rfl))))), List.forall_mem_cons.mpr ⟨(List.mem_append_right _ (List.mem_append_right _ (List.mem_append_right _ (List.mem_append_left _ (List.mem_of_getElem? (i := 104) rfl))))), List.forall_mem_cons.mpr ⟨(List.mem_append_left _ (List.mem_of_getElem? (i := 18) rfl)), List.forall_mem_cons.mpr ⟨(List.mem_append_right _ (List.mem_append_right _ (List.mem_append_right _ (List.mem_append_left _ (List.mem_of_getElem? (i := 105) rfl))))), List.forall_mem_cons.mpr ⟨(List.mem_append_right _ (List.mem_append_right _ (List.mem_append_right _ (List.mem_append_left _ (List.mem_of_getElem? (i := 106) rfl))))), List.forall_mem_cons.mpr ⟨(List.mem_append_right _ (List.mem_append_right _ (List.mem_append_right _ (List.mem_append_left _ (List.mem_of_getElem? (i := 107) rfl))))), fun _ h => absurd h List.not_mem_nil⟩⟩⟩⟩⟩⟩⟩⟩⟩⟩⟩⟩⟩⟩⟩⟩⟩⟩⟩⟩⟩⟩⟩⟩
theorem wsL_law_r25_g : wsL_law_r25.all goodWord = true := by decide +kernel
set_option maxRecDepth 20000 in
theorem wsL_law_r26_in : ∀ w ∈ wsL_law_r26, w ∈ lw_tbl := List.forall_mem_cons.mpr ⟨(List.mem_append_right _ (List.mem_append_right _ (List.mem_append_right _ (List.mem_append_left _ (List.mem_of_getElem? (i := 108) rfl))))), List.forall_mem_cons.mpr ⟨(List.mem_append_right _ (List.mem_append_right _ (List.mem_append_right _ (List.mem_append_left _ (List.mem_of_getElem? (i := 109) rfl))))), List.forall_mem_cons.mpr ⟨(List.mem_append_right _ (List.mem_append_right _ (List.mem_append_right _ (List.mem_append_left _ (List.mem_of_getElem? (i := 110) rfl))))), List.forall_mem_cons.mpr ⟨(List.mem_append_right _ (List.mem_append_right _ (List.mem_append_right _ (List.mem_append_left _ (List.mem_of_getElem? (i := 112) rfl))))), List.forall_mem_cons.mpr ⟨(List.mem_append_right _ (List.mem_append_right _ (List.mem_append_right _ (List.mem_append_left _ (List.mem_of_getElem? (i := 111) rfl))))), List.forall_mem_cons.mpr ⟨(List.mem_append_right _ (List.mem_append_left _ (List.mem_of_getElem? (i := 17) rfl))), List.forall_mem_cons.mpr ⟨(List.mem_append_right _ (List.mem_append_right _ (List.mem_append_right _ (List.mem_append_left _ (List.mem_of_getElem? (i := 113) rfl))))), List.forall_mem_cons.mpr ⟨(List.mem_append_right _ (List.mem_append_right _ (List.mem_append_right _ (List.mem_append_left _ (List.mem_of_getElem? (i := 114) rfl))))), List.forall_mem_cons.mpr ⟨(List.mem_append_right _ (List.mem_append_right _ (List.mem_append_right _ (List.mem_append_left _ (List.mem_of_getElem? (i := 115) rfl))))), List.forall_mem_cons.mpr ⟨(List.mem_append_right _ (List.mem_append_right _ (List.mem_append_right _ (List.mem_append_left _ (List.mem_of_getElem? (i := 116) rfl))))), List.forall_mem_cons.mpr ⟨(List.mem_append_right _ (List.mem_append_right _ (List.mem_append_right _ (List.mem_append_left _ (List.mem_of_getElem? (i := 117) rfl))))), List.forall_mem_cons.mpr ⟨(List.mem_append_right _ (List.mem_append_right _ (List.mem_append_right _ (List.mem_append_left _ (List.mem_of_getElem? (i := 118) rfl))))), List.forall_mem_cons.mpr ⟨(List.mem_append_right _ (List.mem_append_right _ (List.mem_append_right _ (List.mem_append_left _ (List.mem_of_getElem? (i := 119) rfl))))), List.forall_mem_cons.mpr ⟨(List.mem_append_right _ (List.mem_append_right _ (List.mem_append_right _ (List.mem_append_left _ (List.mem_of_getElem? (i := 120) rfl))))), List.forall_mem_cons.mpr ⟨(List.mem_append_right _ (List.mem_append_right _ (List.mem_append_right _ (List.mem_append_left _ (List.mem_of_getElem? (i := 121) rfl))))), List.forall_mem_cons.mpr ⟨(List.mem_append_right _ (List.mem_append_right _ (List.mem_append_right _ (List.mem_append_left _ (List.mem_of_getElem? (i := 122) rfl))))), List.forall_mem_cons.mpr ⟨(List.mem_append_right _ (List.mem_append_right _ (List.mem_append_right _ (List.mem_append_left _ (List.mem_of_getElem? (i := 123) rfl))))), List.forall_mem_cons.mpr ⟨(List.mem_append_right _ (List.mem_append_right _ (List.mem_append_right _ (List.mem_append_left _ (List.mem_of_getElem? (i := 124) rfl))))), List.forall_mem_cons.mpr ⟨(List.mem_append_right _ (List.mem_append_right _ (List.mem_append_right _ (List.mem_append_left _ (List.mem_of_getElem? (i := 125) rfl))))), List.forall_mem_cons.mpr ⟨(List.mem_append_right _ (List.mem_append_right _ (List.mem_append_right _ (List.mem_append_left _ (List.mem_of_getElem? (i := 127) rfl))))), List.forall_mem_cons.mpr ⟨(List.mem_append_right _ (List.mem_append_right _ (List.mem_append_right _ (List.mem_append_left _ (List.mem_of_getElem? (i := 126) rfl))))), List.forall_mem_cons.mpr ⟨(List.mem_append_right _ (List.mem_append_right _ (List.mem_append_right _ (List.mem_append_right _ (List.mem_append_right _ (List.mem_of_getElem? (i := 70) rfl)))))), List.forall_mem_cons.mpr ⟨(List.mem_append_right _ (List.mem_append_right _ (List.mem_append_right _ (List.mem_append_right _ (List.mem_append_right _ (List.mem_of_getElem? (i := 71) rfl)))))), List.forall_mem_cons.mpr ⟨(List.mem_append_right _ (List.mem_append_right _ (List.mem_append_right _ (List.mem_append_right _ (List.mem_append_right _ (List.mem_of_getElem? (i := 72) rfl)))))), fun _ h => absurd h List.not_mem_nil⟩⟩⟩⟩⟩⟩⟩⟩⟩⟩⟩⟩⟩⟩⟩⟩⟩⟩⟩⟩⟩⟩⟩⟩
theorem wsL_law_r26_g : wsL_law_r26.all goodWord = true := by decide +kernel
set_option maxRecDepth 20000 in
theorem wsL_law_r27_in : ∀ w ∈ wsL_law_r27, w ∈ lw_tbl := List.forall_mem_cons.mpr ⟨(List.mem_append_right _ (List.mem_append_right _ (List.mem_append_right _ (List.mem_append_right _ (List.mem_append_right _ (List.mem_of_getElem? (i := 73) rfl)))))), List.forall_mem_cons.mpr ⟨(List.mem_append_right _ (List.mem_append_right _ (List.mem_append_right _ (List.mem_append_right _ (List.mem_append_right _ (List.mem_of_getElem? (i := 74) rfl)))))), List.forall_mem_cons.mpr ⟨(List.mem_append_right _ (List.mem_append_right _ (List.mem_append_right _ (List.mem_append_right _ (List.mem_append_left _ (List.mem_of_getElem? (i := 111) rfl)))))), List.forall_mem_cons.mpr ⟨(List.mem_append_right _ (List.mem_append_right _ (List.mem_append_right _ (List.mem_append_right _ (List.mem_append_left _ (List.mem_of_getElem? (i := 112) rfl)))))), List.forall_mem_cons.mpr ⟨(List.mem_append_right _ (List.mem_append_right _ (List.mem_append_right _ (List.mem_append_right _ (List.mem_append_right _ (List.mem_of_getElem? (i := 75) rfl)))))), List.forall_mem_cons.mpr ⟨(List.mem_append_right _ (List.mem_append_right _ (List.mem_append_right _ (List.mem_append_right _ (List.mem_append_right _ (List.mem_of_getElem? (i := 77) rfl)))))), List.forall_mem_cons.mpr ⟨(List.mem_append_left _ (List.mem_of_getElem? (i := 38) rfl)), List.forall_mem_cons.mpr ⟨(List.mem_append_right _ (List.mem_append_right _ (List.mem_append_right _ (List.mem_append_right _ (List.mem_append_right _ (List.mem_of_getElem? (i := 78) rfl)))))), List.forall_mem_cons.mpr ⟨(List.mem_append_right _ (List.mem_append_right _ (List.mem_append_right _ (List.mem_append_right _ (List.mem_append_right _ (List.mem_of_getElem? (i := 79) rfl)))))), List.forall_mem_cons.mpr ⟨(List.mem_append_right _ (List.mem_append_right _ (List.mem_append_right _ (List.mem_append_right _ (List.mem_append_right _ (List.mem_of_getElem? (i := 81) rfl)))))), List.forall_mem_cons.mpr ⟨(List.mem_append_left _ (List.mem_of_getElem? (i := 39) rfl)), List.forall_mem_cons.mpr ⟨(List.mem_append_right _ (List.mem_append_right _ (List.mem_append_right _ (List.mem_append_right _ (List.mem_append_right _ (List.mem_of_getElem? (i := 82) rfl)))))), List.forall_mem_cons.mpr ⟨(List.mem_append_right _ (List.mem_append_right _ (List.mem_append_right _ (List.mem_append_right _ (List.mem_append_right _ (List.mem_of_getElem? (i := 83) rfl)))))), List.forall_mem_cons.mpr ⟨(List.mem_append_right _ (List.mem_append_right _ (List.mem_append_right _ (List.mem_append_right _ (List.mem_append_right _ (List.mem_of_getElem? (i := 85) rfl)))))), List.forall_mem_cons.mpr ⟨(List.mem_append_left _ (List.mem_of_getElem? (i := 40) rfl)), List.forall_mem_cons.mpr ⟨(List.mem_append_right _ (List.mem_append_right _ (List.mem_append_right _ (List.mem_append_right _ (List.mem_append_right _ (List.mem_of_getElem? (i := 86) rfl)))))), List.forall_mem_cons.mpr ⟨(List.mem_append_right _ (List.mem_append_right _ (List.mem_append_right _ (List.mem_append_right _ (List.mem_append_right _ (List.mem_of_getElem? (i := 87) rfl)))))), List.forall_mem_cons.mpr ⟨(List.mem_append_right _ (List.mem_append_right _ (List.mem_append_right _ (List.mem_append_right _ (List.mem_append_right _ (List.mem_of_getElem? (i := 89) rfl)))))), List.forall_mem_cons.mpr ⟨(List.mem_append_left _ (List.mem_of_getElem? (i := 41) rfl)), List.forall_mem_cons.mpr ⟨(List.mem_append_right _ (List.mem_append_right _ (List.mem_append_right _ (List.mem_append_right _ (List.mem_append_right _ (List.mem_of_getElem? (i := 90) rfl)))))), List.forall_mem_cons.mpr ⟨(List.mem_append_right _ (List.mem_append_right _ (List.mem_append_right _ (List.mem_append_right _ (List.mem_append_right _ (List.mem_of_getElem? (i := 91) rfl)))))), List.forall_mem_cons.mpr ⟨(List.mem_append_right _ (List.mem_append_right _ (List.mem_append_right _ (List.mem_append_right _ (List.mem_append_right _ (List.mem_of_getElem? (i := 93) rfl)))))), List.forall_mem_cons.mpr ⟨(List.mem_append_left _ (List.mem_of_getElem? (i := 42) rfl)), List.forall_mem_cons.mpr ⟨(List.mem_append_right _ (List.mem_append_right _ (List.mem_append_right _ (List.mem_append_right _ (List.mem_append_right _ (List.mem_of_getElem? (i := 94) rfl)))))), fun _ h => absurd h List.not_mem_nil⟩⟩⟩⟩⟩⟩⟩⟩⟩⟩⟩⟩⟩⟩⟩⟩⟩⟩⟩⟩⟩⟩⟩⟩
theorem wsL_law_r27_g : wsL_law_r27.all goodWord = true := by decide +kernel
set_option maxRecDepth 20000 in
theorem wsL_law_r28_in : ∀ w ∈ wsL_law_r28, w ∈ lw_tbl := List.forall_mem_cons.mpr ⟨(List.mem_append_right _ (List.mem_append_right _ (List.mem_append_right _ (List.mem_append_right _ (List.mem_append_right _ (List.mem_of_getElem? (i := 95) rfl)))))), List.forall_mem_cons.mpr ⟨(List.mem_append_right _ (List.mem_append_right _ (List.mem_append_right _ (List.mem_append_right _ (List.mem_append_right _ (List.mem_of_getElem? (i := 97) rfl)))))), List.forall_mem_cons.mpr ⟨(List.mem_append_left _ (List.mem_of_getElem? (i := 43) rfl)), List.forall_mem_cons.mpr ⟨(List.mem_append_right _ (List.mem_append_right _ (List.mem_append_right _ (List.mem_append_right _ (List.mem_append_right _ (List.mem_of_getElem? (i := 98) rfl)))))), List.forall_mem_cons.mpr ⟨(List.mem_append_right _ (List.mem_append_right _ (List.mem_append_right _ (List.mem_append_right _ (List.mem_append_right _ (List.mem_of_getElem? (i := 99) rfl)))))), List.forall_mem_cons.mpr ⟨(List.mem_append_right _ (List.mem_append_right _ (List.mem_append_right _ (List.mem_append_right _ (List.mem_append_right _ (List.mem_of_getElem? (i := 101) rfl)))))), List.forall_mem_cons.mpr ⟨(List.mem_append_left _ (List.mem_of_getElem? (i := 44) rfl)), List.forall_mem_cons.mpr ⟨(List.mem_append_right _ (List.mem_append_right _ (List.mem_append_right _ (List.mem_append_right _ (List.mem_append_right _ (List.mem_of_getElem? (i := 102) rfl)))))), List.forall_mem_cons.mpr ⟨(List.mem_append_right _ (List.mem_append_right _ (List.mem_append_right _ (List.mem_append_right _ (List.mem_append_right _ (List.mem_of_getElem? (i := 103) rfl)))))), List.forall_mem_cons.mpr ⟨(List.mem_append_right _ (List.mem_append_right _ (List.mem_append_right _ (List.mem_append_right _ (List.mem_append_right _ (List.mem_of_getElem? (i := 105) rfl)))))), List.forall_mem_cons.mpr ⟨(List.mem_append_left _ (List.mem_of_getElem? (i := 45) rfl)), List.forall_mem_cons.mpr ⟨(List.mem_append_right _ (List.mem_append_right _ (List.mem_append_right _ (List.mem_append_right _ (List.mem_append_right _ (List.mem_of_getElem? (i := 106) rfl)))))), List.forall_mem_cons.mpr ⟨(List.mem_append_right _ (List.mem_append_right _ (List.mem_append_right _ (List.mem_append_left _ (List.mem_of_getElem? (i := 128) rfl))))), List.forall_mem_cons.mpr ⟨(List.mem_append_right _ (List.mem_append_right _ (List.mem_append_right _ (List.mem_append_left _ (List.mem_of_getElem? (i := 129) rfl))))), List.forall_mem_cons.mpr ⟨(List.mem_append_right _ (List.mem_append_right _ (List.mem_append_right _ (List.mem_append_left _ (List.mem_of_getElem? (i := 130) rfl))))), List.forall_mem_cons.mpr ⟨(List.mem_append_right _ (List.mem_append_right _ (List.mem_append_right _ (List.mem_append_left _ (List.mem_of_getElem? (i := 131) rfl))))), List.forall_mem_cons.mpr ⟨(List.mem_append_right _ (List.mem_append_right _ (List.mem_append_right _ (List.mem_append_left _ (List.mem_of_getElem? (i := 132) rfl))))), List.forall_mem_cons.mpr ⟨(List.mem_append_right _ (List.mem_append_right _ (List.mem_append_right _ (List.mem_append_right _ (List.mem_append_right _ (List.mem_of_getElem? (i := 107) rfl)))))), List.forall_mem_cons.mpr ⟨(List.mem_append_right _ (List.mem_append_right _ (List.mem_append_right _ (List.mem_append_right _ (List.mem_append_right _ (List.mem_of_getElem? (i := 108) rfl)))))), List.forall_mem_cons.mpr ⟨(List.mem_append_right _ (List.mem_append_right _ (List.mem_append_right _ (List.mem_append_right _ (List.mem_append_right _ (List.mem_of_getElem? (i := 109) rfl)))))), List.forall_mem_cons.mpr ⟨(List.mem_append_right _ (List.mem_append_right _ (List.mem_append_right _ (List.mem_append_right _ (List.mem_append_right _ (List.mem_of_getElem? (i := 110) rfl)))))), List.forall_mem_cons.mpr ⟨(List.mem_append_right _ (List.mem_append_right _ (List.mem_append_right _ (List.mem_append_left _ (List.mem_of_getElem? (i := 133) rfl))))), List.forall_mem_cons.mpr ⟨(List.mem_append_right _ (List.mem_append_right _ (List.mem_append_right _ (List.mem_append_left _ (List.mem_of_getElem? (i := 134) rfl))))), List.forall_mem_cons.mpr ⟨(List.mem_append_right _ (List.mem_append_right _ (List.mem_append_right _ (List.mem_append_left _ (List.mem_of_getElem? (i := 135) rfl))))), fun _ h => absurd h List.not_mem_nil⟩⟩⟩⟩⟩⟩⟩⟩⟩⟩⟩⟩⟩⟩⟩⟩⟩⟩⟩⟩⟩⟩⟩⟩
theorem wsL_law_r28_g : wsL_law_r28.all goodWord = true := by decide +kernel
set_option maxRecDepth 20000 in
theorem wsL_law_r29_in : ∀ w ∈ wsL_law_r29, w ∈ lw_tbl := List.forall_mem_cons.mpr ⟨(List.mem_append_right _ (List.mem_append_right _ (List.mem_append_right _ (List.mem_append_left _ (List.mem_of_getElem? (i := 136) rfl))))), List.forall_mem_cons.mpr ⟨(List.mem_append_right _ (List.mem_append_right _ (List.mem_append_right _ (List.mem_append_left _ (List.mem_of_getElem? (i := 137) rfl))))), List.forall_mem_cons.mpr ⟨(List.mem_append_right _ (List.mem_append_right _ (List.mem_append_right _ (List.mem_append_left _ (List.mem_of_getElem? (i := 138) rfl))))), List.forall_mem_cons.mpr ⟨(List.mem_append_right _ (List.mem_append_right _ (List.mem_append_right _ (List.mem_append_left _ (List.mem_of_getElem? (i := 139) rfl))))), List.forall_mem_cons.mpr ⟨(List.mem_append_right _ (List.mem_append_right _ (List.mem_append_right _ (List.mem_append_left _ (List.mem_of_getElem? (i := 140) rfl))))), List.forall_mem_cons.mpr ⟨(List.mem_append_right _ (List.mem_append_right _ (List.mem_append_right _ (List.mem_append_left _ (List.mem_of_getElem? (i := 141) rfl))))), List.forall_mem_cons.mpr ⟨(List.mem_append_right _ (List.mem_append_right _ (List.mem_append_right _ (List.mem_append_left _ (List.mem_of_getElem? (i := 142) rfl))))), List.forall_mem_cons.mpr ⟨(List.mem_append_right _ (List.mem_append_right _ (List.mem_append_right _ (List.mem_append_left _ (List.mem_of_getElem? (i := 143) rfl))))), List.forall_mem_cons.mpr ⟨(List.mem_append_right _ (List.mem_append_right _ (List.mem_append_right _ (List.mem_append_left _ (List.mem_of_getElem? (i := 144) rfl))))), List.forall_mem_cons.mpr ⟨(List.mem_append_right _ (List.mem_append_right _ (List.mem_append_right _ (List.mem_append_left _ (List.mem_of_getElem? (i := 145) rfl))))), List.forall_mem_cons.mpr ⟨(List.mem_append_right _ (List.mem_append_right _ (List.mem_append_right _ (List.mem_append_left _ (List.mem_of_getElem? (i := 146) rfl))))), List.forall_mem_cons.mpr ⟨(List.mem_append_right _ (List.mem_append_right _ (List.mem_append_right _ (List.mem_append_left _ (List.mem_of_getElem? (i := 147) rfl))))), List.forall_mem_cons.mpr ⟨(List.mem_append_right _ (List.mem_append_right _ (List.mem_append_right _ (List.mem_append_left _ (List.mem_of_getElem? (i := 149) rfl))))), List.forall_mem_cons.mpr ⟨(List.mem_append_left _ (List.mem_of_getElem? (i := 19) rfl)), List.forall_mem_cons.mpr ⟨(List.mem_append_right _ (List.mem_append_right _ (List.mem_append_right _ (List.mem_append_left _ (List.mem_of_getElem? (i := 150) rfl))))), List.forall_mem_cons.mpr ⟨(List.mem_append_right _ (List.mem_append_right _ (List.mem_append_right _ (List.mem_append_left _ (List.mem_of_getElem? (i := 151) rfl))))), List.forall_mem_cons.mpr ⟨(List.mem_append_right _ (List.mem_append_right _ (List.mem_append_right _ (List.mem_append_left _ (List.mem_of_getElem? (i := 152) rfl))))), List.forall_mem_cons.mpr ⟨(List.mem_append_right _ (List.mem_append_right _ (List.mem_append_right _ (List.mem_append_left _ (List.mem_of_getElem? (i := 153) rfl))))), List.forall_mem_cons.mpr ⟨(List.mem_append_right _ (List.mem_append_right _ (List.mem_append_right _ (List.mem_append_left _ (List.mem_of_getElem? (i := 154) rfl))))), List.forall_mem_cons.mpr ⟨(List.mem_append_right _ (List.mem_append_right _ (List.mem_append_right _ (List.mem_append_left _ (List.mem_of_getElem? (i := 155) rfl))))), List.forall_mem_cons.mpr ⟨(List.mem_append_right _ (List.mem_append_right _ (List.mem_append_right _ (List.mem_append_left _ (List.mem_of_getElem? (i := 156) rfl))))), List.forall_mem_cons.mpr ⟨(List.mem_append_right _ (List.mem_append_right _ (List.mem_append_right _ (List.mem_append_left _ (List.mem_of_getElem? (i := 157) rfl))))), List.forall_mem_cons.mpr ⟨(List.mem_append_right _ (List.mem_append_right _ (List.mem_append_right _ (List.mem_append_left _ (List.mem_of_getElem? (i := 158) rfl))))), List.forall_mem_cons.mpr ⟨(List.mem_append_right _ (List.mem_append_right _ (List.mem_append_right _ (List.mem_append_right _ (List.mem_append_right _ (List.mem_of_getElem? (i := 111) rfl)))))), fun _ h => absurd h List.not_mem_nil⟩⟩⟩⟩⟩⟩⟩⟩⟩⟩⟩⟩⟩⟩⟩⟩⟩⟩⟩⟩⟩⟩⟩⟩
theorem wsL_law_r29_g : wsL_law_r29.all goodWord = true := by decide +kernel
set_option maxRecDepth 20000 in
theorem wsL_law_r30_in : ∀ w ∈ wsL_law_r30, w ∈ lw_tbl := List.forall_mem_cons.mpr ⟨(List.mem_append_right _ (List.mem_append_right _ (List.mem_append_right _ (List.mem_append_right _ (List.mem_append_right _ (List.mem_of_getElem? (i := 112) rfl)))))), List.forall_mem_cons.mpr ⟨(List.mem_append_right _ (List.mem_append_right _ (List.mem_append_right _ (List.mem_append_right _ (List.mem_append_right _ (List.mem_of_getElem? (i := 113) rfl)))))), List.forall_mem_cons.mpr ⟨(List.mem_append_right _ (List.mem_append_right _ (List.mem_append_right _ (List.mem_append_right _ (List.mem_append_right _ (List.mem_of_getElem? (i := 114) rfl)))))), List.forall_mem_cons.mpr ⟨(List.mem_append_right _ (List.mem_append_right _ (List.mem_append_right _ (List.mem_append_right _ (List.mem_append_right _ (List.mem_of_getElem? (i := 115) rfl)))))), List.forall_mem_cons.mpr ⟨(List.mem_append_right _ (List.mem_append_right _ (List.mem_append_right _ (List.mem_append_right _ (List.mem_append_right _ (List.mem_of_getElem? (i := 117) rfl)))))), List.forall_mem_cons.mpr ⟨(List.mem_append_left _ (List.mem_of_getElem? (i := 46) rfl)), List.forall_mem_cons.mpr ⟨(List.mem_append_right _ (List.mem_append_right _ (List.mem_append_right _ (List.mem_append_right _ (List.mem_append_right _ (List.mem_of_getElem? (i := 118) rfl)))))), List.forall_mem_cons.mpr ⟨(List.mem_append_right _ (List.mem_append_right _ (List.mem_append_right _ (List.mem_append_right _ (List.mem_append_right _ (List.mem_of_getElem? (i := 119) rfl)))))), List.forall_mem_cons.mpr ⟨(List.mem_append_right _ (List.mem_append_right _ (List.mem_append_right _ (List.mem_append_right _ (List.mem_append_right _ (List.mem_of_getElem? (i := 121) rfl)))))), List.forall_mem_cons.mpr ⟨(List.mem_append_left _ (List.mem_of_getElem? (i := 47) rfl)), List.forall_mem_cons.mpr ⟨(List.mem_append_right _ (List.mem_append_right _ (List.mem_append_right _ (List.mem_append_right _ (List.mem_append_right _ (List.mem_of_getElem? (i := 122) rfl)))))), List.forall_mem_cons.mpr ⟨(List.mem_append_right _ (List.mem_append_right _ (List.mem_append_right _ (List.mem_append_right _ (List.mem_append_right _ (List.mem_of_getElem? (i := 123) rfl)))))), List.forall_mem_cons.mpr ⟨(List.mem_append_right _ (List.mem_append_right _ (List.mem_append_right _ (List.mem_append_right _ (List.mem_append_right _ (List.mem_of_getElem? (i := 125) rfl)))))), List.forall_mem_cons.mpr ⟨(List.mem_append_left _ (List.mem_of_getElem? (i := 48) rfl)), List.forall_mem_cons.mpr ⟨(List.mem_append_right _ (List.mem_append_right _ (List.mem_append_right _ (List.mem_append_right _ (List.mem_append_right _ (List.mem_of_getElem? (i := 126) rfl)))))), List.forall_mem_cons.mpr ⟨(List.mem_append_right _ (List.mem_append_right _ (List.mem_append_right _ (List.mem_append_right _ (List.mem_append_right _ (List.mem_of_getElem? (i := 127) rfl)))))), List.forall_mem_cons.mpr ⟨(List.mem_append_right _ (List.mem_append_right _ (List.mem_append_right _ (List.mem_append_right _ (List.mem_append_right _ (List.mem_of_getElem? (i := 129) rfl)))))), List.forall_mem_cons.mpr ⟨(List.mem_append_left _ (List.mem_of_getElem? (i := 49) rfl)), List.forall_mem_cons.mpr ⟨(List.mem_append_right _ (List.mem_append_right _ (List.mem_append_right _ (List.mem_append_right _ (List.mem_append_right _ (List.mem_of_getElem? (i := 130) rfl)))))), List.forall_mem_cons.mpr ⟨(List.mem_append_right _ (List.mem_append_right _ (List.mem_append_right _ (List.mem_append_right _ (List.mem_append_right _ (List.mem_of_getElem? (i := 131) rfl)))))), List.forall_mem_cons.mpr ⟨(List.mem_append_right _ (List.mem_append_right _ (List.mem_append_right _ (List.mem_append_right _ (List.mem_append_right _ (List.mem_of_getElem? (i := 133) rfl)))))), List.forall_mem_cons.mpr ⟨(List.mem_append_left _ (List.mem_of_getElem? (i := 50) rfl)), List.forall_mem_cons.mpr ⟨(List.mem_append_right _ (List.mem_append_right _ (List.mem_append_right _ (List.mem_append_right _ (List.mem_append_right _ (List.mem_of_getElem? (i := 134) rfl)))))), List.forall_mem_cons.mpr ⟨(List.mem_append_right _ (List.mem_append_right _ (List.mem_append_right _ (List.mem_append_left _ (List.mem_of_getElem? (i := 159) rfl))))), fun _ h => absurd h List.not_mem_nil⟩⟩⟩⟩⟩⟩⟩⟩⟩⟩⟩⟩⟩⟩⟩⟩⟩⟩⟩⟩⟩⟩⟩⟩
theorem wsL_law_r30_g : wsL_law_r30.all goodWord = true := by decide +kernel
set_option maxRecDepth 20000 in
theorem wsL_law_r31_in : ∀ w ∈ wsL_law_r31, w ∈ lw_tbl := List.forall_mem_cons.mpr ⟨(List.mem_append_right _ (List.mem_append_right _ (List.mem_append_right _ (List.mem_append_left _ (List.mem_of_getElem? (i := 160) rfl))))), List.forall_mem_cons.mpr ⟨(List.mem_append_right _ (List.mem_append_right _ (List.mem_append_right _ (List.mem_append_left _ (List.mem_of_getElem? (i := 161) rfl))))), List.forall_mem_cons.mpr ⟨(List.mem_append_right _ (List.mem_append_right _ (List.mem_append_right _ (List.mem_append_left _ (List.mem_of_getElem? (i := 162) rfl))))), List.forall_mem_cons.mpr ⟨(List.mem_append_right _ (List.mem_append_right _ (List.mem_append_right _ (List.mem_append_right _ (List.mem_append_right _ (List.mem_of_getElem? (i := 135) rfl)))))), List.forall_mem_cons.mpr ⟨(List.mem_append_right _ (List.mem_append_right _ (List.mem_append_right _ (List.mem_append_right _ (List.mem_append_right _ (List.mem_of_getElem? (i := 136) rfl)))))), List.forall_mem_cons.mpr ⟨(List.mem_append_right _ (List.mem_append_right _ (List.mem_append_right _ (List.mem_append_right _ (List.mem_append_right _ (List.mem_of_getElem? (i := 137) rfl)))))), List.forall_mem_cons.mpr ⟨(List.mem_append_right _ (List.mem_append_right _ (List.mem_append_right _ (List.mem_append_right _ (List.mem_append_right _ (List.mem_of_getElem? (i := 138) rfl)))))), List.forall_mem_cons.mpr ⟨(List.mem_append_right _ (List.mem_append_right _ (List.mem_append_right _ (List.mem_append_right _ (List.mem_append_right _ (List.mem_of_getElem? (i := 139) rfl)))))), List.forall_mem_cons.mpr ⟨(List.mem_append_right _ (List.mem_append_right _ (List.mem_append_right _ (List.mem_append_left _ (List.mem_of_getElem? (i := 163) rfl))))), List.forall_mem_cons.mpr ⟨(List.mem_append_right _ (List.mem_append_right _ (List.mem_append_right _ (List.mem_append_left _ (List.mem_of_getElem? (i := 164) rfl))))), List.forall_mem_cons.mpr ⟨(List.mem_append_right _ (List.mem_append_right _ (List.mem_append_right _ (List.mem_append_left _ (List.mem_of_getElem? (i := 165) rfl))))), List.forall_mem_cons.mpr ⟨(List.mem_append_right _ (List.mem_append_right _ (List.mem_append_right _ (List.mem_append_left _ (List.mem_of_getElem? (i := 166) rfl))))), List.forall_mem_cons.mpr ⟨(List.mem_append_right _ (List.mem_append_right _ (List.mem_append_left _ (List.mem_of_getElem? (i := 5) rfl)))), List.forall_mem_cons.mpr ⟨(List.mem_append_right _ (List.mem_append_right _ (List.mem_append_right _ (List.mem_append_left _ (List.mem_of_getElem? (i := 167) rfl))))), List.forall_mem_cons.mpr ⟨(List.mem_append_right _ (List.mem_append_right _ (List.mem_append_right _ (List.mem_append_left _ (List.mem_of_getElem? (i := 168) rfl))))), List.forall_mem_cons.mpr ⟨(List.mem_append_right _ (List.mem_append_right _ (List.mem_append_right _ (List.mem_append_left _ (List.mem_of_getElem? (i := 169) rfl))))), List.forall_mem_cons.mpr ⟨(List.mem_append_right _ (List.mem_append_right _ (List.mem_append_right _ (List.mem_append_left _ (List.mem_of_getElem? (i := 170) rfl))))), List.forall_mem_cons.mpr ⟨(List.mem_append_right _ (List.mem_append_right _ (List.mem_append_right _ (List.mem_append_left _ (List.mem_of_getElem? (i := 171) rfl))))), List.forall_mem_cons.mpr ⟨(List.mem_append_right _ (List.mem_append_right _ (List.mem_append_right _ (List.mem_append_right _ (List.mem_append_right _ (List.mem_of_getElem? (i := 140) rfl)))))), List.forall_mem_cons.mpr ⟨(List.mem_append_right _ (List.mem_append_right _ (List.mem_append_right _ (List.mem_append_right _ (List.mem_append_right _ (List.mem_of_getElem? (i := 141) rfl)))))), List.forall_mem_cons.mpr ⟨(List.mem_append_right _ (List.mem_append_right _ (List.mem_append_right _ (List.mem_append_right _ (List.mem_append_right _ (List.mem_of_getElem? (i := 142) rfl)))))), List.forall_mem_cons.mpr ⟨(List.mem_append_right _ (List.mem_append_right _ (List.mem_append_right _ (List.mem_append_right _ (List.mem_append_right _ (List.mem_of_getElem? (i := 143) rfl)))))), List.forall_mem_cons.mpr ⟨(List.mem_append_right _ (List.mem_append_right _ (List.mem_append_right _ (List.mem_append_left _ (List.mem_of_getElem? (i := 172) rfl))))), List.forall_mem_cons.mpr ⟨(List.mem_append_right _ (List.mem_append_right _ (List.mem_append_right _ (List.mem_append_left _ (List.mem_of_getElem? (i := 173) rfl))))), fun _ h => absurd h List.not_mem_nil⟩⟩⟩⟩⟩⟩⟩⟩⟩⟩⟩⟩⟩⟩⟩⟩⟩⟩⟩⟩⟩⟩⟩⟩
theorem wsL_law_r31_g : wsL_law_r31.all goodWord = true := by decide +kernel
set_option maxRecDepth 20000 in
theorem wsL_law_r32_in : ∀ w ∈ wsL_law_r32, w ∈ lw_tbl := List.forall_mem_cons.mpr ⟨(List.mem_append_right _ (List.mem_append_right _ (List.mem_append_right _ (List.mem_append_left _ (List.mem_of_getElem? (i := 174) rfl))))), List.forall_mem_cons.mpr ⟨(List.mem_append_right _ (List.mem_append_right _ (List.mem_append_right _ (List.mem_append_left _ (List.mem_of_getElem? (i := 175) rfl))))), List.forall_mem_cons.mpr ⟨(List.mem_append_right _ (List.mem_append_right _ (List.mem_append_left _ (List.mem_of_getElem? (i := 19) rfl)))), List.forall_mem_cons.mpr ⟨(List.mem_append_right _ (List.mem_append_right _ (List.mem_append_right _ (List.mem_append_left _ (List.mem_of_getElem? (i := 176) rfl))))), List.forall_mem_cons.mpr ⟨(List.mem_append_right _ (List.mem_append_right _ (List.mem_append_right _ (List.mem_append_left _ (List.mem_of_getElem? (i := 177) rfl))))), List.forall_mem_cons.mpr ⟨(List.mem_append_right _ (List.mem_append_right _ (List.mem_append_right _ (List.mem_append_left _ (List.mem_of_getElem? (i := 178) rfl))))), List.forall_mem_cons.mpr ⟨(List.mem_append_right _ (List.mem_append_right _ (List.mem_append_right _ (List.mem_append_left _ (List.mem_of_getElem? (i := 179) rfl))))), List.forall_mem_cons.mpr ⟨(List.mem_append_right _ (List.mem_append_right _ (List.mem_append_right _ (List.mem_append_right _ (List.mem_append_right _ (List.mem_of_getElem? (i := 144) rfl)))))), List.forall_mem_cons.mpr ⟨(List.mem_append_right _ (List.mem_append_right _ (List.mem_append_right _ (List.mem_append_right _ (List.mem_append_right _ (List.mem_of_getElem? (i := 145) rfl)))))), List.forall_mem_cons.mpr ⟨(List.mem_append_right _ (List.mem_append_right _ (List.mem_append_right _ (List.mem_append_right _ (List.mem_append_right _ (List.mem_of_getElem? (i := 146) rfl)))))), List.forall_mem_cons.mpr ⟨(List.mem_append_right _ (List.mem_append_right _ (List.mem_append_right _ (List.mem_append_right _ (List.mem_append_right _ (List.mem_of_getElem? (i := 147) rfl)))))), List.forall_mem_cons.mpr ⟨(List.mem_append_right _ (List.mem_append_right _ (List.mem_append_right _ (List.mem_append_left _ (List.mem_of_getElem? (i := 180) rfl))))), List.forall_mem_cons.mpr ⟨(List.mem_append_right _ (List.mem_append_right _ (List.mem_append_right _ (List.mem_append_left _ (List.mem_of_getElem? (i := 181) rfl))))), List.forall_mem_cons.mpr ⟨(List.mem_append_right _ (List.mem_append_right _ (List.mem_append_right _ (List.mem_append_left _ (List.mem_of_getElem? (i := 182) rfl))))), List.forall_mem_cons.mpr ⟨(List.mem_append_right _ (List.mem_append_right _ (List.mem_append_right _ (List.mem_append_left _ (List.mem_of_getElem? (i := 183) rfl))))), List.forall_mem_cons.mpr ⟨(List.mem_append_right _ (List.mem_append_right _ (List.mem_append_right _ (List.mem_append_left _ (List.mem_of_getElem? (i := 184) rfl))))), List.forall_mem_cons.mpr ⟨(List.mem_append_right _ (List.mem_append_right _ (List.mem_append_right _ (List.mem_append_right _ (List.mem_append_right _ (List.mem_of_getElem? (i := 148) rfl)))))), List.forall_mem_cons.mpr ⟨(List.mem_append_right _ (List.mem_append_right _ (List.mem_append_right _ (List.mem_append_right _ (List.mem_append_right _ (List.mem_of_getElem? (i := 149) rfl)))))), List.forall_mem_cons.mpr ⟨(List.mem_append_right _ (List.mem_append_right _ (List.mem_append_right _ (List.mem_append_right _ (List.mem_append_right _ (List.mem_of_getElem? (i := 150) rfl)))))), List.forall_mem_cons.mpr ⟨(List.mem_append_right _ (List.mem_append_right _ (List.mem_append_right _ (List.mem_append_right _ (List.mem_append_right _ (List.mem_of_getElem? (i := 151) rfl)))))), List.forall_mem_cons.mpr ⟨(List.mem_append_right _ (List.mem_append_right _ (List.mem_append_right _ (List.mem_append_left _ (List.mem_of_getElem? (i := 185) rfl))))), List.forall_mem_cons.mpr ⟨(List.mem_append_right _ (List.mem_append_right _ (List.mem_append_right _ (List.mem_append_left _ (List.mem_of_getElem? (i := 186) rfl))))), List.forall_mem_cons.mpr ⟨(List.mem_append_right _ (List.mem_append_right _ (List.mem_append_right _ (List.mem_append_left _ (List.mem_of_getElem? (i := 187) rfl))))), List.forall_mem_cons.mpr ⟨(List.mem_append_right _ (List.mem_append_right _ (List.mem_append_right _ (List.mem_append_left _ (List.mem_of_getElem? (i := 188) rfl))))), fun _ h => absurd h List.not_mem_nil⟩⟩⟩⟩⟩⟩⟩⟩⟩⟩⟩⟩⟩⟩⟩⟩⟩⟩⟩⟩⟩⟩⟩⟩
theorem wsL_law_r32_g : wsL_law_r32.all goodWord = true := by decide +kernel
set_option maxRecDepth 20000 in
theorem wsL_law_r33_in : ∀ w ∈ wsL_law_r33, w ∈ lw_tbl := List.forall_mem_cons.mpr ⟨(List.mem_append_right _ (List.mem_append_right _ (List.mem_append_right _ (List.mem_append_left _ (List.mem_of_getElem? (i := 189) rfl))))), List.forall_mem_cons.mpr ⟨(List.mem_append_right _ (List.mem_append_right _ (List.mem_append_right _ (List.mem_append_right _ (List.mem_append_right _ (List.mem_of_getElem? (i := 152) rfl)))))), List.forall_mem_cons.mpr ⟨(List.mem_append_right _ (List.mem_append_right _ (List.mem_append_right _ (List.mem_append_right _ (List.mem_append_right _ (List.mem_of_getElem? (i := 153) rfl)))))), List.forall_mem_cons.mpr ⟨(List.mem_append_right _ (List.mem_append_right _ (List.mem_append_right _ (List.mem_append_right _ (List.mem_append_right _ (List.mem_of_getElem? (i := 154) rfl)))))), List.forall_mem_cons.mpr ⟨(List.mem_append_right _ (List.mem_append_right _ (List.mem_append_right _ (List.mem_append_right _ (List.mem_append_right _ (List.mem_of_getElem? (i := 155) rfl)))))), List.forall_mem_cons.mpr ⟨(List.mem_append_right _ (List.mem_append_right _ (List.mem_append_right _ (List.mem_append_left _ (List.mem_of_getElem? (i := 190) rfl))))), List.forall_mem_cons.mpr ⟨(List.mem_append_right _ (List.mem_append_right _ (List.mem_append_right _ (List.mem_append_left _ (List.mem_of_getElem? (i := 191) rfl))))), List.forall_mem_cons.mpr ⟨(List.mem_append_right _ (List.mem_append_right _ (List.mem_append_right _ (List.mem_append_left _ (List.mem_of_getElem? (i := 192) rfl))))), List.forall_mem_cons.mpr ⟨(List.mem_append_right _ (List.mem_append_right _ (List.mem_append_right _ (List.mem_append_left _ (List.mem_of_getElem? (i := 193) rfl))))), List.forall_mem_cons.mpr ⟨(List.mem_append_right _ (List.mem_append_right _ (List.mem_append_right _ (List.mem_append_left _ (List.mem_of_getElem? (i := 194) rfl))))), List.forall_mem_cons.mpr ⟨(List.mem_append_right _ (List.mem_append_right _ (List.mem_append_right _ (List.mem_append_left _ (List.mem_of_getElem? (i := 195) rfl))))), List.forall_mem_cons.mpr ⟨(List.mem_append_right _ (List.mem_append_right _ (List.mem_append_right _ (List.mem_append_left _ (List.mem_of_getElem? (i := 196) rfl))))), List.forall_mem_cons.mpr ⟨(List.mem_append_right _ (List.mem_append_right _ (List.mem_append_right _ (List.mem_append_left _ (List.mem_of_getElem? (i := 197) rfl))))), List.forall_mem_cons.mpr ⟨(List.mem_append_right _ (List.mem_append_left _ (List.mem_of_getElem? (i := 74) rfl))), List.forall_mem_cons.mpr ⟨(List.mem_append_right _ (List.mem_append_right _ (List.mem_append_right _ (List.mem_append_left _ (List.mem_of_getElem? (i := 198) rfl))))), List.forall_mem_cons.mpr ⟨(List.mem_append_right _ (List.mem_append_left _ (List.mem_of_getElem? (i := 64) rfl))), List.forall_mem_cons.mpr ⟨(List.mem_append_right _ (List.mem_append_right _ (List.mem_append_right _ (List.mem_append_left _ (List.mem_of_getElem? (i := 200) rfl))))), List.forall_mem_cons.mpr ⟨(List.mem_append_right _ (List.mem_append_right _ (List.mem_append_right _ (List.mem_append_left _ (List.mem_of_getElem? (i := 201) rfl))))), List.forall_mem_cons.mpr ⟨(List.mem_append_right _ (List.mem_append_right _ (List.mem_append_right _ (List.mem_append_left _ (List.mem_of_getElem? (i := 202) rfl))))), List.forall_mem_cons.mpr ⟨(List.mem_append_right _ (List.mem_append_right _ (List.mem_append_right _ (List.mem_append_left _ (List.mem_of_getElem? (i := 199) rfl))))), List.forall_mem_cons.mpr ⟨(List.mem_append_right _ (List.mem_append_right _ (List.mem_append_right _ (List.mem_append_left _ (List.mem_of_getElem? (i := 203) rfl))))), List.forall_mem_cons.mpr ⟨(List.mem_append_right _ (List.mem_append_right _ (List.mem_append_right _ (List.mem_append_left _ (List.mem_of_getElem? (i := 204) rfl))))), List.forall_mem_cons.mpr ⟨(List.mem_append_right _ (List.mem_append_right _ (List.mem_append_right _ (List.mem_append_left _ (List.mem_of_getElem? (i := 205) rfl))))), List.forall_mem_cons.mpr ⟨(List.mem_append_right _ (List.mem_append_right _ (List.mem_append_right _ (List.mem_append_left _ (List.mem_of_getElem? (i := 206) rfl))))), fun _ h => absurd h List.not_mem_nil⟩⟩⟩⟩⟩⟩⟩⟩⟩⟩⟩⟩⟩⟩⟩⟩⟩⟩⟩⟩⟩⟩⟩⟩
theorem wsL_law_r33_g : wsL_law_r33.all goodWord = true := by decide +kernel
set_option maxRecDepth 20000 in
theorem wsL_law_r34_in : ∀ w ∈ wsL_law_r34, w ∈ lw_tbl := List.forall_mem_cons.mpr ⟨(List.mem_append_right _ (List.mem_append_right _ (List.mem_append_right _ (List.mem_append_left _ (List.mem_of_getElem? (i := 207) rfl))))), List.forall_mem_cons.mpr ⟨(List.mem_append_right _ (List.mem_append_right _ (List.mem_append_right _ (List.mem_append_left _ (List.mem_of_getElem? (i := 208) rfl))))), List.forall_mem_cons.mpr ⟨(List.mem_append_right _ (List.mem_append_right _ (List.mem_append_right _ (List.mem_append_left _ (List.mem_of_getElem? (i := 209) rfl))))), List.forall_mem_cons.mpr ⟨(List.mem_append_right _ (List.mem_append_left _ (List.mem_of_getElem? (i := 162) rfl))), List.forall_mem_cons.mpr ⟨(List.mem_append_right _ (List.mem_append_right _ (List.mem_append_right _ (List.mem_append_left _ (List.mem_of_getElem? (i := 210) rfl))))), List.forall_mem_cons.mpr ⟨(List.mem_append_right _ (List.mem_append_right _ (List.mem_append_right _ (List.mem_append_left _ (List.mem_of_getElem? (i := 211) rfl))))), List.forall_mem_cons.mpr ⟨(List.mem_append_right _ (List.mem_append_right _ (List.mem_append_right _ (List.mem_append_left _ (List.mem_of_getElem? (i := 212) rfl))))), List.forall_mem_cons.mpr ⟨(List.mem_append_right _ (List.mem_append_right _ (List.mem_append_right _ (List.mem_append_left _ (List.mem_of_getElem? (i := 213) rfl))))), List.forall_mem_cons.mpr ⟨(List.mem_append_right _ (List.mem_append_right _ (List.mem_append_right _ (List.mem_append_left _ (List.mem_of_getElem? (i := 214) rfl))))), List.forall_mem_cons.mpr ⟨(List.mem_append_right _ (List.mem_append_right _ (List.mem_append_right _ (List.mem_append_left _ (List.mem_of_getElem? (i := 215) rfl))))), List.forall_mem_cons.mpr ⟨(List.mem_append_right _ (List.mem_append_right _ (List.mem_append_right _ (List.mem_append_left _ (List.mem_of_getElem? (i := 216) rfl))))), List.forall_mem_cons.mpr ⟨(List.mem_append_right _ (List.mem_append_right _ (List.mem_append_right _ (List.mem_append_left _ (List.mem_of_getElem? (i := 217) rfl))))), List.forall_mem_cons.mpr ⟨(List.mem_append_right _ (List.mem_append_right _ (List.mem_append_right _ (List.mem_append_left _ (List.mem_of_getElem? (i := 218) rfl))))), List.forall_mem_cons.mpr ⟨(List.mem_append_right _ (List.mem_append_right _ (List.mem_append_right _ (List.mem_append_left _ (List.mem_of_getElem? (i := 219) rfl))))), List.forall_mem_cons.mpr ⟨(List.mem_append_right _ (List.mem_append_left _ (List.mem_of_getElem? (i := 92) rfl))), List.forall_mem_cons.mpr ⟨(List.mem_append_right _ (List.mem_append_left _ (List.mem_of_getElem? (i := 70) rfl))), List.forall_mem_cons.mpr ⟨(List.mem_append_right _ (List.mem_append_right _ (List.mem_append_right _ (List.mem_append_left _ (List.mem_of_getElem? (i := 220) rfl))))), List.forall_mem_cons.mpr ⟨(List.mem_append_right _ (List.mem_append_right _ (List.mem_append_right _ (List.mem_append_left _ (List.mem_of_getElem? (i := 221) rfl))))), List.forall_mem_cons.mpr ⟨(List.mem_append_right _ (List.mem_append_right _ (List.mem_append_right _ (List.mem_append_left _ (List.mem_of_getElem? (i := 222) rfl))))), List.forall_mem_cons.mpr ⟨(List.mem_append_right _ (List.mem_append_right _ (List.mem_append_right _ (List.mem_append_left _ (List.mem_of_getElem? (i := 223) rfl))))), List.forall_mem_cons.mpr ⟨(List.mem_append_right _ (List.mem_append_right _ (List.mem_append_right _ (List.mem_append_left _ (List.mem_of_getElem? (i := 224) rfl))))), List.forall_mem_cons.mpr ⟨(List.mem_append_right _ (List.mem_append_right _ (List.mem_append_right _ (List.mem_append_left _ (List.mem_of_getElem? (i := 225) rfl))))), List.forall_mem_cons.mpr ⟨(List.mem_append_right _ (List.mem_append_right _ (List.mem_append_right _ (List.mem_append_left _ (List.mem_of_getElem? (i := 226) rfl))))), List.forall_mem_cons.mpr ⟨(List.mem_append_right _ (List.mem_append_right _ (List.mem_append_right _ (List.mem_append_right _ (List.mem_append_right _ (List.mem_of_getElem? (i := 156) rfl)))))), fun _ h => absurd h List.not_mem_nil⟩⟩⟩⟩⟩⟩⟩⟩⟩⟩⟩⟩⟩⟩⟩⟩⟩⟩⟩⟩⟩⟩⟩⟩
theorem wsL_law_r34_g : wsL_law_r34.all goodWord = true := by decide +kernel
set_option maxRecDepth 20000 in
theorem wsL_law_r35_in : ∀ w ∈ wsL_law_r35, w ∈ lw_tbl := List.forall_mem_cons.mpr ⟨(List.mem_append_right _ (List.mem_append_right _ (List.mem_append_right _ (List.mem_append_right _ (List.mem_append_right _ (List.mem_of_getElem? (i := 157) rfl)))))), List.forall_mem_cons.mpr ⟨(List.mem_append_right _ (List.mem_append_right _ (List.mem_append_right _ (List.mem_append_right _ (List.mem_append_right _ (List.mem_of_getElem? (i := 158) rfl)))))), List.forall_mem_cons.mpr ⟨(List.mem_append_right _ (List.mem_append_right _ (List.mem_append_right _ (List.mem_append_right _ (List.mem_append_right _ (List.mem_of_getElem? (i := 159) rfl)))))), List.forall_mem_cons.mpr ⟨(List.mem_append_right _ (List.mem_append_right _ (List.mem_append_right _ (List.mem_append_right _ (List.mem_append_right _ (List.mem_of_getElem? (i := 160) rfl)))))), List.forall_mem_cons.mpr ⟨(List.mem_append_right _ (List.mem_append_right _ (List.mem_append_right _ (List.mem_append_right _ (List.mem_append_right _ (List.mem_of_getElem? (i := 162) rfl)))))), List.forall_mem_cons.mpr ⟨(List.mem_append_left _ (List.mem_of_getElem? (i := 51) rfl)), List.forall_mem_cons.mpr ⟨(List.mem_append_right _ (List.mem_append_right _ (List.mem_append_right _ (List.mem_append_right _ (List.mem_append_right _ (List.mem_of_getElem? (i := 163) rfl)))))), List.forall_mem_cons.mpr ⟨(List.mem_append_right _ (List.mem_append_right _ (List.mem_append_right _ (List.mem_append_right _ (List.mem_append_right _ (List.mem_of_getElem? (i := 164) rfl)))))), List.forall_mem_cons.mpr ⟨(List.mem_append_right _ (List.mem_append_right _ (List.mem_append_right _ (List.mem_append_right _ (List.mem_append_right _ (List.mem_of_getElem? (i := 165) rfl)))))), List.forall_mem_cons.mpr ⟨(List.mem_append_right _ (List.mem_append_right _ (List.mem_append_right _ (List.mem_append_right _ (List.mem_append_right _ (List.mem_of_getElem? (i := 166) rfl)))))), List.forall_mem_cons.mpr ⟨(List.mem_append_right _ (List.mem_append_right _ (List.mem_append_right _ (List.mem_append_right _ (List.mem_append_right _ (List.mem_of_getElem? (i := 167) rfl)))))), List.forall_mem_cons.mpr ⟨(List.mem_append_right _ (List.mem_append_right _ (List.mem_append_right _ (List.mem_append_right _ (List.mem_append_right _ (List.mem_of_getElem? (i := 169) rfl)))))), List.forall_mem_cons.mpr ⟨(List.mem_append_left _ (List.mem_of_getElem? (i := 52) rfl)), List.forall_mem_cons.mpr ⟨(List.mem_append_right _ (List.mem_append_right _ (List.mem_append_right _ (List.mem_append_right _ (List.mem_append_right _ (List.mem_of_getElem? (i := 170) rfl)))))), List.forall_mem_cons.mpr ⟨(List.mem_append_right _ (List.mem_append_right _ (List.mem_append_right _ (List.mem_append_right _ (List.mem_append_right _ (List.mem_of_getElem? (i := 171) rfl)))))), List.forall_mem_cons.mpr ⟨(List.mem_append_right _ (List.mem_append_right _ (List.mem_append_right _ (List.mem_append_right _ (List.mem_append_right _ (List.mem_of_getElem? (i := 173) rfl)))))), List.forall_mem_cons.mpr ⟨(List.mem_append_left _ (List.mem_of_getElem? (i := 53) rfl)), List.forall_mem_cons.mpr ⟨(List.mem_append_right _ (List.mem_append_right _ (List.mem_append_right _ (List.mem_append_right _ (List.mem_append_right _ (List.mem_of_getElem? (i := 174) rfl)))))), List.forall_mem_cons.mpr ⟨(List.mem_append_right _ (List.mem_append_right _ (List.mem_append_right _ (List.mem_append_right _ (List.mem_append_right _ (List.mem_of_getElem? (i := 175) rfl)))))), List.forall_mem_cons.mpr ⟨(List.mem_append_right _ (List.mem_append_right _ (List.mem_append_right _ (List.mem_append_right _ (List.mem_append_right _ (List.mem_of_getElem? (i := 177) rfl)))))), List.forall_mem_cons.mpr ⟨(List.mem_append_left _ (List.mem_of_getElem? (i := 54) rfl)), List.forall_mem_cons.mpr ⟨(List.mem_append_right _ (List.mem_append_right _ (List.mem_append_right _ (List.mem_append_right _ (List.mem_append_right _ (List.mem_of_getElem? (i := 178) rfl)))))), List.forall_mem_cons.mpr ⟨(List.mem_append_right _ (List.mem_append_right _ (List.mem_append_right _ (List.mem_append_left _ (List.mem_of_getElem? (i := 227) rfl))))), List.forall_mem_cons.mpr ⟨(List.mem_append_right _ (List.mem_append_right _ (List.mem_append_right _ (List.mem_append_left _ (List.mem_of_getElem? (i := 228) rfl))))), fun _ h => absurd h List.not_mem_nil⟩⟩⟩⟩⟩⟩⟩⟩⟩⟩⟩⟩⟩⟩⟩⟩⟩⟩⟩⟩⟩⟩⟩⟩
theorem wsL_law_r35_g : wsL_law_r35.all goodWord = true := by decide +kernel
set_option maxRecDepth 20000 in
theorem wsL_law_r36_in : ∀ w ∈ wsL_law_r36, w ∈ lw_tbl := List.forall_mem_cons.mpr ⟨(List.mem_append_right _ (List.mem_append_right _ (List.mem_append_right _ (List.mem_append_left _ (List.mem_of_getElem? (i := 229) rfl))))), List.forall_mem_cons.mpr ⟨(List.mem_append_right _ (List.mem_append_right _ (List.mem_append_right _ (List.mem_append_left _ (List.mem_of_getElem? (i := 230) rfl))))), List.forall_mem_cons.mpr ⟨(List.mem_append_right _ (List.mem_append_right _ (List.mem_append_right _ (List.mem_append_left _ (List.mem_of_getElem? (i := 231) rfl))))), List.forall_mem_cons.mpr ⟨(List.mem_append_right _ (List.mem_append_right _ (List.mem_append_right _ (List.mem_append_left _ (List.mem_of_getElem? (i := 232) rfl))))), List.forall_mem_cons.mpr ⟨(List.mem_append_right _ (List.mem_append_right _ (List.mem_append_right _ (List.mem_append_left _ (List.mem_of_getElem? (i := 233) rfl))))), List.forall_mem_cons.mpr ⟨(List.mem_append_right _ (List.mem_append_right _ (List.mem_append_right _ (List.mem_append_left _ (List.mem_of_getElem? (i := 234) rfl))))), List.forall_mem_cons.mpr ⟨(List.mem_append_right _ (List.mem_append_left _ (List.mem_of_getElem? (i := 76) rfl))), List.forall_mem_cons.mpr ⟨(List.mem_append_right _ (List.mem_append_left _ (List.mem_of_getElem? (i := 91) rfl))), List.forall_mem_cons.mpr ⟨(List.mem_append_right _ (List.mem_append_left _ (List.mem_of_getElem? (i := 69) rfl))), List.forall_mem_cons.mpr ⟨(List.mem_append_right _ (List.mem_append_left _ (List.mem_of_getElem? (i := 153) rfl))), List.forall_mem_cons.mpr ⟨(List.mem_append_right _ (List.mem_append_right _ (List.mem_append_right _ (List.mem_append_left _ (List.mem_of_getElem? (i := 235) rfl))))), List.forall_mem_cons.mpr ⟨(List.mem_append_right _ (List.mem_append_right _ (List.mem_append_right _ (List.mem_append_left _ (List.mem_of_getElem? (i := 236) rfl))))), List.forall_mem_cons.mpr ⟨(List.mem_append_right _ (List.mem_append_right _ (List.mem_append_right _ (List.mem_append_left _ (List.mem_of_getElem? (i := 237) rfl))))), List.forall_mem_cons.mpr ⟨(List.mem_append_right _ (List.mem_append_right _ (List.mem_append_right _ (List.mem_append_left _ (List.mem_of_getElem? (i := 238) rfl))))), List.forall_mem_cons.mpr ⟨(List.mem_append_right _ (List.mem_append_right _ (List.mem_append_right _ (List.mem_append_left _ (List.mem_of_getElem? (i := 239) rfl))))), List.forall_mem_cons.mpr ⟨(List.mem_append_right _ (List.mem_append_right _ (List.mem_append_right _ (List.mem_append_right _ (List.mem_append_left _ (List.mem_of_getElem? (i := 0) rfl)))))), List.forall_mem_cons.mpr ⟨(List.mem_append_right _ (List.mem_append_left _ (List.mem_of_getElem? (i := 163) rfl))), List.forall_mem_cons.mpr ⟨(List.mem_append_right _ (List.mem_append_left _ (List.mem_of_getElem? (i := 160) rfl))), List.forall_mem_cons.mpr ⟨(List.mem_append_right _ (List.mem_append_right _ (List.mem_append_right _ (List.mem_append_right _ (List.mem_append_left _ (List.mem_of_getElem? (i := 2) rfl)))))), List.forall_mem_cons.mpr ⟨(List.mem_append_right _ (List.mem_append_right _ (List.mem_append_right _ (List.mem_append_right _ (List.mem_append_left _ (List.mem_of_getElem? (i := 1) rfl)))))), List.forall_mem_cons.mpr ⟨(List.mem_append_right _ (List.mem_append_right _ (List.mem_append_right _ (List.mem_append_right _ (List.mem_append_left _ (List.mem_of_getElem? (i := 3) rfl)))))), List.forall_mem_cons.mpr ⟨(List.mem_append_right _ (List.mem_append_right _ (List.mem_append_right _ (List.mem_append_right _ (List.mem_append_left _ (List.mem_of_getElem? (i := 4) rfl)))))), List.forall_mem_cons.mpr ⟨(List.mem_append_right _ (List.mem_append_right _ (List.mem_append_right _ (List.mem_append_right _ (List.mem_append_left _ (List.mem_of_getElem? (i := 5) rfl)))))), List.forall_mem_cons.mpr ⟨(List.mem_append_right _ (List.mem_append_right _ (List.mem_append_right _ (List.mem_append_right _ (List.mem_append_left _ (List.mem_of_getElem? (i := 6) rfl)))))), fun _ h => absurd h List.not_mem_nil⟩⟩⟩⟩⟩⟩⟩⟩⟩⟩⟩⟩⟩⟩⟩⟩⟩⟩⟩⟩⟩⟩⟩⟩
theorem wsL_law_r36_g : wsL_law_r36.all goodWord = true := by decide +kernel
set_option maxRecDepth 20000 in
theorem wsL_law_r37_in : ∀ w ∈ wsL_law_r37, w ∈ lw_tbl := List.forall_mem_cons.mpr ⟨(List.mem_append_right _ (List.mem_append_right _ (List.mem_append_right _ (List.mem_append_right _ (List.mem_append_left _ (List.mem_of_getElem? (i := 7) rfl)))))), List.forall_mem_cons.mpr ⟨(List.mem_append_right _ (List.mem_append_right _ (List.mem_append_right _ (List.mem_append_right _ (List.mem_append_right _ (List.mem_of_getElem? (i := 179) rfl)))))), List.forall_mem_cons.mpr ⟨(List.mem_append_right _ (List.mem_append_right _ (List.mem_append_right _ (List.mem_append_right _ (List.mem_append_right _ (List.mem_of_getElem? (i := 180) rfl)))))), List.forall_mem_cons.mpr ⟨(List.mem_append_right _ (List.mem_append_right _ (List.mem_append_right _ (List.mem_append_right _ (List.mem_append_right _ (List.mem_of_getElem? (i := 181) rfl)))))), List.forall_mem_cons.mpr ⟨(List.mem_append_right _ (List.mem_append_right _ (List.mem_append_right _ (List.mem_append_right _ (List.mem_append_right _ (List.mem_of_getElem? (i := 182) rfl)))))), List.forall_mem_cons.mpr ⟨(List.mem_append_right _ (List.mem_append_right _ (List.mem_append_right _ (List.mem_append_right _ (List.mem_append_right _ (List.mem_of_getElem? (i := 183) rfl)))))), List.forall_mem_cons.mpr ⟨(List.mem_append_right _ (List.mem_append_right _ (List.mem_append_right _ (List.mem_append_right _ (List.mem_append_right _ (List.mem_of_getElem? (i := 184) rfl)))))), List.forall_mem_cons.mpr ⟨(List.mem_append_right _ (List.mem_append_right _ (List.mem_append_right _ (List.mem_append_right _ (List.mem_append_right _ (List.mem_of_getElem? (i := 186) rfl)))))), List.forall_mem_cons.mpr ⟨(List.mem_append_left _ (List.mem_of_getElem? (i := 55) rfl)), List.forall_mem_cons.mpr ⟨(List.mem_append_right _ (List.mem_append_right _ (List.mem_append_right _ (List.mem_append_right _ (List.mem_append_right _ (List.mem_of_getElem? (i := 187) rfl)))))), List.forall_mem_cons.mpr ⟨(List.mem_append_right _ (List.mem_append_right _ (List.mem_append_right _ (List.mem_append_right _ (List.mem_append_right _ (List.mem_of_getElem? (i := 188) rfl)))))), List.forall_mem_cons.mpr ⟨(List.mem_append_right _ (List.mem_append_right _ (List.mem_append_right _ (List.mem_append_right _ (List.mem_append_right _ (List.mem_of_getElem? (i := 190) rfl)))))), List.forall_mem_cons.mpr ⟨(List.mem_append_left _ (List.mem_of_getElem? (i := 56) rfl)), List.forall_mem_cons.mpr ⟨(List.mem_append_right _ (List.mem_append_right _ (List.mem_append_right _ (List.mem_append_right _ (List.mem_append_right _ (List.mem_of_getElem? (i := 191) rfl)))))), List.forall_mem_cons.mpr ⟨(List.mem_append_right _ (List.mem_append_right _ (List.mem_append_right _ (List.mem_append_right _ (List.mem_append_right _ (List.mem_of_getElem? (i := 192) rfl)))))), List.forall_mem_cons.mpr ⟨(List.mem_append_right _ (List.mem_append_right _ (List.mem_append_right _ (List.mem_append_right _ (List.mem_append_right _ (List.mem_of_getElem? (i := 194) rfl)))))), List.forall_mem_cons.mpr ⟨(List.mem_append_left _ (List.mem_of_getElem? (i := 57) rfl)), List.forall_mem_cons.mpr ⟨(List.mem_append_right _ (List.mem_append_right _ (List.mem_append_right _ (List.mem_append_right _ (List.mem_append_right _ (List.mem_of_getElem? (i := 195) rfl)))))), List.forall_mem_cons.mpr ⟨(List.mem_append_right _ (List.mem_append_right _ (List.mem_append_right _ (List.mem_append_right _ (List.mem_append_right _ (List.mem_of_getElem? (i := 196) rfl)))))), List.forall_mem_cons.mpr ⟨(List.mem_append_right _ (List.mem_append_right _ (List.mem_append_right _ (List.mem_append_right _ (List.mem_append_right _ (List.mem_of_getElem? (i := 198) rfl)))))), List.forall_mem_cons.mpr ⟨(List.mem_append_left _ (List.mem_of_getElem? (i := 58) rfl)), List.forall_mem_cons.mpr ⟨(List.mem_append_right _ (List.mem_append_right _ (List.mem_append_right _ (List.mem_append_right _ (List.mem_append_right _ (List.mem_of_getElem? (i := 199) rfl)))))), List.forall_mem_cons.mpr ⟨(List.mem_append_right _ (List.mem_append_right _ (List.mem_append_right _ (List.mem_append_right _ (List.mem_append_left _ (List.mem_of_getElem? (i := 8) rfl)))))), List.forall_mem_cons.mpr ⟨(List.mem_append_right _ (List.mem_append_right _ (List.mem_append_right _ (List.mem_append_right _ (List.mem_append_left _ (List.mem_of_getElem? (i := 9) rfl)))))), fun _ h => absurd h List.not_mem_nil⟩⟩⟩⟩⟩⟩⟩⟩⟩⟩⟩⟩⟩⟩⟩⟩⟩⟩⟩⟩⟩⟩⟩⟩
theorem wsL_law_r37_g : wsL_law_r37.all goodWord = true := by decide +kernel
set_option maxRecDepth 20000 in
theorem wsL_law_r38_in : ∀ w ∈ wsL_law_r38, w ∈ lw_tbl := List.forall_mem_cons.mpr ⟨(List.mem_append_right _ (List.mem_append_right _ (List.mem_append_right _ (List.mem_append_right _ (List.mem_append_left _ (List.mem_of_getElem? (i := 10) rfl)))))), List.forall_mem_cons.mpr ⟨(List.mem_append_right _ (List.mem_append_right _ (List.mem_append_right _ (List.mem_append_right _ (List.mem_append_left _ (List.mem_of_getElem? (i := 11) rfl)))))), List.forall_mem_cons.mpr ⟨(List.mem_append_right _ (List.mem_append_left _ (List.mem_of_getElem? (i := 83) rfl))), List.forall_mem_cons.mpr ⟨(List.mem_append_right _ (List.mem_append_right _ (List.mem_append_right _ (List.mem_append_right _ (List.mem_append_left _ (List.mem_of_getElem? (i := 12) rfl)))))), List.forall_mem_cons.mpr ⟨(List.mem_append_right _ (List.mem_append_right _ (List.mem_append_right _ (List.mem_append_right _ (List.mem_append_right _ (List.mem_of_getElem? (i := 200) rfl)))))), List.forall_mem_cons.mpr ⟨(List.mem_append_right _ (List.mem_append_right _ (List.mem_append_right _ (List.mem_append_right _ (List.mem_append_right _ (List.mem_of_getElem? (i := 201) rfl)))))), List.forall_mem_cons.mpr ⟨(List.mem_append_right _ (List.mem_append_right _ (List.mem_append_right _ (List.mem_append_right _ (List.mem_append_right _ (List.mem_of_getElem? (i := 202) rfl)))))), List.forall_mem_cons.mpr ⟨(List.mem_append_right _ (List.mem_append_right _ (List.mem_append_right _ (List.mem_append_right _ (List.mem_append_right _ (List.mem_of_getElem? (i := 203) rfl)))))), List.forall_mem_cons.mpr ⟨(List.mem_append_right _ (List.mem_append_right _ (List.mem_append_right _ (List.mem_append_right _ (List.mem_append_left _ (List.mem_of_getElem? (i := 13) rfl)))))), List.forall_mem_cons.mpr ⟨(List.mem_append_right _ (List.mem_append_right _ (List.mem_append_right _ (List.mem_append_right _ (List.mem_append_left _ (List.mem_of_getElem? (i := 14) rfl)))))), List.forall_mem_cons.mpr ⟨(List.mem_append_right _ (List.mem_append_right _ (List.mem_append_right _ (List.mem_append_right _ (List.mem_append_left _ (List.mem_of_getElem? (i := 15) rfl)))))), List.forall_mem_cons.mpr ⟨(List.mem_append_right _ (List.mem_append_right _ (List.mem_append_right _ (List.mem_append_right _ (List.mem_append_left _ (List.mem_of_getElem? (i := 16) rfl)))))), List.forall_mem_cons.mpr ⟨(List.mem_append_right _ (List.mem_append_right _ (List.mem_append_left _ (List.mem_of_getElem? (i := 36) rfl)))), List.forall_mem_cons.mpr ⟨(List.mem_append_right _ (List.mem_append_right _ (List.mem_append_right _ (List.mem_append_right _ (List.mem_append_left _ (List.mem_of_getElem? (i := 17) rfl)))))), List.forall_mem_cons.mpr ⟨(List.mem_append_right _ (List.mem_append_right _ (List.mem_append_right _ (List.mem_append_right _ (List.mem_append_left _ (List.mem_of_getElem? (i := 18) rfl)))))), List.forall_mem_cons.mpr ⟨(List.mem_append_right _ (List.mem_append_right _ (List.mem_append_right _ (List.mem_append_right _ (List.mem_append_left _ (List.mem_of_getElem? (i := 19) rfl)))))), List.forall_mem_cons.mpr ⟨(List.mem_append_right _ (List.mem_append_right _ (List.mem_append_right _ (List.mem_append_right _ (List.mem_append_left _ (List.mem_of_getElem? (i := 20) rfl)))))), List.forall_mem_cons.mpr ⟨(List.mem_append_right _ (List.mem_append_right _ (List.mem_append_right _ (List.mem_append_right _ (List.mem_append_right _ (List.mem_of_getElem? (i := 204) rfl)))))), List.forall_mem_cons.mpr ⟨(List.mem_append_right _ (List.mem_append_right _ (List.mem_append_right _ (List.mem_append_right _ (List.mem_append_right _ (List.mem_of_getElem? (i := 205) rfl)))))), List.forall_mem_cons.mpr ⟨(List.mem_append_right _ (List.mem_append_right _ (List.mem_append_right _ (List.mem_append_right _ (List.mem_append_right _ (List.mem_of_getElem? (i := 206) rfl)))))), List.forall_mem_cons.mpr ⟨(List.mem_append_right _ (List.mem_append_right _ (List.mem_append_right _ (List.mem_append_right _ (List.mem_append_right _ (List.mem_of_getElem? (i := 207) rfl)))))), List.forall_mem_cons.mpr ⟨(List.mem_append_right _ (List.mem_append_right _ (List.mem_append_right _ (List.mem_append_right _ (List.mem_append_right _ (List.mem_of_getElem? (i := 208) rfl)))))), List.forall_mem_cons.mpr ⟨(List.mem_append_right _ (List.mem_append_right _ (List.mem_append_right _ (List.mem_append_right _ (List.mem_append_left _ (List.mem_of_getElem? (i := 21) rfl)))))), List.forall_mem_cons.mpr ⟨(List.mem_append_right _ (List.mem_append_right _ (List.mem_append_right _ (List.mem_append_right _ (List.mem_append_left _ (List.mem_of_getElem? (i := 22) rfl)))))), fun _ h => absurd h List.not_mem_nil⟩⟩⟩⟩⟩⟩⟩⟩⟩⟩⟩⟩⟩⟩⟩⟩⟩⟩⟩⟩⟩⟩⟩⟩
theorem wsL_law_r38_g : wsL_law_r38.all goodWord = true := by decide +kernel
set_option maxRecDepth 20000 in
theorem wsL_law_r39_in : ∀ w ∈ wsL_law_r39, w ∈ lw_tbl := List.forall_mem_cons.mpr ⟨(List.mem_append_right _ (List.mem_append_right _ (List.mem_append_right _ (List.mem_append_right _ (List.mem_append_left _ (List.mem_of_getElem? (i := 23) rfl)))))), List.forall_mem_cons.mpr ⟨(List.mem_append_right _ (List.mem_append_right _ (List.mem_append_right _ (List.mem_append_right _ (List.mem_append_left _ (List.mem_of_getElem? (i := 24) rfl)))))), List.forall_mem_cons.mpr ⟨(List.mem_append_right _ (List.mem_append_right _ (List.mem_append_right _ (List.mem_append_right _ (List.mem_append_right _ (List.mem_of_getElem? (i := 209) rfl)))))), List.forall_mem_cons.mpr ⟨(List.mem_append_right _ (List.mem_append_right _ (List.mem_append_right _ (List.mem_append_right _ (List.mem_append_right _ (List.mem_of_getElem? (i := 210) rfl)))))), List.forall_mem_cons.mpr ⟨(List.mem_append_right _ (List.mem_append_right _ (List.mem_append_right _ (List.mem_append_right _ (List.mem_append_right _ (List.mem_of_getElem? (i := 211) rfl)))))), List.forall_mem_cons.mpr ⟨(List.mem_append_right _ (List.mem_append_right _ (List.mem_append_right _ (List.mem_append_right _ (List.mem_append_right _ (List.mem_of_getElem? (i := 212) rfl)))))), List.forall_mem_cons.mpr ⟨(List.mem_append_right _ (List.mem_append_right _ (List.mem_append_right _ (List.mem_append_right _ (List.mem_append_left _ (List.mem_of_getElem? (i := 25) rfl)))))), List.forall_mem_cons.mpr ⟨(List.mem_append_right _ (List.mem_append_right _ (List.mem_append_right _ (List.mem_append_right _ (List.mem_append_left _ (List.mem_of_getElem? (i := 26) rfl)))))), List.forall_mem_cons.mpr ⟨(List.mem_append_right _ (List.mem_append_right _ (List.mem_append_right _ (List.mem_append_right _ (List.mem_append_left _ (List.mem_of_getElem? (i := 27) rfl)))))), List.forall_mem_cons.mpr ⟨(List.mem_append_right _ (List.mem_append_right _ (List.mem_append_right _ (List.mem_append_right _ (List.mem_append_left _ (List.mem_of_getElem? (i := 28) rfl)))))), List.forall_mem_cons.mpr ⟨(List.mem_append_right _ (List.mem_append_right _ (List.mem_append_right _ (List.mem_append_right _ (List.mem_append_left _ (List.mem_of_getElem? (i := 29) rfl)))))), List.forall_mem_cons.mpr ⟨(List.mem_append_right _ (List.mem_append_right _ (List.mem_append_right _ (List.mem_append_right _ (List.mem_append_left _ (List.mem_of_getElem? (i := 30) rfl)))))), List.forall_mem_cons.mpr ⟨(List.mem_append_right _ (List.mem_append_right _ (List.mem_append_right _ (List.mem_append_right _ (List.mem_append_left _ (List.mem_of_getElem? (i := 31) rfl)))))), List.forall_mem_cons.mpr ⟨(List.mem_append_right _ (List.mem_append_right _ (List.mem_append_right _ (List.mem_append_right _ (List.mem_append_left _ (List.mem_of_getElem? (i := 32) rfl)))))), List.forall_mem_cons.mpr ⟨(List.mem_append_right _ (List.mem_append_right _ (List.mem_append_right _ (List.mem_append_right _ (List.mem_append_left _ (List.mem_of_getElem? (i := 33) rfl)))))), List.forall_mem_cons.mpr ⟨(List.mem_append_right _ (List.mem_append_right _ (List.mem_append_right _ (List.mem_append_right _ (List.mem_append_left _ (List.mem_of_getElem? (i := 35) rfl)))))), List.forall_mem_cons.mpr ⟨(List.mem_append_left _ (List.mem_of_getElem? (i := 20) rfl)), List.forall_mem_cons.mpr ⟨(List.mem_append_right _ (List.mem_append_right _ (List.mem_append_right _ (List.mem_append_right _ (List.mem_append_left _ (List.mem_of_getElem? (i := 36) rfl)))))), List.forall_mem_cons.mpr ⟨(List.mem_append_right _ (List.mem_append_right _ (List.mem_append_right _ (List.mem_append_right _ (List.mem_append_left _ (List.mem_of_getElem? (i := 37) rfl)))))), List.forall_mem_cons.mpr ⟨(List.mem_append_right _ (List.mem_append_right _ (List.mem_append_right _ (List.mem_append_right _ (List.mem_append_right _ (List.mem_of_getElem? (i := 213) rfl)))))), List.forall_mem_cons.mpr ⟨(List.mem_append_right _ (List.mem_append_right _ (List.mem_append_right _ (List.mem_append_right _ (List.mem_append_right _ (List.mem_of_getElem? (i := 214) rfl)))))), List.forall_mem_cons.mpr ⟨(List.mem_append_right _ (List.mem_append_right _ (List.mem_append_right _ (List.mem_append_right _ (List.mem_append_right _ (List.mem_of_getElem? (i := 215) rfl)))))), List.forall_mem_cons.mpr ⟨(List.mem_append_right _ (List.mem_append_right _ (List.mem_append_right _ (List.mem_append_right _ (List.mem_append_right _ (List.mem_of_getElem? (i := 216) rfl)))))), List.forall_mem_cons.mpr ⟨(List.mem_append_right _ (List.mem_append_right _ (List.mem_append_right _ (List.mem_append_right _ (List.mem_append_left _ (List.mem_of_getElem? (i := 38) rfl)))))), fun _ h => absurd h List.not_mem_nil⟩⟩⟩⟩⟩⟩⟩⟩⟩⟩⟩⟩⟩⟩⟩⟩⟩⟩⟩⟩⟩⟩⟩⟩
theorem wsL_law_r39_g : wsL_law_r39.all goodWord = true := by decide +kernel
set_option maxRecDepth 20000 in
theorem wsL_law_r40_in : ∀ w ∈ wsL_law_r40, w ∈ lw_tbl := List.forall_mem_cons.mpr ⟨(List.mem_append_right _ (List.mem_append_right _ (List.mem_append_right _ (List.mem_append_right _ (List.mem_append_left _ (List.mem_of_getElem? (i := 39) rfl)))))), List.forall_mem_cons.mpr ⟨(List.mem_append_right _ (List.mem_append_right _ (List.mem_append_right _ (List.mem_append_right _ (List.mem_append_left _ (List.mem_of_getElem? (i := 40) rfl)))))), List.forall_mem_cons.mpr ⟨(List.mem_append_right _ (List.mem_append_right _ (List.mem_append_right _ (List.mem_append_right _ (List.mem_append_left _ (List.mem_of_getElem? (i := 41) rfl)))))), List.forall_mem_cons.mpr ⟨(List.mem_append_right _ (List.mem_append_right _ (List.mem_append_right _ (List.mem_append_right _ (List.mem_append_right _ (List.mem_of_getElem? (i := 217) rfl)))))), List.forall_mem_cons.mpr ⟨(List.mem_append_right _ (List.mem_append_right _ (List.mem_append_right _ (List.mem_append_right _ (List.mem_append_right _ (List.mem_of_getElem? (i := 218) rfl)))))), List.forall_mem_cons.mpr ⟨(List.mem_append_right _ (List.mem_append_right _ (List.mem_append_right _ (List.mem_append_right _ (List.mem_append_right _ (List.mem_of_getElem? (i := 219) rfl)))))), List.forall_mem_cons.mpr ⟨(List.mem_append_right _ (List.mem_append_right _ (List.mem_append_right _ (List.mem_append_right _ (List.mem_append_right _ (List.mem_of_getElem? (i := 220) rfl)))))), List.forall_mem_cons.mpr ⟨(List.mem_append_right _ (List.mem_append_right _ (List.mem_append_right _ (List.mem_append_right _ (List.mem_append_left _ (List.mem_of_getElem? (i := 42) rfl)))))), List.forall_mem_cons.mpr ⟨(List.mem_append_right _ (List.mem_append_right _ (List.mem_append_right _ (List.mem_append_right _ (List.mem_append_left _ (List.mem_of_getElem? (i := 43) rfl)))))), List.forall_mem_cons.mpr ⟨(List.mem_append_right _ (List.mem_append_right _ (List.mem_append_right _ (List.mem_append_right _ (List.mem_append_left _ (List.mem_of_getElem? (i := 44) rfl)))))), List.forall_mem_cons.mpr ⟨(List.mem_append_right _ (List.mem_append_right _ (List.mem_append_right _ (List.mem_append_right _ (List.mem_append_left _ (List.mem_of_getElem? (i := 45) rfl)))))), List.forall_mem_cons.mpr ⟨(List.mem_append_right _ (List.mem_append_right _ (List.mem_append_right _ (List.mem_append_right _ (List.mem_append_right _ (List.mem_of_getElem? (i := 221) rfl)))))), List.forall_mem_cons.mpr ⟨(List.mem_append_right _ (List.mem_append_right _ (List.mem_append_right _ (List.mem_append_right _ (List.mem_append_right _ (List.mem_of_getElem? (i := 222) rfl)))))), List.forall_mem_cons.mpr ⟨(List.mem_append_right _ (List.mem_append_right _ (List.mem_append_right _ (List.mem_append_right _ (List.mem_append_right _ (List.mem_of_getElem? (i := 223) rfl)))))), List.forall_mem_cons.mpr ⟨(List.mem_append_right _ (List.mem_append_right _ (List.mem_append_right _ (List.mem_append_right _ (List.mem_append_right _ (List.mem_of_getElem? (i := 224) rfl)))))), List.forall_mem_cons.mpr ⟨(List.mem_append_right _ (List.mem_append_right _ (List.mem_append_right _ (List.mem_append_right _ (List.mem_append_left _ (List.mem_of_getElem? (i := 46) rfl)))))), List.forall_mem_cons.mpr ⟨(List.mem_append_right _ (List.mem_append_right _ (List.mem_append_right _ (List.mem_append_right _ (List.mem_append_left _ (List.mem_of_getElem? (i := 47) rfl)))))), List.forall_mem_cons.mpr ⟨(List.mem_append_right _ (List.mem_append_right _ (List.mem_append_right _ (List.mem_append_right _ (List.mem_append_left _ (List.mem_of_getElem? (i := 48) rfl)))))), List.forall_mem_cons.mpr ⟨(List.mem_append_right _ (List.mem_append_right _ (List.mem_append_right _ (List.mem_append_right _ (List.mem_append_left _ (List.mem_of_getElem? (i := 49) rfl)))))), List.forall_mem_cons.mpr ⟨(List.mem_append_right _ (List.mem_append_left _ (List.mem_of_getElem? (i := 73) rfl))), List.forall_mem_cons.mpr ⟨(List.mem_append_right _ (List.mem_append_right _ (List.mem_append_right _ (List.mem_append_right _ (List.mem_append_left _ (List.mem_of_getElem? (i := 50) rfl)))))), List.forall_mem_cons.mpr ⟨(List.mem_append_right _ (List.mem_append_right _ (List.mem_append_right _ (List.mem_append_right _ (List.mem_append_left _ (List.mem_of_getElem? (i := 51) rfl)))))), List.forall_mem_cons.mpr ⟨(List.mem_append_right _ (List.mem_append_right _ (List.mem_append_right _ (List.mem_append_right _ (List.mem_append_left _ (List.mem_of_getElem? (i := 52) rfl)))))), List.forall_mem_cons.mpr ⟨(List.mem_append_right _ (List.mem_append_right _ (List.mem_append_right _ (List.mem_append_right _ (List.mem_append_left _ (List.mem_of_getElem? (i := 53) rfl)))))), fun _ h => absurd h List.not_mem_nil⟩⟩⟩⟩⟩⟩⟩⟩⟩⟩⟩⟩⟩⟩⟩⟩⟩⟩⟩⟩⟩⟩⟩⟩
theorem wsL_law_r40_g : wsL_law_r40.all goodWord = true := by decide +kernel
set_option maxRecDepth 20000 in
theorem wsL_law_r41_in : ∀ w ∈ wsL_law_r41, w ∈ lw_tbl := List.forall_mem_cons.mpr ⟨(List.mem_append_right _ (List.mem_append_right _ (List.mem_append_right _ (List.mem_append_right _ (List.mem_append_right _ (List.mem_of_getElem? (i := 225) rfl)))))), List.forall_mem_cons.mpr ⟨(List.mem_append_right _ (List.mem_append_right _ (List.mem_append_right _ (List.mem_append_right _ (List.mem_append_right _ (List.mem_of_getElem? (i := 226) rfl)))))), List.forall_mem_cons.mpr ⟨(List.mem_append_right _ (List.mem_append_right _ (List.mem_append_right _ (List.mem_append_right _ (List.mem_append_right _ (List.mem_of_getElem? (i := 227) rfl)))))), List.forall_mem_cons.mpr ⟨(List.mem_append_right _ (List.mem_append_right _ (List.mem_append_right _ (List.mem_append_right _ (List.mem_append_right _ (List.mem_of_getElem? (i := 228) rfl)))))), List.forall_mem_cons.mpr ⟨(List.mem_append_right _ (List.mem_append_right _ (List.mem_append_right _ (List.mem_append_right _ (List.mem_append_right _ (List.mem_of_getElem? (i := 229) rfl)))))), List.forall_mem_cons.mpr ⟨(List.mem_append_right _ (List.mem_append_right _ (List.mem_append_right _ (List.mem_append_right _ (List.mem_append_right _ (List.mem_of_getElem? (i := 231) rfl)))))), List.forall_mem_cons.mpr ⟨(List.mem_append_left _ (List.mem_of_getElem? (i := 59) rfl)), List.forall_mem_cons.mpr ⟨(List.mem_append_right _ (List.mem_append_right _ (List.mem_append_right _ (List.mem_append_right _ (List.mem_append_right _ (List.mem_of_getElem? (i := 232) rfl)))))), List.forall_mem_cons.mpr ⟨(List.mem_append_right _ (List.mem_append_right _ (List.mem_append_right _ (List.mem_append_right _ (List.mem_append_right _ (List.mem_of_getElem? (i := 233) rfl)))))), List.forall_mem_cons.mpr ⟨(List.mem_append_right _ (List.mem_append_right _ (List.mem_append_right _ (List.mem_append_right _ (List.mem_append_right _ (List.mem_of_getElem? (i := 235) rfl)))))), List.forall_mem_cons.mpr ⟨(List.mem_append_left _ (List.mem_of_getElem? (i := 60) rfl)), List.forall_mem_cons.mpr ⟨(List.mem_append_right _ (List.mem_append_right _ (List.mem_append_right _ (List.mem_append_right _ (List.mem_append_right _ (List.mem_of_getElem? (i := 236) rfl)))))), fun _ h => absurd h List.not_mem_nil⟩⟩⟩⟩⟩⟩⟩⟩⟩⟩⟩⟩
theorem wsL_law_r41_g : wsL_law_r41.all goodWord = true := by decide +kernel
theorem wsX00_in : ∀ w ∈ wsX00, w ∈ lw_tbl := by
  intro w hw
  obtain ⟨k, hk, rfl⟩ := List.mem_map.mp hw
  rw [List.mem_range] at hk
  rcases (show k = 0 ∨ k = 1 by omega) with rfl | rfl
  · exact (List.mem_append_right _ (List.mem_append_left _ (List.mem_of_getElem? (i := 185) rfl)))
  · exact (List.mem_append_right _ (List.mem_append_left _ (List.mem_of_getElem? (i := 187) rfl)))
theorem wsX00_g : wsX00.all goodWord = true := by decide +kernel
theorem wsX10_in : ∀ w ∈ wsX10, w ∈ lw_tbl := by
  intro w hw
  obtain ⟨k, hk, rfl⟩ := List.mem_map.mp hw
  rw [List.mem_range] at hk
  rcases (show k = 0 ∨ k = 1 by omega) with rfl | rfl
  · exact (List.mem_append_right _ (List.mem_append_right _ (List.mem_append_left _ (List.mem_of_getElem? (i := 20) rfl))))
  · exact (List.mem_append_right _ (List.mem_append_right _ (List.mem_append_left _ (List.mem_of_getElem? (i := 22) rfl))))
theorem wsX10_g : wsX10.all goodWord = true := by decide +kernel
theorem wsX20_in : ∀ w ∈ wsX20, w ∈ lw_tbl := by
  intro w hw
  obtain ⟨k, hk, rfl⟩ := List.mem_map.mp hw
  rw [List.mem_range] at hk
  rcases (show k = 0 ∨ k = 1 ∨ k = 2 ∨ k = 3 ∨ k = 4 ∨ k = 5 ∨ k = 6 ∨ k = 7 ∨ k = 8 ∨ k = 9 ∨ k = 10 ∨ k = 11 ∨ k = 12 ∨ k = 13 ∨ k = 14 by omega) with rfl | rfl | rfl | rfl | rfl | rfl | rfl | rfl | rfl | rfl | rfl | rfl | rfl | rfl | rfl
  · exact (List.mem_append_right _ (List.mem_append_left _ (List.mem_of_getElem? (i := 114) rfl)))
  · exact (List.mem_append_right _ (List.mem_append_left _ (List.mem_of_getElem? (i := 116) rfl)))
  · exact (List.mem_append_right _ (List.mem_append_left _ (List.mem_of_getElem? (i := 118) rfl)))
  · exact (List.mem_append_right _ (List.mem_append_left _ (List.mem_of_getElem? (i := 120) rfl)))
  · exact (List.mem_append_right _ (List.mem_append_left _ (List.mem_of_getElem? (i := 122) rfl)))
  · exact (List.mem_append_right _ (List.mem_append_left _ (List.mem_of_getElem? (i := 124) rfl)))
  · exact (List.mem_append_right _ (List.mem_append_left _ (List.mem_of_getElem? (i := 126) rfl)))
  · exact (List.mem_append_right _ (List.mem_append_left _ (List.mem_of_getElem? (i := 128) rfl)))
  · exact (List.mem_append_right _ (List.mem_append_left _ (List.mem_of_getElem? (i := 130) rfl)))
  · exact (List.mem_append_right _ (List.mem_append_left _ (List.mem_of_getElem? (i := 132) rfl)))
  · exact (List.mem_append_right _ (List.mem_append_left _ (List.mem_of_getElem? (i := 134) rfl)))
  · exact (List.mem_append_right _ (List.mem_append_left _ (List.mem_of_getElem? (i := 136) rfl)))
  · exact (List.mem_append_right _ (List.mem_append_left _ (List.mem_of_getElem? (i := 138) rfl)))
  · exact (List.mem_append_right _ (List.mem_append_left _ (List.mem_of_getElem? (i := 140) rfl)))
  · exact (List.mem_append_right _ (List.mem_append_left _ (List.mem_of_getElem? (i := 142) rfl)))
theorem wsX20_g : wsX20.all goodWord = true := by decide +kernel
theorem wsX30_in : ∀ w ∈ wsX30, w ∈ lw_tbl := by
  intro w hw
  obtain ⟨k, hk, rfl⟩ := List.mem_map.mp hw
  rw [List.mem_range] at hk
  rcases (show k = 0 ∨ k = 1 ∨ k = 2 ∨ k = 3 ∨ k = 4 ∨ k = 5 by omega) with rfl | rfl | rfl | rfl | rfl | rfl
  · exact (List.mem_append_right _ (List.mem_append_left _ (List.mem_of_getElem? (i := 164) rfl)))
  · exact (List.mem_append_right _ (List.mem_append_left _ (List.mem_of_getElem? (i := 166) rfl)))
  · exact (List.mem_append_right _ (List.mem_append_left _ (List.mem_of_getElem? (i := 168) rfl)))
  · exact (List.mem_append_right _ (List.mem_append_left _ (List.mem_of_getElem? (i := 170) rfl)))
  · exact (List.mem_append_right _ (List.mem_append_left _ (List.mem_of_getElem? (i := 172) rfl)))
  · exact (List.mem_append_right _ (List.mem_append_left _ (List.mem_of_getElem? (i := 174) rfl)))
theorem wsX30_g : wsX30.all goodWord = true := by decide +kernel
theorem wsX40_in : ∀ w ∈ wsX40, w ∈ lw_tbl := by
  intro w hw
  obtain ⟨k, hk, rfl⟩ := List.mem_map.mp hw
  rw [List.mem_range] at hk
  rcases (show k = 0 ∨ k = 1 by omega) with rfl | rfl
  · exact (List.mem_append_right _ (List.mem_append_left _ (List.mem_of_getElem? (i := 50) rfl)))
  · exact (List.mem_append_right _ (List.mem_append_left _ (List.mem_of_getElem? (i := 52) rfl)))
theorem wsX40_g : wsX40.all goodWord = true := by decide +kernel
theorem wsX50_in : ∀ w ∈ wsX50, w ∈ lw_tbl := by
  intro w hw
  obtain ⟨k, hk, rfl⟩ := List.mem_map.mp hw
  rw [List.mem_range] at hk
  rcases (show k = 0 ∨ k = 1 ∨ k = 2 ∨ k = 3 ∨ k = 4 ∨ k = 5 ∨ k = 6 ∨ k = 7 ∨ k = 8 ∨ k = 9 by omega) with rfl | rfl | rfl | rfl | rfl | rfl | rfl | rfl | rfl | rfl
  · exact (List.mem_append_right _ (List.mem_append_left _ (List.mem_of_getElem? (i := 212) rfl)))
  · exact (List.mem_append_right _ (List.mem_append_left _ (List.mem_of_getElem? (i := 214) rfl)))
  · exact (List.mem_append_right _ (List.mem_append_left _ (List.mem_of_getElem? (i := 216) rfl)))
  · exact (List.mem_append_right _ (List.mem_append_left _ (List.mem_of_getElem? (i := 218) rfl)))
  · exact (List.mem_append_right _ (List.mem_append_left _ (List.mem_of_getElem? (i := 220) rfl)))
  · exact (List.mem_append_right _ (List.mem_append_left _ (List.mem_of_getElem? (i := 222) rfl)))
  · exact (List.mem_append_right _ (List.mem_append_left _ (List.mem_of_getElem? (i := 224) rfl)))
  · exact (List.mem_append_right _ (List.mem_append_left _ (List.mem_of_getElem? (i := 226) rfl)))
  · exact (List.mem_append_right _ (List.mem_append_left _ (List.mem_of_getElem? (i := 228) rfl)))
  · exact (List.mem_append_right _ (List.mem_append_left _ (List.mem_of_getElem? (i := 230) rfl)))
theorem wsX50_g : wsX50.all goodWord = true := by decide +kernel
theorem wsX60_in : ∀ w ∈ wsX60, w ∈ lw_tbl := by
  intro w hw
  obtain ⟨k, hk, rfl⟩ := List.mem_map.mp hw
  rw [List.mem_range] at hk
  rcases (show k = 0 ∨ k = 1 by omega) with rfl | rfl
  · exact (List.mem_append_right _ (List.mem_append_right _ (List.mem_append_left _ (List.mem_of_getElem? (i := 6) rfl))))
  · exact (List.mem_append_right _ (List.mem_append_right _ (List.mem_append_left _ (List.mem_of_getElem? (i := 8) rfl))))
theorem wsX60_g : wsX60.all goodWord = true := by decide +kernel
theorem wsX70_in : ∀ w ∈ wsX70, w ∈ lw_tbl := by
  intro w hw
  obtain ⟨k, hk, rfl⟩ := List.mem_map.mp hw
  rw [List.mem_range] at hk
  rcases (show k = 0 ∨ k = 1 ∨ k = 2 ∨ k = 3 ∨ k = 4 by omega) with rfl | rfl | rfl | rfl | rfl
  · exact (List.mem_append_right _ (List.mem_append_right _ (List.mem_append_left _ (List.mem_of_getElem? (i := 37) rfl))))
  · exact (List.mem_append_right _ (List.mem_append_right _ (List.mem_append_left _ (List.mem_of_getElem? (i := 39) rfl))))
  · exact (List.mem_append_right _ (List.mem_append_right _ (List.mem_append_left _ (List.mem_of_getElem? (i := 41) rfl))))
  · exact (List.mem_append_right _ (List.mem_append_right _ (List.mem_append_left _ (List.mem_of_getElem? (i := 43) rfl))))
  · exact (List.mem_append_right _ (List.mem_append_right _ (List.mem_append_left _ (List.mem_of_getElem? (i := 45) rfl))))
theorem wsX70_g : wsX70.all goodWord = true := by decide +kernel
theorem wsX80_in : ∀ w ∈ wsX80, w ∈ lw_tbl := by
  intro w hw
  obtain ⟨k, hk, rfl⟩ := List.mem_map.mp hw
  rw [List.mem_range] at hk
  rcases (show k = 0 ∨ k = 1 by omega) with rfl | rfl
  · exact (List.mem_append_right _ (List.mem_append_left _ (List.mem_of_getElem? (i := 36) rfl)))
  · exact (List.mem_append_right _ (List.mem_append_left _ (List.mem_of_getElem? (i := 38) rfl)))
theorem wsX80_g : wsX80.all goodWord = true := by decide +kernel
theorem wsX90_in : ∀ w ∈ wsX90, w ∈ lw_tbl := by
  intro w hw
  obtain ⟨k, hk, rfl⟩ := List.mem_map.mp hw
  rw [List.mem_range] at hk
  rcases (show k = 0 ∨ k = 1 ∨ k = 2 ∨ k = 3 ∨ k = 4 ∨ k = 5 ∨ k = 6 ∨ k = 7 ∨ k = 8 ∨ k = 9 ∨ k = 10 ∨ k = 11 by omega) with rfl | rfl | rfl | rfl | rfl | rfl | rfl | rfl | rfl | rfl | rfl | rfl
  · exact (List.mem_append_right _ (List.mem_append_right _ (List.mem_append_left _ (List.mem_of_getElem? (i := 210) rfl))))
  · exact (List.mem_append_right _ (List.mem_append_right _ (List.mem_append_left _ (List.mem_of_getElem? (i := 212) rfl))))
  · exact (List.mem_append_right _ (List.mem_append_right _ (List.mem_append_left _ (List.mem_of_getElem? (i := 214) rfl))))
  · exact (List.mem_append_right _ (List.mem_append_right _ (List.mem_append_left _ (List.mem_of_getElem? (i := 216) rfl))))
  · exact (List.mem_append_right _ (List.mem_append_right _ (List.mem_append_left _ (List.mem_of_getElem? (i := 218) rfl))))
  · exact (List.mem_append_right _ (List.mem_append_right _ (List.mem_append_left _ (List.mem_of_getElem? (i := 220) rfl))))
  · exact (List.mem_append_right _ (List.mem_append_right _ (List.mem_append_left _ (List.mem_of_getElem? (i := 222) rfl))))
  · exact (List.mem_append_right _ (List.mem_append_right _ (List.mem_append_left _ (List.mem_of_getElem? (i := 224) rfl))))
  · exact (List.mem_append_right _ (List.mem_append_right _ (List.mem_append_left _ (List.mem_of_getElem? (i := 226) rfl))))
  · exact (List.mem_append_right _ (List.mem_append_right _ (List.mem_append_left _ (List.mem_of_getElem? (i := 228) rfl))))
  · exact (List.mem_append_right _ (List.mem_append_right _ (List.mem_append_left _ (List.mem_of_getElem? (i := 230) rfl))))
  · exact (List.mem_append_right _ (List.mem_append_right _ (List.mem_append_left _ (List.mem_of_getElem? (i := 232) rfl))))
theorem wsX90_g : wsX90.all goodWord = true := by decide +kernel
theorem wsX100_in : ∀ w ∈ wsX100, w ∈ lw_tbl := by
  intro w hw
  obtain ⟨k, hk, rfl⟩ := List.mem_map.mp hw
  rw [List.mem_range] at hk
  rcases (show k = 0 ∨ k = 1 ∨ k = 2 ∨ k = 3 ∨ k = 4 ∨ k = 5 ∨ k = 6 ∨ k = 7 ∨ k = 8 ∨ k = 9 ∨ k = 10 ∨ k = 11 ∨ k = 12 ∨ k = 13 ∨ k = 14 ∨ k = 15 ∨ k = 16 ∨ k = 17 ∨ k = 18 ∨ k = 19 ∨ k = 20 ∨ k = 21 ∨ k = 22 ∨ k = 23 ∨ k = 24 ∨ k = 25 ∨ k = 26 ∨ k = 27 ∨ k = 28 ∨ k = 29 ∨ k = 30 ∨ k = 31 ∨ k = 32 ∨ k = 33 ∨ k = 34 ∨ k = 35 ∨ k = 36 ∨ k = 37 ∨ k = 38 ∨ k = 39 ∨ k = 40 ∨ k = 41 ∨ k = 42 ∨ k = 43 by omega) with rfl | rfl | rfl | rfl | rfl | rfl | rfl | rfl | rfl | rfl | rfl | rfl | rfl | rfl | rfl | rfl | rfl | rfl | rfl | rfl | rfl | rfl | rfl | rfl | rfl | rfl | rfl | rfl | rfl | rfl | rfl | rfl | rfl | rfl | rfl | rfl | rfl | rfl | rfl | rfl | rfl | rfl | rfl | rfl
  · exact (List.mem_append_right _ (List.mem_append_right _ (List.mem_append_right _ (List.mem_append_right _ (List.mem_append_left _ (List.mem_of_getElem? (i := 118) rfl))))))
  · exact (List.mem_append_right _ (List.mem_append_right _ (List.mem_append_right _ (List.mem_append_right _ (List.mem_append_left _ (List.mem_of_getElem? (i := 120) rfl))))))
  · exact (List.mem_append_right _ (List.mem_append_right _ (List.mem_append_right _ (List.mem_append_right _ (List.mem_append_left _ (List.mem_of_getElem? (i := 122) rfl))))))
  · exact (List.mem_append_right _ (List.mem_append_right _ (List.mem_append_right _ (List.mem_append_right _ (List.mem_append_left _ (List.mem_of_getElem? (i := 124) rfl))))))
  · exact (List.mem_append_right _ (List.mem_append_right _ (List.mem_append_right _ (List.mem_append_right _ (List.mem_append_left _ (List.mem_of_getElem? (i := 126) rfl))))))
  · exact (List.mem_append_right _ (List.mem_append_right _ (List.mem_append_right _ (List.mem_append_right _ (List.mem_append_left _ (List.mem_of_getElem? (i := 128) rfl))))))
  · exact (List.mem_append_right _ (List.mem_append_right _ (List.mem_append_right _ (List.mem_append_right _ (List.mem_append_left _ (List.mem_of_getElem? (i := 130) rfl))))))
  · exact (List.mem_append_right _ (List.mem_append_right _ (List.mem_append_right _ (List.mem_append_right _ (List.mem_append_left _ (List.mem_of_getElem? (i := 132) rfl))))))
  · exact (List.mem_append_right _ (List.mem_append_right _ (List.mem_append_right _ (List.mem_append_right _ (List.mem_append_left _ (List.mem_of_getElem? (i := 134) rfl))))))
  · exact (List.mem_append_right _ (List.mem_append_right _ (List.mem_append_right _ (List.mem_append_right _ (List.mem_append_left _ (List.mem_of_getElem? (i := 136) rfl))))))
  · exact (List.mem_append_right _ (List.mem_append_right _ (List.mem_append_right _ (List.mem_append_right _ (List.mem_append_left _ (List.mem_of_getElem? (i := 138) rfl))))))
  · exact (List.mem_append_right _ (List.mem_append_right _ (List.mem_append_right _ (List.mem_append_right _ (List.mem_append_left _ (List.mem_of_getElem? (i := 140) rfl))))))
  · exact (List.mem_append_right _ (List.mem_append_right _ (List.mem_append_right _ (List.mem_append_right _ (List.mem_append_left _ (List.mem_of_getElem? (i := 142) rfl))))))
  · exact (List.mem_append_right _ (List.mem_append_right _ (List.mem_append_right _ (List.mem_append_right _ (List.mem_append_left _ (List.mem_of_getElem? (i := 144) rfl))))))
  · exact (List.mem_append_right _ (List.mem_append_right _ (List.mem_append_right _ (List.mem_append_right _ (List.mem_append_left _ (List.mem_of_getElem? (i := 146) rfl))))))
  · exact (List.mem_append_right _ (List.mem_append_right _ (List.mem_append_right _ (List.mem_append_right _ (List.mem_append_left _ (List.mem_of_getElem? (i := 148) rfl))))))
  · exact (List.mem_append_right _ (List.mem_append_right _ (List.mem_append_right _ (List.mem_append_right _ (List.mem_append_left _ (List.mem_of_getElem? (i := 150) rfl))))))
  · exact (List.mem_append_right _ (List.mem_append_right _ (List.mem_append_right _ (List.mem_append_right _ (List.mem_append_left _ (List.mem_of_getElem? (i := 152) rfl))))))
  · exact (List.mem_append_right _ (List.mem_append_right _ (List.mem_append_right _ (List.mem_append_right _ (List.mem_append_left _ (List.mem_of_getElem? (i := 154) rfl))))))
  · exact (List.mem_append_right _ (List.mem_append_right _ (List.mem_append_right _ (List.mem_append_right _ (List.mem_append_left _ (List.mem_of_getElem? (i := 156) rfl))))))
  · exact (List.mem_append_right _ (List.mem_append_right _ (List.mem_append_right _ (List.mem_append_right _ (List.mem_append_left _ (List.mem_of_getElem? (i := 158) rfl))))))
  · exact (List.mem_append_right _ (List.mem_append_right _ (List.mem_append_right _ (List.mem_append_right _ (List.mem_append_left _ (List.mem_of_getElem? (i := 160) rfl))))))
  · exact (List.mem_append_right _ (List.mem_append_right _ (List.mem_append_right _ (List.mem_append_right _ (List.mem_append_left _ (List.mem_of_getElem? (i := 162) rfl))))))
  · exact (List.mem_append_right _ (List.mem_append_right _ (List.mem_append_right _ (List.mem_append_right _ (List.mem_append_left _ (List.mem_of_getElem? (i := 164) rfl))))))
  · exact (List.mem_append_right _ (List.mem_append_right _ (List.mem_append_right _ (List.mem_append_right _ (List.mem_append_left _ (List.mem_of_getElem? (i := 166) rfl))))))
  · exact (List.mem_append_right _ (List.mem_append_right _ (List.mem_append_right _ (List.mem_append_right _ (List.mem_append_left _ (List.mem_of_getElem? (i := 168) rfl))))))
  · exact (List.mem_append_right _ (List.mem_append_right _ (List.mem_append_right _ (List.mem_append_right _ (List.mem_append_left _ (List.mem_of_getElem? (i := 170) rfl))))))
  · exact (List.mem_append_right _ (List.mem_append_right _ (List.mem_append_right _ (List.mem_append_right _ (List.mem_append_left _ (List.mem_of_getElem? (i := 172) rfl))))))
  · exact (List.mem_append_right _ (List.mem_append_right _ (List.mem_append_right _ (List.mem_append_right _ (List.mem_append_left _ (List.mem_of_getElem? (i := 174) rfl))))))
  · exact (List.mem_append_right _ (List.mem_append_right _ (List.mem_append_right _ (List.mem_append_right _ (List.mem_append_left _ (List.mem_of_getElem? (i := 176) rfl))))))
  · exact (List.mem_append_right _ (List.mem_append_right _ (List.mem_append_right _ (List.mem_append_right _ (List.mem_append_left _ (List.mem_of_getElem? (i := 178) rfl))))))
  · exact (List.mem_append_right _ (List.mem_append_right _ (List.mem_append_right _ (List.mem_append_right _ (List.mem_append_left _ (List.mem_of_getElem? (i := 180) rfl))))))
  · exact (List.mem_append_right _ (List.mem_append_right _ (List.mem_append_right _ (List.mem_append_right _ (List.mem_append_left _ (List.mem_of_getElem? (i := 182) rfl))))))
  · exact (List.mem_append_right _ (List.mem_append_right _ (List.mem_append_right _ (List.mem_append_right _ (List.mem_append_left _ (List.mem_of_getElem? (i := 184) rfl))))))
  · exact (List.mem_append_right _ (List.mem_append_right _ (List.mem_append_right _ (List.mem_append_right _ (List.mem_append_left _ (List.mem_of_getElem? (i := 186) rfl))))))
  · exact (List.mem_append_right _ (List.mem_append_right _ (List.mem_append_right _ (List.mem_append_right _ (List.mem_append_left _ (List.mem_of_getElem? (i := 188) rfl))))))
  · exact (List.mem_append_right _ (List.mem_append_right _ (List.mem_append_right _ (List.mem_append_right _ (List.mem_append_left _ (List.mem_of_getElem? (i := 190) rfl))))))
  · exact (List.mem_append_right _ (List.mem_append_right _ (List.mem_append_right _ (List.mem_append_right _ (List.mem_append_left _ (List.mem_of_getElem? (i := 192) rfl))))))
  · exact (List.mem_append_right _ (List.mem_append_right _ (List.mem_append_right _ (List.mem_append_right _ (List.mem_append_left _ (List.mem_of_getElem? (i := 194) rfl))))))
  · exact (List.mem_append_right _ (List.mem_append_right _ (List.mem_append_right _ (List.mem_append_right _ (List.mem_append_left _ (List.mem_of_getElem? (i := 196) rfl))))))
  · exact (List.mem_append_right _ (List.mem_append_right _ (List.mem_append_right _ (List.mem_append_right _ (List.mem_append_left _ (List.mem_of_getElem? (i := 198) rfl))))))
  · exact (List.mem_append_right _ (List.mem_append_right _ (List.mem_append_right _ (List.mem_append_right _ (List.mem_append_left _ (List.mem_of_getElem? (i := 200) rfl))))))
  · exact (List.mem_append_right _ (List.mem_append_right _ (List.mem_append_right _ (List.mem_append_right _ (List.mem_append_left _ (List.mem_of_getElem? (i := 202) rfl))))))
  · exact (List.mem_append_right _ (List.mem_append_right _ (List.mem_append_right _ (List.mem_append_right _ (List.mem_append_left _ (List.mem_of_getElem? (i := 204) rfl))))))
theorem wsX100_g : wsX100.all goodWord = true := by decide +kernel
theorem wsL_r_in : ∀ w ∈ (wsL_law_r1 ++ (wsL_law_r2 ++ (wsL_law_r3 ++ (wsL_law_r4 ++ (wsL_law_r5 ++ (wsL_law_r6 ++ (wsL_law_r7 ++ (wsL_law_r8 ++ (wsL_law_r9 ++ (wsL_law_r10 ++ (wsL_law_r11 ++ (wsL_law_r12 ++ (wsL_law_r13 ++ (wsL_law_r14 ++ (wsL_law_r15 ++ (wsL_law_r16 ++ (wsL_law_r17 ++ (wsL_law_r18 ++ (wsL_law_r19 ++ (wsL_law_r20 ++ (wsL_law_r21 ++ (wsL_law_r22 ++ (wsL_law_r23 ++ (wsL_law_r24 ++ (wsL_law_r25 ++ (wsL_law_r26 ++ (wsL_law_r27 ++ (wsL_law_r28 ++ (wsL_law_r29 ++ (wsL_law_r30 ++ (wsL_law_r31 ++ (wsL_law_r32 ++ (wsL_law_r33 ++ (wsL_law_r34 ++ (wsL_law_r35 ++ (wsL_law_r36 ++ (wsL_law_r37 ++ (wsL_law_r38 ++ (wsL_law_r39 ++ (wsL_law_r40 ++ (wsL_law_r41))))))))))))))))))))))))))))))))))))))))), w ∈ lw_tbl := List.forall_mem_append.mpr ⟨wsL_law_r1_in, List.forall_mem_append.mpr ⟨wsL_law_r2_in, List.forall_mem_append.mpr ⟨wsL_law_r3_in, List.forall_mem_append.mpr ⟨wsL_law_r4_in, List.forall_mem_append.mpr ⟨wsL_law_r5_in, List.forall_mem_append.mpr ⟨wsL_law_r6_in, List.forall_mem_append.mpr ⟨wsL_law_r7_in, List.forall_mem_append.mpr ⟨wsL_law_r8_in, List.forall_mem_append.mpr ⟨wsL_law_r9_in, List.forall_mem_append.mpr ⟨wsL_law_r10_in, List.forall_mem_append.mpr ⟨wsL_law_r11_in, List.forall_mem_append.mpr ⟨wsL_law_r12_in, List.forall_mem_append.mpr ⟨wsL_law_r13_in, List.forall_mem_append.mpr ⟨wsL_law_r14_in, List.forall_mem_append.mpr ⟨wsL_law_r15_in, List.forall_mem_append.mpr ⟨wsL_law_r16_in, List.forall_mem_append.mpr ⟨wsL_law_r17_in, List.forall_mem_append.mpr ⟨wsL_law_r18_in, List.forall_mem_append.mpr ⟨wsL_law_r19_in, List.forall_mem_append.mpr ⟨wsL_law_r20_in, List.forall_mem_append.mpr ⟨wsL_law_r21_in, List.forall_mem_append.mpr ⟨wsL_law_r22_in, List.forall_mem_append.mpr ⟨wsL_law_r23_in, List.forall_mem_append.mpr ⟨wsL_law_r24_in, List.forall_mem_append.mpr ⟨wsL_law_r25_in, List.forall_mem_append.mpr ⟨wsL_law_r26_in, List.forall_mem_append.mpr ⟨wsL_law_r27_in, List.forall_mem_append.mpr ⟨wsL_law_r28_in, List.forall_mem_append.mpr ⟨wsL_law_r29_in, List.forall_mem_append.mpr ⟨wsL_law_r30_in, List.forall_mem_append.mpr ⟨wsL_law_r31_in, List.forall_mem_append.mpr ⟨wsL_law_r32_in, List.forall_mem_append.mpr ⟨wsL_law_r33_in, List.forall_mem_append.mpr ⟨wsL_law_r34_in, List.forall_mem_append.mpr ⟨wsL_law_r35_in, List.forall_mem_append.mpr ⟨wsL_law_r36_in, List.forall_mem_append.mpr ⟨wsL_law_r37_in, List.forall_mem_append.mpr ⟨wsL_law_r38_in, List.forall_mem_append.mpr ⟨wsL_law_r39_in, List.forall_mem_append.mpr ⟨wsL_law_r40_in, wsL_law_r41_in⟩⟩⟩⟩⟩⟩⟩⟩⟩⟩⟩⟩⟩⟩⟩⟩⟩⟩⟩⟩⟩⟩⟩⟩⟩⟩⟩⟩⟩⟩⟩⟩⟩⟩⟩⟩⟩⟩⟩⟩
theorem wsL_law_in : ∀ w ∈ wsL_law, w ∈ lw_tbl := List.forall_mem_append.mpr ⟨List.forall_mem_append.mpr ⟨List.forall_mem_append.mpr ⟨List.forall_mem_append.mpr ⟨List.forall_mem_append.mpr ⟨List.forall_mem_append.mpr ⟨List.forall_mem_append.mpr ⟨List.forall_mem_append.mpr ⟨List.forall_mem_append.mpr ⟨List.forall_mem_append.mpr ⟨List.forall_mem_append.mpr ⟨List.forall_mem_append.mpr ⟨wsL_r_in, wsX90_in⟩, wsX100_in⟩, wsX80_in⟩, wsX40_in⟩, wsX20_in⟩, wsX30_in⟩, wsX00_in⟩, wsX50_in⟩, wsX60_in⟩, wsX10_in⟩, wsX70_in⟩, fun _ h => absurd h List.not_mem_nil⟩
theorem zall_app {a b : List Cond} (h1 : a.all goodWord = true) (h2 : b.all goodWord = true) : (a ++ b).all goodWord = true := by rw [List.all_append, h1, h2]; rfl
theorem wsL_law_g : wsL_law.all goodWord = true := zall_app (zall_app (zall_app (zall_app (zall_app (zall_app (zall_app (zall_app (zall_app (zall_app (zall_app (zall_app (zall_app wsL_law_r1_g (zall_app wsL_law_r2_g (zall_app wsL_law_r3_g (zall_app wsL_law_r4_g (zall_app wsL_law_r5_g (zall_app wsL_law_r6_g (zall_app wsL_law_r7_g (zall_app wsL_law_r8_g (zall_app wsL_law_r9_g (zall_app wsL_law_r10_g (zall_app wsL_law_r11_g (zall_app wsL_law_r12_g (zall_app wsL_law_r13_g (zall_app wsL_law_r14_g (zall_app wsL_law_r15_g (zall_app wsL_law_r16_g (zall_app wsL_law_r17_g (zall_app wsL_law_r18_g (zall_app wsL_law_r19_g (zall_app wsL_law_r20_g (zall_app wsL_law_r21_g (zall_app wsL_law_r22_g (zall_app wsL_law_r23_g (zall_app wsL_law_r24_g (zall_app wsL_law_r25_g (zall_app wsL_law_r26_g (zall_app wsL_law_r27_g (zall_app wsL_law_r28_g (zall_app wsL_law_r29_g (zall_app wsL_law_r30_g (zall_app wsL_law_r31_g (zall_app wsL_law_r32_g (zall_app wsL_law_r33_g (zall_app wsL_law_r34_g (zall_app wsL_law_r35_g (zall_app wsL_law_r36_g (zall_app wsL_law_r37_g (zall_app wsL_law_r38_g (zall_app wsL_law_r39_g (zall_app wsL_law_r40_g (wsL_law_r41_g))))))))))))))))))))))))))))))))))))))))) wsX90_g) wsX100_g) wsX80_g) wsX40_g) wsX20_g) wsX30_g) wsX00_g) wsX50_g) wsX60_g) wsX10_g) wsX70_g) rfl
theorem wsL_law_r1_l {w : Cond} (h : w ∈ wsL_law_r1) : w ∈ wsL_law := (List.mem_append_left _ (List.mem_append_left _ (List.mem_append_left _ (List.mem_append_left _ (List.mem_append_left _ (List.mem_append_left _ (List.mem_append_left _ (List.mem_append_left _ (List.mem_append_left _ (List.mem_append_left _ (List.mem_append_left _ (List.mem_append_left _ (List.mem_append_left _ h)))))))))))))
theorem wsL_law_r2_l {w : Cond} (h : w ∈ wsL_law_r2) : w ∈ wsL_law := (List.mem_append_left _ (List.mem_append_left _ (List.mem_append_left _ (List.mem_append_left _ (List.mem_append_left _ (List.mem_append_left _ (List.mem_append_left _ (List.mem_append_left _ (List.mem_append_left _ (List.mem_append_left _ (List.mem_append_left _ (List.mem_append_left _ (List.mem_append_right _ (List.mem_append_left _ h))))))))))))))
theorem wsL_law_r3_l {w : Cond} (h : w ∈ wsL_law_r3) : w ∈ wsL_law := (List.mem_append_left _ (List.mem_append_left _ (List.mem_append_left _ (List.mem_append_left _ (List.mem_append_left _ (List.mem_append_left _ (List.mem_append_left _ (List.mem_append_left _ (List.mem_append_left _ (List.mem_append_left _ (List.mem_append_left _ (List.mem_append_left _ (List.mem_append_right _ (List.mem_append_right _ (List.mem_append_left _ h)))))))))))))))
theorem wsL_law_r4_l {w : Cond} (h : w ∈ wsL_law_r4) : w ∈ wsL_law := (List.mem_append_left _ (List.mem_append_left _ (List.mem_append_left _ (List.mem_append_left _ (List.mem_append_left _ (List.mem_append_left _ (List.mem_append_left _ (List.mem_append_left _ (List.mem_append_left _ (List.mem_append_left _ (List.mem_append_left _ (List.mem_append_left _ (List.mem_append_right _ (List.mem_append_right _ (List.mem_append_right _ (List.mem_append_left _ h))))))))))))))))
theorem wsL_law_r5_l {w : Cond} (h : w ∈ wsL_law_r5) : w ∈ wsL_law := (List.mem_append_left _ (List.mem_append_left _ (List.mem_append_left _ (List.mem_append_left _ (List.mem_append_left _ (List.mem_append_left _ (List.mem_append_left _ (List.mem_append_left _ (List.mem_append_left _ (List.mem_append_left _ (List.mem_append_left _ (List.mem_append_left _ (List.mem_append_right _ (List.mem_append_right _ (List.mem_append_right _ (List.mem_append_right _ (List.mem_append_left _ h)))))))))))))))))
theorem wsL_law_r6_l {w : Cond} (h : w ∈ wsL_law_r6) : w ∈ wsL_law := (List.mem_append_left _ (List.mem_append_left _ (List.mem_append_left _ (List.mem_append_left _ (List.mem_append_left _ (List.mem_append_left _ (List.mem_append_left _ (List.mem_append_left _ (List.mem_append_left _ (List.mem_append_left _ (List.mem_append_left _ (List.mem_append_left _ (List.mem_append_right _ (List.mem_append_right _ (List.mem_append_right _ (List.mem_append_right _ (List.mem_append_right _ (List.mem_append_left _ h))))))))))))))))))
theorem wsL_law_r7_l {w : Cond} (h : w ∈ wsL_law_r7) : w ∈ wsL_law := (List.mem_append_left _ (List.mem_append_left _ (List.mem_append_left _ (List.mem_append_left _ (List.mem_append_left _ (List.mem_append_left _ (List.mem_append_left _ (List.mem_append_left _ (List.mem_append_left _ (List.mem_append_left _ (List.mem_append_left _ (List.mem_append_left _ (List.mem_append_right _ (List.mem_append_right _ (List.mem_append_right _ (List.mem_append_right _ (List.mem_append_right _ (List.mem_append_right _ (List.mem_append_left _ h)))))))))))))))))))
theorem wsL_law_r8_l {w : Cond} (h : w ∈ wsL_law_r8) : w ∈ wsL_law := (List.mem_append_left _ (List.mem_append_left _ (List.mem_append_left _ (List.mem_append_left _ (List.mem_append_left _ (List.mem_append_left _ (List.mem_append_left _ (List.mem_append_left _ (List.mem_append_left _ (List.mem_append_left _ (List.mem_append_left _ (List.mem_append_left _ (List.mem_append_right _ (List.mem_append_right _ (List.mem_append_right _ (List.mem_append_right _ (List.mem_append_right _ (List.mem_append_right _ (List.mem_append_right _ (List.mem_append_left _ h))))))))))))))))))))
theorem wsL_law_r9_l {w : Cond} (h : w ∈ wsL_law_r9) : w ∈ wsL_law := (List.mem_append_left _ (List.mem_append_left _ (List.mem_append_left _ (List.mem_append_left _ (List.mem_append_left _ (List.mem_append_left _ (List.mem_append_left _ (List.mem_append_left _ (List.mem_append_left _ (List.mem_append_left _ (List.mem_append_left _ (List.mem_append_left _ (List.mem_append_right _ (List.mem_append_right _ (List.mem_append_right _ (List.mem_append_right _ (List.mem_append_right _ (List.mem_append_right _ (List.mem_append_right _ (List.mem_append_right _ (List.mem_append_left _ h)))))))))))))))))))))
theorem wsL_law_r10_l {w : Cond} (h : w ∈ wsL_law_r10) : w ∈ wsL_law := (List.mem_append_left _ (List.mem_append_left _ (List.mem_append_left _ (List.mem_append_left _ (List.mem_append_left _ (List.mem_append_left _ (List.mem_append_left _ (List.mem_append_left _ (List.mem_append_left _ (List.mem_append_left _ (List.mem_append_left _ (List.mem_append_left _ (List.mem_append_right _ (List.mem_append_right _ (List.mem_append_right _ (List.mem_append_right _ (List.mem_append_right _ (List.mem_append_right _ (List.mem_append_right _ (List.mem_append_right _ (List.mem_append_right _ (List.mem_append_left _ h))))))))))))))))))))))
theorem wsL_law_r11_l {w : Cond} (h : w ∈ wsL_law_r11) : w ∈ wsL_law := (List.mem_append_left _ (List.mem_append_left _ (List.mem_append_left _ (List.mem_append_left _ (List.mem_append_left _ (List.mem_append_left _ (List.mem_append_left _ (List.mem_append_left _ (List.mem_append_left _ (List.mem_append_left _ (List.mem_append_left _ (List.mem_append_left _ (List.mem_append_right _ (List.mem_append_right _ (List.mem_append_right _ (List.mem_append_right _ (List.mem_append_right _ (List.mem_append_right _ (List.mem_append_right _ (List.mem_append_right _ (List.mem_append_right _ (List.mem_append_right _ (List.mem_append_left _ h)))))))))))))))))))))))
theorem wsL_law_r12_l {w : Cond} (h : w ∈ wsL_law_r12) : w ∈ wsL_law := (List.mem_append_left _ (List.mem_append_left _ (List.mem_append_left _ (List.mem_append_left _ (List.mem_append_left _ (List.mem_append_left _ (List.mem_append_left _ (List.mem_append_left _ (List.mem_append_left _ (List.mem_append_left _ (List.mem_append_left _ (List.mem_append_left _ (List.mem_append_right _ (List.mem_append_right _ (List.mem_append_right _ (List.mem_append_right _ (List.mem_append_right _ (List.mem_append_right _ (List.mem_append_right _ (List.mem_append_right _ (List.mem_append_right _ (List.mem_append_right _ (List.mem_append_right _ (List.mem_append_left _ h))))))))))))))))))))))))
theorem wsL_law_r13_l {w : Cond} (h : w ∈ wsL_law_r13) : w ∈ wsL_law := (List.mem_append_left _ (List.mem_append_left _ (List.mem_append_left _ (List.mem_append_left _ (List.mem_append_left _ (List.mem_append_left _ (List.mem_append_left _ (List.mem_append_left _ (List.mem_append_left _ (List.mem_append_left _ (List.mem_append_left _ (List.mem_append_left _ (List.mem_append_right _ (List.mem_append_right _ (List.mem_append_right _ (List.mem_append_right _ (List.mem_append_right _ (List.mem_append_right _ (List.mem_append_right _ (List.mem_append_right _ (List.mem_append_right _ (List.mem_append_right _ (List.mem_append_right _ (List.mem_append_right _ (List.mem_append_left _ h)))))))))))))))))))))))))
theorem wsL_law_r14_l {w : Cond} (h : w ∈ wsL_law_r14) : w ∈ wsL_law := (List.mem_append_left _ (List.mem_append_left _ (List.mem_append_left _ (List.mem_append_left _ (List.mem_append_left _ (List.mem_append_left _ (List.mem_append_left _ (List.mem_append_left _ (List.mem_append_left _ (List.mem_append_left _ (List.mem_append_left _ (List.mem_append_left _ (List.mem_append_right _ (List.mem_append_right _ (List.mem_append_right _ (List.mem_append_right _ (List.mem_append_right _ (List.mem_append_right _ (List.mem_append_right _ (List.mem_append_right _ (List.mem_append_right _ (List.mem_append_right _ (List.mem_append_right _ (List.mem_append_right _ (List.mem_append_right _ (List.mem_append_left _ h))))))))))))))))))))))))))
theorem wsL_law_r15_l {w : Cond} (h : w ∈ wsL_law_r15) : w ∈ wsL_law := (List.mem_append_left _ (List.mem_append_left _ (List.mem_append_left _ (List.mem_append_left _ (List.mem_append_left _ (List.mem_append_left _ (List.mem_append_left _ (List.mem_append_left _ (List.mem_append_left _ (List.mem_append_left _ (List.mem_append_left _ (List.mem_append_left _ (List.mem_append_right _ (List.mem_append_right _ (List.mem_append_right _ (List.mem_append_right _ (List.mem_append_right _ (List.mem_append_right _ (List.mem_append_right _ (List.mem_append_right _ (List.mem_append_right _ (List.mem_append_right _ (List.mem_append_right _ (List.mem_append_right _ (List.mem_append_right _ (List.mem_append_right _ (List.mem_append_left _ h)))))))))))))))))))))))))))
theorem wsL_law_r16_l {w : Cond} (h : w ∈ wsL_law_r16) : w ∈ wsL_law := (List.mem_append_left _ (List.mem_append_left _ (List.mem_append_left _ (List.mem_append_left _ (List.mem_append_left _ (List.mem_append_left _ (List.mem_append_left _ (List.mem_append_left _ (List.mem_append_left _ (List.mem_append_left _ (List.mem_append_left _ (List.mem_append_left _ (List.mem_append_right _ (List.mem_append_right _ (List.mem_append_right _ (List.mem_append_right _ (List.mem_append_right _ (List.mem_append_right _ (List.mem_append_right _ (List.mem_append_right _ (List.mem_append_right _ (List.mem_append_right _ (List.mem_append_right _ (List.mem_append_right _ (List.mem_append_right _ (List.mem_append_right _ (List.mem_append_right _ (List.mem_append_left _ h))))))))))))))))))))))))))))
theorem wsL_law_r17_l {w : Cond} (h : w ∈ wsL_law_r17) : w ∈ wsL_law := (List.mem_append_left _ (List.mem_append_left _ (List.mem_append_left _ (List.mem_append_left _ (List.mem_append_left _ (List.mem_append_left _ (List.mem_append_left _ (List.mem_append_left _ (List.mem_append_left _ (List.mem_append_left _ (List.mem_append_left _ (List.mem_append_left _ (List.mem_append_right _ (List.mem_append_right _ (List.mem_append_right _ (List.mem_append_right _ (List.mem_append_right _ (List.mem_append_right _ (List.mem_append_right _ (List.mem_append_right _ (List.mem_append_right _ (List.mem_append_right _ (List.mem_append_right _ (List.mem_append_right _ (List.mem_append_right _ (List.mem_append_right _ (List.mem_append_right _ (List.mem_append_right _ (List.mem_append_left _ h)))))))))))))))))))))))))))))
theorem wsL_law_r18_l {w : Cond} (h : w ∈ wsL_law_r18) : w ∈ wsL_law := (List.mem_append_left _ (List.mem_append_left _ (List.mem_append_left _ (List.mem_append_left _ (List.mem_append_left _ (List.mem_append_left _ (List.mem_append_left _ (List.mem_append_left _ (List.mem_append_left _ (List.mem_append_left _ (List.mem_append_left _ (List.mem_append_left _ (List.mem_append_right _ (List.mem_append_right _ (List.mem_append_right _ (List.mem_append_right _ (List.mem_append_right _ (List.mem_append_right _ (List.mem_append_right _ (List.mem_append_right _ (List.mem_append_right _ (List.mem_append_right _ (List.mem_append_right _ (List.mem_append_right _ (List.mem_append_right _ (List.mem_append_right _ (List.mem_append_right _ (List.mem_append_right _ (List.mem_append_right _ (List.mem_append_left _ h))))))))))))))))))))))))))))))
theorem wsL_law_r19_l {w : Cond} (h : w ∈ wsL_law_r19) : w ∈ wsL_law := (List.mem_append_left _ (List.mem_append_left _ (List.mem_append_left _ (List.mem_append_left _ (List.mem_append_left _ (List.mem_append_left _ (List.mem_append_left _ (List.mem_append_left _ (List.mem_append_left _ (List.mem_append_left _ (List.mem_append_left _ (List.mem_append_left _ (List.mem_append_right _ (List.mem_append_right _ (List.mem_append_right _ (List.mem_append_right _ (List.mem_append_right _ (List.mem_append_right _ (List.mem_append_right _ (List.mem_append_right _ (List.mem_append_right _ (List.mem_append_right _ (List.mem_append_right _ (List.mem_append_right _ (List.mem_append_right _ (List.mem_append_right _ (List.mem_append_right _ (List.mem_append_right _ (List.mem_append_right _ (List.mem_append_right _ (List.mem_append_left _ h)))))))))))))))))))))))))))))))
theorem wsL_law_r20_l {w : Cond} (h : w ∈ wsL_law_r20) : w ∈ wsL_law := (List.mem_append_left _ (List.mem_append_left _ (List.mem_append_left _ (List.mem_append_left _ (List.mem_append_left _ (List.mem_append_left _ (List.mem_append_left _ (List.mem_append_left _ (List.mem_append_left _ (List.mem_append_left _ (List.mem_append_left _ (List.mem_append_left _ (List.mem_append_right _ (List.mem_append_right _ (List.mem_append_right _ (List.mem_append_right _ (List.mem_append_right _ (List.mem_append_right _ (List.mem_append_right _ (List.mem_append_right _ (List.mem_append_right _ (List.mem_append_right _ (List.mem_append_right _ (List.mem_append_right _ (List.mem_append_right _ (List.mem_append_right _ (List.mem_append_right _ (List.mem_append_right _ (List.mem_append_right _ (List.mem_append_right _ (List.mem_append_right _ (List.mem_append_left _ h))))))))))))))))))))))))))))))))
theorem wsL_law_r21_l {w : Cond} (h : w ∈ wsL_law_r21) : w ∈ wsL_law := (List.mem_append_left _ (List.mem_append_left _ (List.mem_append_left _ (List.mem_append_left _ (List.mem_append_left _ (List.mem_append_left _ (List.mem_append_left _ (List.mem_append_left _ (List.mem_append_left _ (List.mem_append_left _ (List.mem_append_left _ (List.mem_append_left _ (List.mem_append_right _ (List.mem_append_right _ (List.mem_append_right _ (List.mem_append_right _ (List.mem_append_right _ (List.mem_append_right _ (List.mem_append_right _ (List.mem_append_right _ (List.mem_append_right _ (List.mem_append_right _ (List.mem_append_right _ (List.mem_append_right _ (List.mem_append_right _ (List.mem_append_right _ (List.mem_append_right _ (List.mem_append_right _ (List.mem_append_right _ (List.mem_append_right _ (List.mem_append_right _ (List.mem_append_right _ (List.mem_append_left _ h)))))))))))))))))))))))))))))))))
theorem wsL_law_r22_l {w : Cond} (h : w ∈ wsL_law_r22) : w ∈ wsL_law := (List.mem_append_left _ (List.mem_append_left _ (List.mem_append_left _ (List.mem_append_left _ (List.mem_append_left _ (List.mem_append_left _ (List.mem_append_left _ (List.mem_append_left _ (List.mem_append_left _ (List.mem_append_left _ (List.mem_append_left _ (List.mem_append_left _ (List.mem_append_right _ (List.mem_append_right _ (List.mem_append_right _ (List.mem_append_right _ (List.mem_append_right _ (List.mem_append_right _ (List.mem_append_right _ (List.mem_append_right _ (List.mem_append_right _ (List.mem_append_right _ (List.mem_append_right _ (List.mem_append_right _ (List.mem_append_right _ (List.mem_append_right _ (List.mem_append_right _ (List.mem_append_right _ (List.mem_append_right _ (List.mem_append_right _ (List.mem_append_right _ (List.mem_append_right _ (List.mem_append_right _ (List.mem_append_left _ h))))))))))))))))))))))))))))))))))
theorem wsL_law_r23_l {w : Cond} (h : w ∈ wsL_law_r23) : w ∈ wsL_law := (List.mem_append_left _ (List.mem_append_left _ (List.mem_append_left _ (List.mem_append_left _ (List.mem_append_left _ (List.mem_append_left _ (List.mem_append_left _ (List.mem_append_left _ (List.mem_append_left _ (List.mem_append_left _ (List.mem_append_left _ (List.mem_append_left _ (List.mem_append_right _ (List.mem_append_right _ (List.mem_append_right _ (List.mem_append_right _ (List.mem_append_right _ (List.mem_append_right _ (List.mem_append_right _ (List.mem_append_right _ (List.mem_append_right _ (List.mem_append_right _ (List.mem_append_right _ (List.mem_append_right _ (List.mem_append_right _ (List.mem_append_right _ (List.mem_append_right _ (List.mem_append_right _ (List.mem_append_right _ (List.mem_append_right _ (List.mem_append_right _ (List.mem_append_right _ (List.mem_append_right _ (List.mem_append_right _ (List.mem_append_left _ h)))))))))))))))))))))))))))))))))))
theorem wsL_law_r24_l {w : Cond} (h : w ∈ wsL_law_r24) : w ∈ wsL_law := (List.mem_append_left _ (List.mem_append_left _ (List.mem_append_left _ (List.mem_append_left _ (List.mem_append_left _ (List.mem_append_left _ (List.mem_append_left _ (List.mem_append_left _ (List.mem_append_left _ (List.mem_append_left _ (List.mem_append_left _ (List.mem_append_left _ (List.mem_append_right _ (List.mem_append_right _ (List.mem_append_right _ (List.mem_append_right _ (List.mem_append_right _ (List.mem_append_right _ (List.mem_append_right _ (List.mem_append_right _ (List.mem_append_right _ (List.mem_append_right _ (List.mem_append_right _ (List.mem_append_right _ (List.mem_append_right _ (List.mem_append_right _ (List.mem_append_right _ (List.mem_append_right _ (List.mem_append_right _ (List.mem_append_right _ (List.mem_append_right _ (List.mem_append_right _ (List.mem_append_right _ (List.mem_append_right _ (List.mem_append_right _ (List.mem_append_left _ h))))))))))))))))))))))))))))))))))))
theorem wsL_law_r25_l {w : Cond} (h : w ∈ wsL_law_r25) : w ∈ wsL_law := (List.mem_append_left _ (List.mem_append_left _ (List.mem_append_left _ (List.mem_append_left _ (List.mem_append_left _ (List.mem_append_left _ (List.mem_append_left _ (List.mem_append_left _ (List.mem_append_left _ (List.mem_append_left _ (List.mem_append_left _ (List.mem_append_left _ (List.mem_append_right _ (List.mem_append_right _ (List.mem_append_right _ (List.mem_append_right _ (List.mem_append_right _ (List.mem_append_right _ (List.mem_append_right _ (List.mem_append_right _ (List.mem_append_right _ (List.mem_append_right _ (List.mem_append_right _ (List.mem_append_right _ (List.mem_append_right _ (List.mem_append_right _ (List.mem_append_right _ (List.mem_append_right _ (List.mem_append_right _ (List.mem_append_right _ (List.mem_append_right _ (List.mem_append_right _ (List.mem_append_right _ (List.mem_append_right _ (List.mem_append_right _ (List.mem_append_right _ (List.mem_append_left _ h)))))))))))))))))))))))))))))))))))))
theorem wsL_law_r26_l {w : Cond} (h : w ∈ wsL_law_r26) : w ∈ wsL_law := (List.mem_append_left _ (List.mem_append_left _ (List.mem_append_left _ (List.mem_append_left _ (List.mem_append_left _ (List.mem_append_left _ (List.mem_append_left _ (List.mem_append_left _ (List.mem_append_left _ (List.mem_append_left _ (List.mem_append_left _ (List.mem_append_left _ (List.mem_append_right _ (List.mem_append_right _ (List.mem_append_right _ (List.mem_append_right _ (List.mem_append_right _ (List.mem_append_right _ (List.mem_append_right _ (List.mem_append_right _ (List.mem_append_right _ (List.mem_append_right _ (List.mem_append_right _ (List.mem_append_right _ (List.mem_append_right _ (List.mem_append_right _ (List.mem_append_right _ (List.mem_append_right _ (List.mem_append_right _ (List.mem_append_right _ (List.mem_append_right _ (List.mem_append_right _ (List.mem_append_right _ (List.mem_append_right _ (List.mem_append_right _ (List.mem_append_right _ (List.mem_append_right _ (List.mem_append_left _ h))))))))))))))))))))))))))))))))))))))
theorem wsL_law_r27_l {w : Cond} (h : w ∈ wsL_law_r27) : w ∈ wsL_law := (List.mem_append_left _ (List.mem_append_left _ (List.mem_append_left _ (List.mem_append_left _ (List.mem_append_left _ (List.mem_append_left _ (List.mem_append_left _ (List.mem_append_left _ (List.mem_append_left _ (List.mem_append_left _ (List.mem_append_left _ (List.mem_append_left _ (List.mem_append_right _ (List.mem_append_right _ (List.mem_append_right _ (List.mem_append_right _ (List.mem_append_right _ (List.mem_append_right _ (List.mem_append_right _ (List.mem_append_right _ (List.mem_append_right _ (List.mem_append_right _ (List.mem_append_right _ (List.mem_append_right _ (List.mem_append_right _ (List.mem_append_right _ (List.mem_append_right _ (List.mem_append_right _ (List.mem_append_right _ (List.mem_append_right _ (List.mem_append_right _ (List.mem_append_right _ (List.mem_append_right _ (List.mem_append_right _ (List.mem_append_right _ (List.mem_append_right _ (List.mem_append_right _ (List.mem_append_right _ (List.mem_append_left _ h)))))))))))))))))))))))))))))))))))))))
theorem wsL_law_r28_l {w : Cond} (h : w ∈ wsL_law_r28) : w ∈ wsL_law := (List.mem_append_left _ (List.mem_append_left _ (List.mem_append_left _ (List.mem_append_left _ (List.mem_append_left _ (List.mem_append_left _ (List.mem_append_left _ (List.mem_append_left _ (List.mem_append_left _ (List.mem_append_left _ (List.mem_append_left _ (List.mem_append_left _ (List.mem_append_right _ (List.mem_append_right _ (List.mem_append_right _ (List.mem_append_right _ (List.mem_append_right _ (List.mem_append_right _ (List.mem_append_right _ (List.mem_append_right _ (List.mem_append_right _ (List.mem_append_right _ (List.mem_append_right _ (List.mem_append_right _ (List.mem_append_right _ (List.mem_append_right _ (List.mem_append_right _ (List.mem_append_right _ (List.mem_append_right _ (List.mem_append_right _ (List.mem_append_right _ (List.mem_append_right _ (List.mem_append_right _ (List.mem_append_right _ (List.mem_append_right _ (List.mem_append_right _ (List.mem_append_right _ (List.mem_append_right _ (List.mem_append_right _ (List.mem_append_left _ h))))))))))))))))))))))))))))))))))))))))
theorem wsL_law_r29_l {w : Cond} (h : w ∈ wsL_law_r29) : w ∈ wsL_law := (List.mem_append_left _ (List.mem_append_left _ (List.mem_append_left _ (List.mem_append_left _ (List.mem_append_left _ (List.mem_append_left _ (List.mem_append_left _ (List.mem_append_left _ (List.mem_append_left _ (List.mem_append_left _ (List.mem_append_left _ (List.mem_append_left _ (List.mem_append_right _ (List.mem_append_right _ (List.mem_append_right _ (List.mem_append_right _ (List.mem_append_right _ (List.mem_append_right _ (List.mem_append_right _ (List.mem_append_right _ (List.mem_append_right _ (List.mem_append_right _ (List.mem_append_right _ (List.mem_append_right _ (List.mem_append_right _ (List.mem_append_right _ (List.mem_append_right _ (List.mem_append_right _ (List.mem_append_right _ (List.mem_append_right _ (List.mem_append_right _ (List.mem_append_right _ (List.mem_append_right _ (List.mem_append_right _ (List.mem_append_right _ (List.mem_append_right _ (List.mem_append_right _ (List.mem_append_right _ (List.mem_append_right _ (List.mem_append_right _ (List.mem_append_left _ h)))))))))))))))))))))))))))))))))))))))))
theorem wsL_law_r30_l {w : Cond} (h : w ∈ wsL_law_r30) : w ∈ wsL_law := (List.mem_append_left _ (List.mem_append_left _ (List.mem_append_left _ (List.mem_append_left _ (List.mem_append_left _ (List.mem_append_left _ (List.mem_append_left _ (List.mem_append_left _ (List.mem_append_left _ (List.mem_append_left _ (List.mem_append_left _ (List.mem_append_left _ (List.mem_append_right _ (List.mem_append_right _ (List.mem_append_right _ (List.mem_append_right _ (List.mem_append_right _ (List.mem_append_right _ (List.mem_append_right _ (List.mem_append_right _ (List.mem_append_right _ (List.mem_append_right _ (List.mem_append_right _ (List.mem_append_right _ (List.mem_append_right _ (List.mem_append_right _ (List.mem_append_right _ (List.mem_append_right _ (List.mem_append_right _ (List.mem_append_right _ (List.mem_append_right _ (List.mem_append_right _ (List.mem_append_right _ (List.mem_append_right _ (List.mem_append_right _ (List.mem_append_right _ (List.mem_append_right _ (List.mem_append_right _ (List.mem_append_right _ (List.mem_append_right _ (List.mem_append_right _ (List.mem_append_left _ h))))))))))))))))))))))))))))))))))))))))))
theorem wsL_law_r31_l {w : Cond} (h : w ∈ wsL_law_r31) : w ∈ wsL_law := (List.mem_append_left _ (List.mem_append_left _ (List.mem_append_left _ (List.mem_append_left _ (List.mem_append_left _ (List.mem_append_left _ (List.mem_append_left _ (List.mem_append_left _ (List.mem_append_left _ (List.mem_append_left _ (List.mem_append_left _ (List.mem_append_left _ (List.mem_append_right _ (List.mem_append_right _ (List.mem_append_right _ (List.mem_append_right _ (List.mem_append_right _ (List.mem_append_right _ (List.mem_append_right _ (List.mem_append_right _ (List.mem_append_right _ (List.mem_append_right _ (List.mem_append_right _ (List.mem_append_right _ (List.mem_append_right _ (List.mem_append_right _ (List.mem_append_right _ (List.mem_append_right _ (List.mem_append_right _ (List.mem_append_right _ (List.mem_append_right _ (List.mem_append_right _ (List.mem_append_right _ (List.mem_append_right _ (List.mem_append_right _ (List.mem_append_right _ (List.mem_append_right _ (List.mem_append_right _ (List.mem_append_right _ (List.mem_append_right _ (List.mem_append_right _ (List.mem_append_right _ (List.mem_append_left _ h)))))))))))))))))))))))))))))))))))))))))))
theorem wsL_law_r32_l {w : Cond} (h : w ∈ wsL_law_r32) : w ∈ wsL_law := (List.mem_append_left _ (List.mem_append_left _ (List.mem_append_left _ (List.mem_append_left _ (List.mem_append_left _ (List.mem_append_left _ (List.mem_append_left _ (List.mem_append_left _ (List.mem_append_left _ (List.mem_append_left _ (List.mem_append_left _ (List.mem_append_left _ (List.mem_append_right _ (List.mem_append_right _ (List.mem_append_right _ (List.mem_append_right _ (List.mem_append_right _ (List.mem_append_right _ (List.mem_append_right _ (List.mem_append_right _ (List.mem_append_right _ (List.mem_append_right _ (List.mem_append_right _ (List.mem_append_right _ (List.mem_append_right _ (List.mem_append_right _ (List.mem_append_right _ (List.mem_append_right _ (List.mem_append_right _ (List.mem_append_right _ (List.mem_append_right _ (List.mem_append_right _ (List.mem_append_right _ (List.mem_append_right _ (List.mem_append_right _ (List.mem_append_right _ (List.mem_append_right _ (List.mem_append_right _ (List.mem_append_right _ (List.mem_append_right _ (List.mem_append_right _ (List.mem_append_right _ (List.mem_append_right _ (List.mem_append_left _ h))))))))))))))))))))))))))))))))))))))))))))
theorem wsL_law_r33_l {w : Cond} (h : w ∈ wsL_law_r33) : w ∈ wsL_law := (List.mem_append_left _ (List.mem_append_left _ (List.mem_append_left _ (List.mem_append_left _ (List.mem_append_left _ (List.mem_append_left _ (List.mem_append_left _ (List.mem_append_left _ (List.mem_append_left _ (List.mem_append_left _ (List.mem_append_left _ (List.mem_append_left _ (List.mem_append_right _ (List.mem_append_right _ (List.mem_append_right _ (List.mem_append_right _ (List.mem_append_right _ (List.mem_append_right _ (List.mem_append_right _ (List.mem_append_right _ (List.mem_append_right _ (List.mem_append_right _ (List.mem_append_right _ (List.mem_append_right _ (List.mem_append_right _ (List.mem_append_right _ (List.mem_append_right _ (List.mem_append_right _ (List.mem_append_right _ (List.mem_append_right _ (List.mem_append_right _ (List.mem_append_right _ (List.mem_append_right _ (List.mem_append_right _ (List.mem_append_right _ (List.mem_append_right _ (List.mem_append_right _ (List.mem_append_right _ (List.mem_append_right _ (List.mem_append_right _ (List.mem_append_right _ (List.mem_append_right _ (List.mem_append_right _ (List.mem_append_right _ (List.mem_append_left _ h)))))))))))))))))))))))))))))))))))))))))))))
theorem wsL_law_r34_l {w : Cond} (h : w ∈ wsL_law_r34) : w ∈ wsL_law := (List.mem_append_left _ (List.mem_append_left _ (List.mem_append_left _ (List.mem_append_left _ (List.mem_append_left _ (List.mem_append_left _ (List.mem_append_left _ (List.mem_append_left _ (List.mem_append_left _ (List.mem_append_left _ (List.mem_append_left _ (List.mem_append_left _ (List.mem_append_right _ (List.mem_append_right _ (List.mem_append_right _ (List.mem_append_right _ (List.mem_append_right _ (List.mem_append_right _ (List.mem_append_right _ (List.mem_append_right _ (List.mem_append_right _ (List.mem_append_right _ (List.mem_append_right _ (List.mem_append_right _ (List.mem_append_right _ (List.mem_append_right _ (List.mem_append_right _ (List.mem_append_right _ (List.mem_append_right _ (List.mem_append_right _ (List.mem_append_right _ (List.mem_append_right _ (List.mem_append_right _ (List.mem_append_right _ (List.mem_append_right _ (List.mem_append_right _ (List.mem_append_right _ (List.mem_append_right _ (List.mem_append_right _ (List.mem_append_right _ (List.mem_append_right _ (List.mem_append_right _ (List.mem_append_right _ (List.mem_append_right _ (List.mem_append_right _ (List.mem_append_left _ h))))))))))))))))))))))))))))))))))))))))))))))
theorem wsL_law_r35_l {w : Cond} (h : w ∈ wsL_law_r35) : w ∈ wsL_law := (List.mem_append_left _ (List.mem_append_left _ (List.mem_append_left _ (List.mem_append_left _ (List.mem_append_left _ (List.mem_append_left _ (List.mem_append_left _ (List.mem_append_left _ (List.mem_append_left _ (List.mem_append_left _ (List.mem_append_left _ (List.mem_append_left _ (List.mem_append_right _ (List.mem_append_right _ (List.mem_append_right _ (List.mem_append_right _ (List.mem_append_right _ (List.mem_append_right _ (List.mem_append_right _ (List.mem_append_right _ (List.mem_append_right _ (List.mem_append_right _ (List.mem_append_right _ (List.mem_append_right _ (List.mem_append_right _ (List.mem_append_right _ (List.mem_append_right _ (List.mem_append_right _ (List.mem_append_right _ (List.mem_append_right _ (List.mem_append_right _ (List.mem_append_right _ (List.mem_append_right _ (List.mem_append_right _ (List.mem_append_right _ (List.mem_append_right _ (List.mem_append_right _ (List.mem_append_right _ (List.mem_append_right _ (List.mem_append_right _ (List.mem_append_right _ (List.mem_append_right _ (List.mem_append_right _ (List.mem_append_right _ (List.mem_append_right _ (List.mem_append_right _ (List.mem_append_left _ h)))))))))))))))))))))))))))))))))))))))))))))))
theorem wsL_law_r36_l {w : Cond} (h : w ∈ wsL_law_r36) : w ∈ wsL_law := (List.mem_append_left _ (List.mem_append_left _ (List.mem_append_left _ (List.mem_append_left _ (List.mem_append_left _ (List.mem_append_left _ (List.mem_append_left _ (List.mem_append_left _ (List.mem_append_left _ (List.mem_append_left _ (List.mem_append_left _ (List.mem_append_left _ (List.mem_append_right _ (List.mem_append_right _ (List.mem_append_right _ (List.mem_append_right _ (List.mem_append_right _ (List.mem_append_right _ (List.mem_append_right _ (List.mem_append_right _ (List.mem_append_right _ (List.mem_append_right _ (List.mem_append_right _ (List.mem_append_right _ (List.mem_append_right _ (List.mem_append_right _ (List.mem_append_right _ (List.mem_append_right _ (List.mem_append_right _ (List.mem_append_right _ (List.mem_append_right _ (List.mem_append_right _ (List.mem_append_right _ (List.mem_append_right _ (List.mem_append_right _ (List.mem_append_right _ (List.mem_append_right _ (List.mem_append_right _ (List.mem_append_right _ (List.mem_append_right _ (List.mem_append_right _ (List.mem_append_right _ (List.mem_append_right _ (List.mem_append_right _ (List.mem_append_right _ (List.mem_append_right _ (List.mem_append_right _ (List.mem_append_left _ h))))))))))))))))))))))))))))))))))))))))))))))))
theorem wsL_law_r37_l {w : Cond} (h : w ∈ wsL_law_r37) : w ∈ wsL_law := (List.mem_append_left _ (List.mem_append_left _ (List.mem_append_left _ (List.mem_append_left _ (List.mem_append_left _ (List.mem_append_left _ (List.mem_append_left _ (List.mem_append_left _ (List.mem_append_left _ (List.mem_append_left _ (List.mem_append_left _ (List.mem_append_left _ (List.mem_append_right _ (List.mem_append_right _ (List.mem_append_right _ (List.mem_append_right _ (List.mem_append_right _ (List.mem_append_right _ (List.mem_append_right _ (List.mem_append_right _ (List.mem_append_right _ (List.mem_append_right _ (List.mem_append_right _ (List.mem_append_right _ (List.mem_append_right _ (List.mem_append_right _ (List.mem_append_right _ (List.mem_append_right _ (List.mem_append_right _ (List.mem_append_right _ (List.mem_append_right _ (List.mem_append_right _ (List.mem_append_right _ (List.mem_append_right _ (List.mem_append_right _ (List.mem_append_right _ (List.mem_append_right _ (List.mem_append_right _ (List.mem_append_right _ (List.mem_append_right _ (List.mem_append_right _ (List.mem_append_right _ (List.mem_append_right _ (List.mem_append_right _ (List.mem_append_right _ (List.mem_append_right _ (List.mem_append_right _ (List.mem_append_right _ (List.mem_append_left _ h)))))))))))))))))))))))))))))))))))))))))))))))))
theorem wsL_law_r38_l {w : Cond} (h : w ∈ wsL_law_r38) : w ∈ wsL_law := (List.mem_append_left _ (List.mem_append_left _ (List.mem_append_left _ (List.mem_append_left _ (List.mem_append_left _ (List.mem_append_left _ (List.mem_append_left _ (List.mem_append_left _ (List.mem_append_left _ (List.mem_append_left _ (List.mem_append_left _ (List.mem_append_left _ (List.mem_append_right _ (List.mem_append_right _ (List.mem_append_right _ (List.mem_append_right _ (List.mem_append_right _ (List.mem_append_right _ (List.mem_append_right _ (List.mem_append_right _ (List.mem_append_right _ (List.mem_append_right _ (List.mem_append_right _ (List.mem_append_right _ (List.mem_append_right _ (List.mem_append_right _ (List.mem_append_right _ (List.mem_append_right _ (List.mem_append_right _ (List.mem_append_right _ (List.mem_append_right _ (List.mem_append_right _ (List.mem_append_right _ (List.mem_append_right _ (List.mem_append_right _ (List.mem_append_right _ (List.mem_append_right _ (List.mem_append_right _ (List.mem_append_right _ (List.mem_append_right _ (List.mem_append_right _ (List.mem_append_right _ (List.mem_append_right _ (List.mem_append_right _ (List.mem_append_right _ (List.mem_append_right _ (List.mem_append_right _ (List.mem_append_right _ (List.mem_append_right _ (List.mem_append_left _ h))))))))))))))))))))))))))))))))))))))))))))))))))
theorem wsL_law_r39_l {w : Cond} (h : w ∈ wsL_law_r39) : w ∈ wsL_law := (List.mem_append_left _ (List.mem_append_left _ (List.mem_append_left _ (List.mem_append_left _ (List.mem_append_left _ (List.mem_append_left _ (List.mem_append_left _ (List.mem_append_left _ (List.mem_append_left _ (List.mem_append_left _ (List.mem_append_left _ (List.mem_append_left _ (List.mem_append_right _ (List.mem_append_right _ (List.mem_append_right _ (List.mem_append_right _ (List.mem_append_right _ (List.mem_append_right _ (List.mem_append_right _ (List.mem_append_right _ (List.mem_append_right _ (List.mem_append_right _ (List.mem_append_right _ (List.mem_append_right _ (List.mem_append_right _ (List.mem_append_right _ (List.mem_append_right _ (List.mem_append_right _ (List.mem_append_right _ (List.mem_append_right _ (List.mem_append_right _ (List.mem_append_right _ (List.mem_append_right _ (List.mem_append_right _ (List.mem_append_right _ (List.mem_append_right _ (List.mem_append_right _ (List.mem_append_right _ (List.mem_append_right _ (List.mem_append_right _ (List.mem_append_right _ (List.mem_append_right _ (List.mem_append_right _ (List.mem_append_right _ (List.mem_append_right _ (List.mem_append_right _ (List.mem_append_right _ (List.mem_append_right _ (List.mem_append_right _ (List.mem_append_right _ (List.mem_append_left _ h)))))))))))))))))))))))))))))))))))))))))))))))))))
theorem wsL_law_r40_l {w : Cond} (h : w ∈ wsL_law_r40) : w ∈ wsL_law := (List.mem_append_left _ (List.mem_append_left _ (List.mem_append_left _ (List.mem_append_left _ (List.mem_append_left _ (List.mem_append_left _ (List.mem_append_left _ (List.mem_append_left _ (List.mem_append_left _ (List.mem_append_left _ (List.mem_append_left _ (List.mem_append_left _ (List.mem_append_right _ (List.mem_append_right _ (List.mem_append_right _ (List.mem_append_right _ (List.mem_append_right _ (List.mem_append_right _ (List.mem_append_right _ (List.mem_append_right _ (List.mem_append_right _ (List.mem_append_right _ (List.mem_append_right _ (List.mem_append_right _ (List.mem_append_right _ (List.mem_append_right _ (List.mem_append_right _ (List.mem_append_right _ (List.mem_append_right _ (List.mem_append_right _ (List.mem_append_right _ (List.mem_append_right _ (List.mem_append_right _ (List.mem_append_right _ (List.mem_append_right _ (List.mem_append_right _ (List.mem_append_right _ (List.mem_append_right _ (List.mem_append_right _ (List.mem_append_right _ (List.mem_append_right _ (List.mem_append_right _ (List.mem_append_right _ (List.mem_append_right _ (List.mem_append_right _ (List.mem_append_right _ (List.mem_append_right _ (List.mem_append_right _ (List.mem_append_right _ (List.mem_append_right _ (List.mem_append_right _ (List.mem_append_left _ h))))))))))))))))))))))))))))))))))))))))))))))))))))
theorem wsL_law_r41_l {w : Cond} (h : w ∈ wsL_law_r41) : w ∈ wsL_law := (List.mem_append_left _ (List.mem_append_left _ (List.mem_append_left _ (List.mem_append_left _ (List.mem_append_left _ (List.mem_append_left _ (List.mem_append_left _ (List.mem_append_left _ (List.mem_append_left _ (List.mem_append_left _ (List.mem_append_left _ (List.mem_append_left _ (List.mem_append_right _ (List.mem_append_right _ (List.mem_append_right _ (List.mem_append_right _ (List.mem_append_right _ (List.mem_append_right _ (List.mem_append_right _ (List.mem_append_right _ (List.mem_append_right _ (List.mem_append_right _ (List.mem_append_right _ (List.mem_append_right _ (List.mem_append_right _ (List.mem_append_right _ (List.mem_append_right _ (List.mem_append_right _ (List.mem_append_right _ (List.mem_append_right _ (List.mem_append_right _ (List.mem_append_right _ (List.mem_append_right _ (List.mem_append_right _ (List.mem_append_right _ (List.mem_append_right _ (List.mem_append_right _ (List.mem_append_right _ (List.mem_append_right _ (List.mem_append_right _ (List.mem_append_right _ (List.mem_append_right _ (List.mem_append_right _ (List.mem_append_right _ (List.mem_append_right _ (List.mem_append_right _ (List.mem_append_right _ (List.mem_append_right _ (List.mem_append_right _ (List.mem_append_right _ (List.mem_append_right _ (List.mem_append_right _ h))))))))))))))))))))))))))))))))))))))))))))))))))))
theorem inlX0 : ∀ w ∈ wsX00, w ∈ wsL_law := fun _ h => List.mem_append_left _ (List.mem_append_left _ (List.mem_append_left _ (List.mem_append_left _ (List.mem_append_left _ (List.mem_append_right _ h)))))
theorem inX0 : ∀ w ∈ wsX00, w ∈ lw_tbl := fun w h => wsL_law_in w (inlX0 w h)
theorem inlX1 : ∀ w ∈ wsX10, w ∈ wsL_law := fun _ h => List.mem_append_left _ (List.mem_append_left _ (List.mem_append_right _ h))
theorem inX1 : ∀ w ∈ wsX10, w ∈ lw_tbl := fun w h => wsL_law_in w (inlX1 w h)
theorem inlX2 : ∀ w ∈ wsX20, w ∈ wsL_law := fun _ h => List.mem_append_left _ (List.mem_append_left _ (List.mem_append_left _ (List.mem_append_left _ (List.mem_append_left _ (List.mem_append_left _ (List.mem_append_left _ (List.mem_append_right _ h)))))))
theorem inX2 : ∀ w ∈ wsX20, w ∈ lw_tbl := fun w h => wsL_law_in w (inlX2 w h)
theorem inlX3 : ∀ w ∈ wsX30, w ∈ wsL_law := fun _ h => List.mem_append_left _ (List.mem_append_left _ (List.mem_append_left _ (List.mem_append_left _ (List.mem_append_left _ (List.mem_append_left _ (List.mem_append_right _ h))))))
theorem inX3 : ∀ w ∈ wsX30, w ∈ lw_tbl := fun w h => wsL_law_in w (inlX3 w h)
theorem inlX4 : ∀ w ∈ wsX40, w ∈ wsL_law := fun _ h => List.mem_append_left _ (List.mem_append_left _ (List.mem_append_left _ (List.mem_append_left _ (List.mem_append_left _ (List.mem_append_left _ (List.mem_append_left _ (List.mem_append_left _ (List.mem_append_right _ h))))))))
theorem inX4 : ∀ w ∈ wsX40, w ∈ lw_tbl := fun w h => wsL_law_in w (inlX4 w h)
theorem inlX5 : ∀ w ∈ wsX50, w ∈ wsL_law := fun _ h => List.mem_append_left _ (List.mem_append_left _ (List.mem_append_left _ (List.mem_append_left _ (List.mem_append_right _ h))))
theorem inX5 : ∀ w ∈ wsX50, w ∈ lw_tbl := fun w h => wsL_law_in w (inlX5 w h)
theorem inlX6 : ∀ w ∈ wsX60, w ∈ wsL_law := fun _ h => List.mem_append_left _ (List.mem_append_left _ (List.mem_append_left _ (List.mem_append_right _ h)))
theorem inX6 : ∀ w ∈ wsX60, w ∈ lw_tbl := fun w h => wsL_law_in w (inlX6 w h)
theorem inlX7 : ∀ w ∈ wsX70, w ∈ wsL_law := fun _ h => List.mem_append_left _ (List.mem_append_right _ h)
theorem inX7 : ∀ w ∈ wsX70, w ∈ lw_tbl := fun w h => wsL_law_in w (inlX7 w h)
theorem inlX8 : ∀ w ∈ wsX80, w ∈ wsL_law := fun _ h => List.mem_append_left _ (List.mem_append_left _ (List.mem_append_left _ (List.mem_append_left _ (List.mem_append_left _ (List.mem_append_left _ (List.mem_append_left _ (List.mem_append_left _ (List.mem_append_left _ (List.mem_append_right _ h)))))))))
theorem inX8 : ∀ w ∈ wsX80, w ∈ lw_tbl := fun w h => wsL_law_in w (inlX8 w h)
theorem inlX9 : ∀ w ∈ wsX90, w ∈ wsL_law := fun _ h => List.mem_append_left _ (List.mem_append_left _ (List.mem_append_left _ (List.mem_append_left _ (List.mem_append_left _ (List.mem_append_left _ (List.mem_append_left _ (List.mem_append_left _ (List.mem_append_left _ (List.mem_append_left _ (List.mem_append_left _ (List.mem_append_right _ h)))))))))))
theorem inX9 : ∀ w ∈ wsX90, w ∈ lw_tbl := fun w h => wsL_law_in w (inlX9 w h)
theorem inlX10 : ∀ w ∈ wsX100, w ∈ wsL_law := fun _ h => List.mem_append_left _ (List.mem_append_left _ (List.mem_append_left _ (List.mem_append_left _ (List.mem_append_left _ (List.mem_append_left _ (List.mem_append_left _ (List.mem_append_left _ (List.mem_append_left _ (List.mem_append_left _ (List.mem_append_right _ h))))))))))
theorem inX10 : ∀ w ∈ wsX100, w ∈ lw_tbl := fun w h => wsL_law_in w (inlX10 w h)
theorem inJ9 : ∀ w ∈ wsJ90, w ∈ lw_tbl := by decide +kernel
theorem inJ0 : ∀ w ∈ wsJ00, w ∈ lw_tbl := by decide +kernel
theorem inJ1 : ∀ w ∈ wsJ10, w ∈ lw_tbl := by decide +kernel
theorem inJ2 : ∀ w ∈ wsJ20, w ∈ lw_tbl := by decide +kernel
theorem inJ10 : ∀ w ∈ wsJ100, w ∈ lw_tbl := by decide +kernel
theorem inJ3 : ∀ w ∈ wsJ30, w ∈ lw_tbl := by decide +kernel
abbrev vwCl : List vw_C := [(RX0, TX0, 2), (RX1, TX1, 2), (RX2, TX2, 15), (RX3, TX3, 6), (RX4, TX4, 2), (RX5, TX5, 10), (RX6, TX6, 2), (RX7, TX7, 5), (RX8, TX8, 2), (RX9, TX9, 12), (RX10, TX10, 44)]
end
section
abbrev zT : Type := List (Nat × Instr × Nat)
def ztok (b : ByteArray) (t : zT) : Bool := t.all (fun e => decide (decode b e.1 = .ok e.2))
theorem ztok_at {b : ByteArray} {t : zT} (h : ztok b t = true) {k pc len : Nat} {i : Instr} (hk : t[k]? = some (pc, i, len)) : decode b pc = .ok (i, len) := by
  have h1 := List.all_eq_true.mp h _ (List.mem_of_getElem? hk)
  exact decide_eq_true_iff.mp h1
def tX0_init : zT := [(0, .aload_n 0, 1), (1, .invokespecial 3, 3), (4, .aload_n 0, 1), (5, .bipush 6, 2), (7, .newarray .int, 2), (9, .putfield 9, 3), (12, .aload_n 0, 1), (13, .aload_n 1, 1), (14, .putfield 15, 3), (17, .return_, 1)]
theorem tX0_init_ok : ztok cX0_init tX0_init = true := by decide +kernel
def tX0_area : zT := [(0, .iconst 0, 1), (1, .istore_n 2, 1), (2, .iconst 0, 1), (3, .istore_n 3, 1), (4, .iload_n 3, 1), (5, .aload_n 0, 1), (6, .getfield 15, 3), (9, .getfield 19, 3), (12, .if_icmp .ge 56, 3), (15, .ldc 25, 2), (17, .istore 4, 2), (19, .iconst 1, 1), (20, .istore 5, 2), (22, .iload 5, 2), (24, .aload_n 0, 1), (25, .getfield 15, 3), (28, .getfield 26, 3), (31, .if_icmp .gt 26, 3), (34, .iload 4, 2), (36, .iload 5, 2), (38, .aload_n 1, 1), (39, .iload_n 3, 1), (40, .iload 5, 2), (42, .invokevirtual 29, 3), (45, .imul, 1), (46, .invokestatic 35, 3), (49, .istore 4, 2), (51, .iinc 5 1, 3), (54, .goto (-32), 3), (57, .iload_n 2, 1), (58, .iload 4, 2), (60, .iadd, 1), (61, .istore_n 2, 1), (62, .iinc 3 1, 3), (65, .goto (-61), 3), (68, .iload_n 2, 1), (69, .aload_n 0, 1), (70, .getfield 15, 3), (73, .getfield 26, 3), (76, .invokestatic 40, 3), (79, .ireturn, 1)]
theorem tX0_area_ok : ztok cX0_area tX0_area = true := by decide +kernel
def tX0_path : zT := [(0, .iconst 0, 1), (1, .istore_n 2, 1), (2, .iconst 0, 1), (3, .istore_n 3, 1), (4, .iload_n 3, 1), (5, .aload_n 0, 1), (6, .getfield 15, 3), (9, .getfield 19, 3), (12, .if_icmp .ge 81, 3), (15, .iconst 0, 1), (16, .istore 4, 2), (18, .iconst 0, 1), (19, .istore 5, 2), (21, .iload 5, 2), (23, .iload_n 3, 1), (24, .if_icmp .ge 38, 3), (27, .aload_n 1, 1), (28, .getfield 43, 3), (31, .iload_n 3, 1), (32, .iaload, 1), (33, .iload 5, 2), (35, .ishr, 1), (36, .iconst 1, 1), (37, .iand, 1), (38, .iconst 1, 1), (39, .if_icmp .ne 17, 3), (42, .iload 4, 2), (44, .aload_n 0, 1), (45, .getfield 9, 3), (48, .iload 5, 2), (50, .iaload, 1), (51, .invokestatic 46, 3), (54, .istore 4, 2), (56, .iinc 5 1, 3), (59, .goto (-38), 3), (62, .aload_n 0, 1), (63, .getfield 9, 3), (66, .iload_n 3, 1), (67, .iload 4, 2), (69, .aload_n 1, 1), (70, .iload_n 3, 1), (71, .invokevirtual 49, 3), (74, .iadd, 1), (75, .iastore, 1), (76, .iload_n 2, 1), (77, .aload_n 0, 1), (78, .getfield 9, 3), (81, .iload_n 3, 1), (82, .iaload, 1), (83, .invokestatic 46, 3), (86, .istore_n 2, 1), (87, .iinc 3 1, 3), (90, .goto (-86), 3), (93, .iload_n 2, 1), (94, .ireturn, 1)]
theorem tX0_path_ok : ztok cX0_path tX0_path = true := by decide +kernel
def tX0_drawn : zT := [(0, .iconst 0, 1), (1, .istore_n 2, 1), (2, .iconst 0, 1), (3, .istore_n 3, 1), (4, .iload_n 3, 1), (5, .aload_n 0, 1), (6, .getfield 15, 3), (9, .getfield 19, 3), (12, .if_icmp .ge 27, 3), (15, .iload_n 2, 1), (16, .aload_n 1, 1), (17, .iload_n 3, 1), (18, .invokevirtual 49, 3), (21, .aload_n 0, 1), (22, .getfield 15, 3), (25, .getfield 53, 3), (28, .iload_n 3, 1), (29, .iaload, 1), (30, .imul, 1), (31, .iadd, 1), (32, .istore_n 2, 1), (33, .iinc 3 1, 3), (36, .goto (-32), 3), (39, .iload_n 2, 1), (40, .aload_n 0, 1), (41, .getfield 15, 3), (44, .getfield 56, 3), (47, .invokestatic 40, 3), (50, .ireturn, 1)]
theorem tX0_drawn_ok : ztok cX0_drawn tX0_drawn = true := by decide +kernel
def tX0_greatest : zT := [(0, .aload_n 0, 1), (1, .aload_n 1, 1), (2, .invokevirtual 59, 3), (5, .aload_n 0, 1), (6, .aload_n 1, 1), (7, .invokevirtual 63, 3), (10, .invokestatic 46, 3), (13, .aload_n 0, 1), (14, .aload_n 1, 1), (15, .invokevirtual 66, 3), (18, .invokestatic 46, 3), (21, .ireturn, 1)]
theorem tX0_greatest_ok : ztok cX0_greatest tX0_greatest = true := by decide +kernel
def tX0_upward : zT := [(0, .iload_n 1, 1), (1, .iconst 1, 1), (2, .if_icmp .ge 8, 3), (5, .bipush (-4), 2), (7, .goto 10, 3), (10, .iload_n 0, 1), (11, .iload_n 1, 1), (12, .iadd, 1), (13, .iconst 1, 1), (14, .isub, 1), (15, .iload_n 1, 1), (16, .idiv, 1), (17, .ireturn, 1)]
theorem tX0_upward_ok : ztok cX0_upward tX0_upward = true := by decide +kernel
def tX1_init : zT := [(0, .aload_n 0, 1), (1, .invokespecial 3, 3), (4, .aload_n 0, 1), (5, .iconst 4, 1), (6, .newarray .int, 2), (8, .putfield 9, 3), (11, .aload_n 0, 1), (12, .iconst 0, 1), (13, .putfield 15, 3), (16, .return_, 1)]
theorem tX1_init_ok : ztok cX1_init tX1_init = true := by decide +kernel
def tX1_clear : zT := [(0, .aload_n 0, 1), (1, .iconst 0, 1), (2, .putfield 15, 3), (5, .return_, 1)]
theorem tX1_clear_ok : ztok cX1_clear tX1_clear = true := by decide +kernel
def tX1_ofPut : zT := [(0, .aload_n 0, 1), (1, .invokevirtual 19, 3), (4, .aload_n 0, 1), (5, .iload_n 1, 1), (6, .iload_n 2, 1), (7, .iload_n 3, 1), (8, .invokevirtual 22, 3), (11, .return_, 1)]
theorem tX1_ofPut_ok : ztok cX1_ofPut tX1_ofPut = true := by decide +kernel
def tX1_ofFill : zT := [(0, .aload_n 0, 1), (1, .getfield 9, 3), (4, .iconst 0, 1), (5, .bipush 20, 2), (7, .iload_n 1, 1), (8, .iadd, 1), (9, .iastore, 1), (10, .aload_n 0, 1), (11, .iconst 1, 1), (12, .putfield 15, 3), (15, .aload_n 0, 1), (16, .iload_n 2, 1), (17, .iload_n 3, 1), (18, .iload 4, 2), (20, .invokevirtual 22, 3), (23, .return_, 1)]
theorem tX1_ofFill_ok : ztok cX1_ofFill tX1_ofFill = true := by decide +kernel
def tX1_addThree : zT := [(0, .aload_n 0, 1), (1, .getfield 15, 3), (4, .iconst 3, 1), (5, .iadd, 1), (6, .aload_n 0, 1), (7, .getfield 9, 3), (10, .arraylength, 1), (11, .if_icmp .le 4, 3), (14, .return_, 1), (15, .aload_n 0, 1), (16, .getfield 9, 3), (19, .aload_n 0, 1), (20, .getfield 15, 3), (23, .bipush 10, 2), (25, .iload_n 1, 1), (26, .iadd, 1), (27, .iastore, 1), (28, .aload_n 0, 1), (29, .getfield 9, 3), (32, .aload_n 0, 1), (33, .getfield 15, 3), (36, .iconst 1, 1), (37, .iadd, 1), (38, .iload_n 2, 1), (39, .iastore, 1), (40, .aload_n 0, 1), (41, .getfield 9, 3), (44, .aload_n 0, 1), (45, .getfield 15, 3), (48, .iconst 2, 1), (49, .iadd, 1), (50, .iload_n 3, 1), (51, .iastore, 1), (52, .aload_n 0, 1), (53, .dup, 1), (54, .getfield 15, 3), (57, .iconst 3, 1), (58, .iadd, 1), (59, .putfield 15, 3), (62, .return_, 1)]
theorem tX1_addThree_ok : ztok cX1_addThree tX1_addThree = true := by decide +kernel
def tX1_number : zT := [(0, .iload_n 1, 1), (1, .ifCond .lt 20, 3), (4, .iload_n 1, 1), (5, .aload_n 0, 1), (6, .getfield 15, 3), (9, .if_icmp .ge 12, 3), (12, .aload_n 0, 1), (13, .getfield 9, 3), (16, .iload_n 1, 1), (17, .iaload, 1), (18, .goto 5, 3), (21, .bipush (-4), 2), (23, .ireturn, 1)]
theorem tX1_number_ok : ztok cX1_number tX1_number = true := by decide +kernel
def tX2_init : zT := [(0, .aload_n 0, 1), (1, .invokespecial 3, 3), (4, .aload_n 0, 1), (5, .bipush 6, 2), (7, .newarray .int, 2), (9, .putfield 9, 3), (12, .aload_n 0, 1), (13, .bipush 6, 2), (15, .newarray .int, 2), (17, .putfield 15, 3), (20, .aload_n 0, 1), (21, .bipush 6, 2), (23, .newarray .int, 2), (25, .putfield 18, 3), (28, .aload_n 0, 1), (29, .bipush 6, 2), (31, .newarray .int, 2), (33, .putfield 21, 3), (36, .aload_n 0, 1), (37, .bipush 6, 2), (39, .bipush 6, 2), (41, .multianewarray 24 2, 4), (45, .putfield 26, 3), (48, .aload_n 0, 1), (49, .bipush 8, 2), (51, .newarray .int, 2), (53, .putfield 29, 3), (56, .aload_n 0, 1), (57, .bipush 8, 2), (59, .newarray .int, 2), (61, .putfield 32, 3), (64, .aload_n 0, 1), (65, .bipush 6, 2), (67, .bipush 9, 2), (69, .multianewarray 24 2, 4), (73, .putfield 35, 3), (76, .aload_n 0, 1), (77, .bipush 6, 2), (79, .bipush 54, 2), (81, .multianewarray 24 2, 4), (85, .putfield 38, 3), (88, .aload_n 0, 1), (89, .bipush 8, 2), (91, .newarray .int, 2), (93, .putfield 41, 3), (96, .aload_n 0, 1), (97, .bipush 6, 2), (99, .newarray .int, 2), (101, .putfield 44, 3), (104, .return_, 1)]
theorem tX2_init_ok : ztok cX2_init tX2_init = true := by decide +kernel
def tX2_clear : zT := [(0, .aload_n 0, 1), (1, .iconst 4, 1), (2, .putfield 47, 3), (5, .aload_n 0, 1), (6, .bipush 20, 2), (8, .putfield 51, 3), (11, .aload_n 0, 1), (12, .iconst 0, 1), (13, .putfield 54, 3), (16, .aload_n 0, 1), (17, .iconst 0, 1), (18, .putfield 57, 3), (21, .return_, 1)]
theorem tX2_clear_ok : ztok cX2_clear tX2_clear = true := by decide +kernel
def tX2_layChains : zT := [(0, .iconst 0, 1), (1, .istore_n 1, 1), (2, .iload_n 1, 1), (3, .aload_n 0, 1), (4, .getfield 54, 3), (7, .if_icmp .ge 36, 3), (10, .aload_n 0, 1), (11, .iload_n 1, 1), (12, .invokevirtual 60, 3), (15, .iconst 1, 1), (16, .istore_n 2, 1), (17, .iload_n 2, 1), (18, .aload_n 0, 1), (19, .getfield 47, 3), (22, .if_icmp .gt 15, 3), (25, .aload_n 0, 1), (26, .iload_n 1, 1), (27, .iload_n 2, 1), (28, .invokevirtual 64, 3), (31, .iinc 2 1, 3), (34, .goto (-17), 3), (37, .iinc 1 1, 3), (40, .goto (-38), 3), (43, .return_, 1)]
theorem tX2_layChains_ok : ztok cX2_layChains tX2_layChains = true := by decide +kernel
def tX2_orderChains : zT := [(0, .iconst 0, 1), (1, .istore_n 2, 1), (2, .iload_n 2, 1), (3, .aload_n 0, 1), (4, .getfield 21, 3), (7, .iload_n 1, 1), (8, .iaload, 1), (9, .if_icmp .ge 68, 3), (12, .iload_n 2, 1), (13, .istore_n 3, 1), (14, .iload_n 3, 1), (15, .ifCond .le 49, 3), (18, .aload_n 0, 1), (19, .getfield 26, 3), (22, .iload_n 1, 1), (23, .aaload, 1), (24, .aload_n 0, 1), (25, .getfield 44, 3), (28, .iload_n 3, 1), (29, .iconst 1, 1), (30, .isub, 1), (31, .iaload, 1), (32, .iaload, 1), (33, .aload_n 0, 1), (34, .getfield 26, 3), (37, .iload_n 1, 1), (38, .aaload, 1), (39, .iload_n 2, 1), (40, .iaload, 1), (41, .if_icmp .ge 23, 3), (44, .aload_n 0, 1), (45, .getfield 44, 3), (48, .iload_n 3, 1), (49, .aload_n 0, 1), (50, .getfield 44, 3), (53, .iload_n 3, 1), (54, .iconst 1, 1), (55, .isub, 1), (56, .iaload, 1), (57, .iastore, 1), (58, .iinc 3 (-1), 3), (61, .goto (-47), 3), (64, .aload_n 0, 1), (65, .getfield 44, 3), (68, .iload_n 3, 1), (69, .iload_n 2, 1), (70, .iastore, 1), (71, .iinc 2 1, 3), (74, .goto (-72), 3), (77, .return_, 1)]
theorem tX2_orderChains_ok : ztok cX2_orderChains tX2_orderChains = true := by decide +kernel
def tX2_layAt : zT := [(0, .aload_n 0, 1), (1, .invokevirtual 68, 3), (4, .iconst 0, 1), (5, .istore_n 3, 1), (6, .iconst 0, 1), (7, .istore 4, 2), (9, .iload 4, 2), (11, .aload_n 0, 1), (12, .getfield 21, 3), (15, .iload_n 1, 1), (16, .iaload, 1), (17, .if_icmp .ge 72, 3), (20, .aload_n 0, 1), (21, .getfield 44, 3), (24, .iload 4, 2), (26, .iaload, 1), (27, .istore 5, 2), (29, .aload_n 0, 1), (30, .iload_n 2, 1), (31, .invokevirtual 71, 3), (34, .istore 6, 2), (36, .aload_n 0, 1), (37, .getfield 41, 3), (40, .iload 6, 2), (42, .dup2, 1), (43, .iaload, 1), (44, .aload_n 0, 1), (45, .getfield 26, 3), (48, .iload_n 1, 1), (49, .aaload, 1), (50, .iload 5, 2), (52, .iaload, 1), (53, .iadd, 1), (54, .iastore, 1), (55, .aload_n 0, 1), (56, .getfield 38, 3), (59, .iload_n 1, 1), (60, .aaload, 1), (61, .iload_n 2, 1), (62, .bipush 6, 2), (64, .imul, 1), (65, .iload 5, 2), (67, .iadd, 1), (68, .iload 6, 2), (70, .iastore, 1), (71, .iload_n 3, 1), (72, .aload_n 0, 1), (73, .getfield 41, 3), (76, .iload 6, 2), (78, .iaload, 1), (79, .invokestatic 75, 3), (82, .istore_n 3, 1), (83, .iinc 4 1, 3), (86, .goto (-77), 3), (89, .aload_n 0, 1), (90, .getfield 35, 3), (93, .iload_n 1, 1), (94, .aaload, 1), (95, .iload_n 2, 1), (96, .iload_n 3, 1), (97, .iastore, 1), (98, .return_, 1)]
theorem tX2_layAt_ok : ztok cX2_layAt tX2_layAt = true := by decide +kernel
def tX2_clearLoads : zT := [(0, .iconst 0, 1), (1, .istore_n 1, 1), (2, .iload_n 1, 1), (3, .aload_n 0, 1), (4, .getfield 41, 3), (7, .arraylength, 1), (8, .if_icmp .ge 16, 3), (11, .aload_n 0, 1), (12, .getfield 41, 3), (15, .iload_n 1, 1), (16, .iconst 0, 1), (17, .iastore, 1), (18, .iinc 1 1, 3), (21, .goto (-19), 3), (24, .return_, 1)]
theorem tX2_clearLoads_ok : ztok cX2_clearLoads tX2_clearLoads = true := by decide +kernel
def tX2_leastLoaded : zT := [(0, .iconst 0, 1), (1, .istore_n 2, 1), (2, .iconst 1, 1), (3, .istore_n 3, 1), (4, .iload_n 3, 1), (5, .iload_n 1, 1), (6, .if_icmp .ge 26, 3), (9, .aload_n 0, 1), (10, .getfield 41, 3), (13, .iload_n 3, 1), (14, .iaload, 1), (15, .aload_n 0, 1), (16, .getfield 41, 3), (19, .iload_n 2, 1), (20, .iaload, 1), (21, .if_icmp .ge 5, 3), (24, .iload_n 3, 1), (25, .istore_n 2, 1), (26, .iinc 3 1, 3), (29, .goto (-25), 3), (32, .iload_n 2, 1), (33, .ireturn, 1)]
theorem tX2_leastLoaded_ok : ztok cX2_leastLoaded tX2_leastLoaded = true := by decide +kernel
def tX2_idealLoad : zT := [(0, .aload_n 0, 1), (1, .invokevirtual 68, 3), (4, .aload_n 0, 1), (5, .iload_n 1, 1), (6, .iload_n 2, 1), (7, .iconst 0, 1), (8, .iconst 0, 1), (9, .aload_n 0, 1), (10, .getfield 35, 3), (13, .iload_n 1, 1), (14, .aaload, 1), (15, .iload_n 2, 1), (16, .iaload, 1), (17, .invokestatic 81, 3), (20, .ireturn, 1)]
theorem tX2_idealLoad_ok : ztok cX2_idealLoad tX2_idealLoad = true := by decide +kernel
def tX2_leastLoad : zT := [(0, .iload 4, 2), (2, .iload 5, 2), (4, .if_icmp .lt 6, 3), (7, .iload 5, 2), (9, .ireturn, 1), (10, .iload_n 3, 1), (11, .aload_n 0, 1), (12, .getfield 21, 3), (15, .iload_n 1, 1), (16, .iaload, 1), (17, .if_icmp .ge 9, 3), (20, .iload_n 3, 1), (21, .bipush 6, 2), (23, .if_icmp .lt 6, 3), (26, .iload 4, 2), (28, .ireturn, 1), (29, .aload_n 0, 1), (30, .getfield 26, 3), (33, .iload_n 1, 1), (34, .aaload, 1), (35, .iload_n 3, 1), (36, .iaload, 1), (37, .istore 6, 2), (39, .iload 5, 2), (41, .istore 7, 2), (43, .iconst 0, 1), (44, .istore 8, 2), (46, .iload 8, 2), (48, .iload_n 2, 1), (49, .if_icmp .ge 75, 3), (52, .aload_n 0, 1), (53, .getfield 41, 3), (56, .iload 8, 2), (58, .dup2, 1), (59, .iaload, 1), (60, .iload 6, 2), (62, .iadd, 1), (63, .iastore, 1), (64, .iload 4, 2), (66, .aload_n 0, 1), (67, .getfield 41, 3), (70, .iload 8, 2), (72, .iaload, 1), (73, .invokestatic 75, 3), (76, .istore 9, 2), (78, .aload_n 0, 1), (79, .iload_n 1, 1), (80, .iload_n 2, 1), (81, .iload_n 3, 1), (82, .iconst 1, 1), (83, .iadd, 1), (84, .iload 9, 2), (86, .iload 7, 2), (88, .invokestatic 81, 3), (91, .istore 7, 2), (93, .aload_n 0, 1), (94, .getfield 41, 3), (97, .iload 8, 2), (99, .dup2, 1), (100, .iaload, 1), (101, .iload 6, 2), (103, .isub, 1), (104, .iastore, 1), (105, .aload_n 0, 1), (106, .getfield 41, 3), (109, .iload 8, 2), (111, .iaload, 1), (112, .ifCond .ne 6, 3), (115, .goto 9, 3), (118, .iinc 8 1, 3), (121, .goto (-75), 3), (124, .iload 7, 2), (126, .ireturn, 1)]
theorem tX2_leastLoad_ok : ztok cX2_leastLoad tX2_leastLoad = true := by decide +kernel
def tX2_takes : zT := [(0, .aload_n 0, 1), (1, .getfield 15, 3), (4, .iload_n 1, 1), (5, .iaload, 1), (6, .istore 4, 2), (8, .aload_n 0, 1), (9, .getfield 35, 3), (12, .iload_n 1, 1), (13, .aaload, 1), (14, .iload_n 3, 1), (15, .iaload, 1), (16, .istore 5, 2), (18, .iload 4, 2), (20, .iload 5, 2), (22, .iconst 1, 1), (23, .iadd, 1), (24, .imul, 1), (25, .iload 5, 2), (27, .iadd, 1), (28, .istore 6, 2), (30, .iload 6, 2), (32, .iload 4, 2), (34, .iload 5, 2), (36, .imul, 1), (37, .iadd, 1), (38, .istore 7, 2), (40, .iload_n 2, 1), (41, .tableswitch 41 0 2 #[27, 30, 33], 27), (68, .iload 6, 2), (70, .ireturn, 1), (71, .iload 7, 2), (73, .ireturn, 1), (74, .iload 6, 2), (76, .bipush 60, 2), (78, .invokestatic 75, 3), (81, .ireturn, 1), (82, .iload 7, 2), (84, .iconst 1, 1), (85, .iadd, 1), (86, .iconst 2, 1), (87, .idiv, 1), (88, .ireturn, 1)]
theorem tX2_takes_ok : ztok cX2_takes tX2_takes = true := by decide +kernel
def tX3_init : zT := [(0, .aload_n 0, 1), (1, .invokespecial 3, 3), (4, .aload_n 0, 1), (5, .bipush 6, 2), (7, .newarray .int, 2), (9, .putfield 9, 3), (12, .aload_n 0, 1), (13, .bipush 6, 2), (15, .newarray .int, 2), (17, .putfield 15, 3), (20, .aload_n 0, 1), (21, .bipush 6, 2), (23, .newarray .int, 2), (25, .putfield 18, 3), (28, .aload_n 0, 1), (29, .bipush 6, 2), (31, .newarray .int, 2), (33, .putfield 21, 3), (36, .aload_n 0, 1), (37, .bipush 6, 2), (39, .newarray .int, 2), (41, .putfield 24, 3), (44, .aload_n 0, 1), (45, .aload_n 1, 1), (46, .putfield 27, 3), (49, .return_, 1)]
theorem tX3_init_ok : ztok cX3_init tX3_init = true := by decide +kernel
def tX3_startOver : zT := [(0, .iconst 0, 1), (1, .istore_n 2, 1), (2, .iload_n 2, 1), (3, .bipush 6, 2), (5, .if_icmp .ge 21, 3), (8, .aload_n 0, 1), (9, .iload_n 2, 1), (10, .invokevirtual 31, 3), (13, .aload_n 0, 1), (14, .getfield 24, 3), (17, .iload_n 2, 1), (18, .iconst 0, 1), (19, .iastore, 1), (20, .iinc 2 1, 3), (23, .goto (-21), 3), (26, .iconst 0, 1), (27, .istore_n 2, 1), (28, .iload_n 2, 1), (29, .aload_n 0, 1), (30, .getfield 27, 3), (33, .getfield 35, 3), (36, .if_icmp .ge 42, 3), (39, .iload_n 2, 1), (40, .iload_n 1, 1), (41, .if_icmp .eq 31, 3), (44, .aload_n 0, 1), (45, .getfield 24, 3), (48, .aload_n 0, 1), (49, .getfield 27, 3), (52, .getfield 41, 3), (55, .iload_n 2, 1), (56, .iaload, 1), (57, .dup2, 1), (58, .iaload, 1), (59, .iconst 1, 1), (60, .aload_n 0, 1), (61, .getfield 27, 3), (64, .getfield 44, 3), (67, .iload_n 2, 1), (68, .iaload, 1), (69, .ishl, 1), (70, .ior, 1), (71, .iastore, 1), (72, .iinc 2 1, 3), (75, .goto (-47), 3), (78, .return_, 1)]
theorem tX3_startOver_ok : ztok cX3_startOver tX3_startOver = true := by decide +kernel
def tX3_isPut : zT := [(0, .aload_n 0, 1), (1, .getfield 15, 3), (4, .iload_n 1, 1), (5, .iaload, 1), (6, .ifCond .le 7, 3), (9, .iconst 1, 1), (10, .goto 4, 3), (13, .iconst 0, 1), (14, .ireturn, 1)]
theorem tX3_isPut_ok : ztok cX3_isPut tX3_isPut = true := by decide +kernel
def tX3_place : zT := [(0, .aload_n 0, 1), (1, .getfield 15, 3), (4, .iload_n 1, 1), (5, .iload_n 2, 1), (6, .iastore, 1), (7, .aload_n 0, 1), (8, .getfield 18, 3), (11, .iload_n 1, 1), (12, .iload_n 3, 1), (13, .iastore, 1), (14, .aload_n 0, 1), (15, .getfield 21, 3), (18, .iload_n 1, 1), (19, .iload_n 3, 1), (20, .aload_n 0, 1), (21, .iload_n 1, 1), (22, .iload_n 2, 1), (23, .invokevirtual 47, 3), (26, .iadd, 1), (27, .iastore, 1), (28, .return_, 1)]
theorem tX3_place_ok : ztok cX3_place tX3_place = true := by decide +kernel
def tX3_takeOff : zT := [(0, .aload_n 0, 1), (1, .getfield 15, 3), (4, .iload_n 1, 1), (5, .iconst 0, 1), (6, .iastore, 1), (7, .aload_n 0, 1), (8, .getfield 18, 3), (11, .iload_n 1, 1), (12, .iconst 0, 1), (13, .iastore, 1), (14, .aload_n 0, 1), (15, .getfield 21, 3), (18, .iload_n 1, 1), (19, .iconst 0, 1), (20, .iastore, 1), (21, .return_, 1)]
theorem tX3_takeOff_ok : ztok cX3_takeOff tX3_takeOff = true := by decide +kernel
def tX3_takes : zT := [(0, .aload_n 0, 1), (1, .getfield 27, 3), (4, .iload_n 1, 1), (5, .aload_n 0, 1), (6, .getfield 9, 3), (9, .iload_n 1, 1), (10, .iaload, 1), (11, .iload_n 2, 1), (12, .invokevirtual 51, 3), (15, .ireturn, 1)]
theorem tX3_takes_ok : ztok cX3_takes tX3_takes = true := by decide +kernel
def tX3_leastTaken : zT := [(0, .ldc 54, 2), (2, .istore_n 2, 1), (3, .iconst 1, 1), (4, .istore_n 3, 1), (5, .iload_n 3, 1), (6, .aload_n 0, 1), (7, .getfield 27, 3), (10, .getfield 55, 3), (13, .if_icmp .gt 20, 3), (16, .iload_n 2, 1), (17, .aload_n 0, 1), (18, .iload_n 1, 1), (19, .iload_n 3, 1), (20, .invokevirtual 47, 3), (23, .invokestatic 58, 3), (26, .istore_n 2, 1), (27, .iinc 3 1, 3), (30, .goto (-25), 3), (33, .iload_n 2, 1), (34, .ireturn, 1)]
theorem tX3_leastTaken_ok : ztok cX3_leastTaken tX3_leastTaken = true := by decide +kernel
def tX3_stairs : zT := [(0, .iconst 0, 1), (1, .istore_n 2, 1), (2, .ldc 54, 2), (4, .istore_n 3, 1), (5, .iconst 1, 1), (6, .istore 4, 2), (8, .iload 4, 2), (10, .aload_n 0, 1), (11, .getfield 27, 3), (14, .getfield 55, 3), (17, .if_icmp .gt 35, 3), (20, .aload_n 0, 1), (21, .iload_n 1, 1), (22, .iload 4, 2), (24, .invokevirtual 47, 3), (27, .iload_n 3, 1), (28, .if_icmp .ge 18, 3), (31, .aload_n 0, 1), (32, .iload_n 1, 1), (33, .iload 4, 2), (35, .invokevirtual 47, 3), (38, .istore_n 3, 1), (39, .iload_n 2, 1), (40, .iconst 1, 1), (41, .iload 4, 2), (43, .ishl, 1), (44, .ior, 1), (45, .istore_n 2, 1), (46, .iinc 4 1, 3), (49, .goto (-41), 3), (52, .iload_n 2, 1), (53, .ireturn, 1)]
theorem tX3_stairs_ok : ztok cX3_stairs tX3_stairs = true := by decide +kernel
def tX3_length : zT := [(0, .iconst 0, 1), (1, .istore_n 1, 1), (2, .iconst 0, 1), (3, .istore_n 2, 1), (4, .iload_n 2, 1), (5, .aload_n 0, 1), (6, .getfield 27, 3), (9, .getfield 63, 3), (12, .if_icmp .ge 28, 3), (15, .aload_n 0, 1), (16, .iload_n 2, 1), (17, .invokevirtual 66, 3), (20, .ifCond .eq 14, 3), (23, .iload_n 1, 1), (24, .aload_n 0, 1), (25, .getfield 21, 3), (28, .iload_n 2, 1), (29, .iaload, 1), (30, .invokestatic 70, 3), (33, .istore_n 1, 1), (34, .iinc 2 1, 3), (37, .goto (-33), 3), (40, .iload_n 1, 1), (41, .ireturn, 1)]
theorem tX3_length_ok : ztok cX3_length tX3_length = true := by decide +kernel
def tX3_manyPut : zT := [(0, .iconst 0, 1), (1, .istore_n 1, 1), (2, .iconst 0, 1), (3, .istore_n 2, 1), (4, .iload_n 2, 1), (5, .aload_n 0, 1), (6, .getfield 27, 3), (9, .getfield 63, 3), (12, .if_icmp .ge 20, 3), (15, .aload_n 0, 1), (16, .iload_n 2, 1), (17, .invokevirtual 66, 3), (20, .ifCond .eq 6, 3), (23, .iinc 1 1, 3), (26, .iinc 2 1, 3), (29, .goto (-25), 3), (32, .iload_n 1, 1), (33, .ireturn, 1)]
theorem tX3_manyPut_ok : ztok cX3_manyPut tX3_manyPut = true := by decide +kernel
def tX3_used : zT := [(0, .iconst 0, 1), (1, .istore_n 3, 1), (2, .iconst 0, 1), (3, .istore 4, 2), (5, .iload 4, 2), (7, .aload_n 0, 1), (8, .getfield 27, 3), (11, .getfield 63, 3), (14, .if_icmp .ge 86, 3), (17, .aload_n 0, 1), (18, .getfield 15, 3), (21, .iload 4, 2), (23, .iaload, 1), (24, .ifCond .le 70, 3), (27, .aload_n 0, 1), (28, .getfield 18, 3), (31, .iload 4, 2), (33, .iaload, 1), (34, .iload_n 2, 1), (35, .if_icmp .gt 59, 3), (38, .iload_n 2, 1), (39, .aload_n 0, 1), (40, .getfield 21, 3), (43, .iload 4, 2), (45, .iaload, 1), (46, .if_icmp .ge 48, 3), (49, .iload_n 1, 1), (50, .ifCond .ne 16, 3), (53, .iload_n 3, 1), (54, .aload_n 0, 1), (55, .getfield 15, 3), (58, .iload 4, 2), (60, .iaload, 1), (61, .iadd, 1), (62, .istore_n 3, 1), (63, .goto 31, 3), (66, .iload_n 1, 1), (67, .iconst 1, 1), (68, .if_icmp .ne 19, 3), (71, .iload_n 3, 1), (72, .aload_n 0, 1), (73, .getfield 27, 3), (76, .getfield 73, 3), (79, .iload 4, 2), (81, .iaload, 1), (82, .iadd, 1), (83, .istore_n 3, 1), (84, .goto 10, 3), (87, .iload_n 3, 1), (88, .iconst 1, 1), (89, .iload 4, 2), (91, .ishl, 1), (92, .iadd, 1), (93, .istore_n 3, 1), (94, .iinc 4 1, 3), (97, .goto (-92), 3), (100, .iload_n 3, 1), (101, .ireturn, 1)]
theorem tX3_used_ok : ztok cX3_used tX3_used = true := by decide +kernel
def tX3_reason : zT := [(0, .iload_n 3, 1), (1, .aload_n 0, 1), (2, .iload_n 1, 1), (3, .iload_n 2, 1), (4, .invokevirtual 47, 3), (7, .iadd, 1), (8, .istore 4, 2), (10, .aload_n 0, 1), (11, .iload_n 1, 1), (12, .iload_n 3, 1), (13, .invokevirtual 76, 3), (16, .bipush (-4), 2), (18, .if_icmp .eq 5, 3), (21, .iconst 1, 1), (22, .ireturn, 1), (23, .aload_n 0, 1), (24, .iload_n 1, 1), (25, .iload 4, 2), (27, .invokevirtual 79, 3), (30, .bipush (-4), 2), (32, .if_icmp .eq 5, 3), (35, .iconst 2, 1), (36, .ireturn, 1), (37, .aload_n 0, 1), (38, .iconst 0, 1), (39, .aload_n 0, 1), (40, .getfield 27, 3), (43, .getfield 55, 3), (46, .iload_n 2, 1), (47, .isub, 1), (48, .iload_n 3, 1), (49, .iload 4, 2), (51, .invokevirtual 82, 3), (54, .bipush (-4), 2), (56, .if_icmp .eq 5, 3), (59, .iconst 3, 1), (60, .ireturn, 1), (61, .aload_n 0, 1), (62, .iconst 1, 1), (63, .aload_n 0, 1), (64, .getfield 27, 3), (67, .getfield 86, 3), (70, .aload_n 0, 1), (71, .getfield 27, 3), (74, .getfield 73, 3), (77, .iload_n 1, 1), (78, .iaload, 1), (79, .isub, 1), (80, .iload_n 3, 1), (81, .iload 4, 2), (83, .invokevirtual 82, 3), (86, .bipush (-4), 2), (88, .if_icmp .eq 5, 3), (91, .iconst 4, 1), (92, .ireturn, 1), (93, .iconst 0, 1), (94, .ireturn, 1)]
theorem tX3_reason_ok : ztok cX3_reason tX3_reason = true := by decide +kernel
def tX3_toldBy : zT := [(0, .iload 4, 2), (2, .aload_n 0, 1), (3, .iload_n 2, 1), (4, .iload_n 3, 1), (5, .invokevirtual 47, 3), (8, .iadd, 1), (9, .istore 5, 2), (11, .iload_n 1, 1), (12, .tableswitch 94 1 4 #[32, 40, 48, 67], 32), (44, .aload_n 0, 1), (45, .iload_n 2, 1), (46, .iload 4, 2), (48, .invokevirtual 76, 3), (51, .ireturn, 1), (52, .aload_n 0, 1), (53, .iload_n 2, 1), (54, .iload 5, 2), (56, .invokevirtual 79, 3), (59, .ireturn, 1), (60, .aload_n 0, 1), (61, .iconst 0, 1), (62, .aload_n 0, 1), (63, .getfield 27, 3), (66, .getfield 55, 3), (69, .iload_n 3, 1), (70, .isub, 1), (71, .iload 4, 2), (73, .iload 5, 2), (75, .invokevirtual 82, 3), (78, .ireturn, 1), (79, .aload_n 0, 1), (80, .iconst 1, 1), (81, .aload_n 0, 1), (82, .getfield 27, 3), (85, .getfield 86, 3), (88, .aload_n 0, 1), (89, .getfield 27, 3), (92, .getfield 73, 3), (95, .iload_n 2, 1), (96, .iaload, 1), (97, .isub, 1), (98, .iload 4, 2), (100, .iload 5, 2), (102, .invokevirtual 82, 3), (105, .ireturn, 1), (106, .bipush (-4), 2), (108, .ireturn, 1)]
theorem tX3_toldBy_ok : ztok cX3_toldBy tX3_toldBy = true := by decide +kernel
def tX3_notDoneAhead : zT := [(0, .iconst 0, 1), (1, .istore_n 3, 1), (2, .iload_n 3, 1), (3, .aload_n 0, 1), (4, .getfield 27, 3), (7, .getfield 63, 3), (10, .if_icmp .ge 44, 3), (13, .aload_n 0, 1), (14, .getfield 24, 3), (17, .iload_n 1, 1), (18, .iaload, 1), (19, .iload_n 3, 1), (20, .ishr, 1), (21, .iconst 1, 1), (22, .iand, 1), (23, .iconst 1, 1), (24, .if_icmp .ne 24, 3), (27, .aload_n 0, 1), (28, .getfield 15, 3), (31, .iload_n 3, 1), (32, .iaload, 1), (33, .ifCond .eq 13, 3), (36, .aload_n 0, 1), (37, .getfield 21, 3), (40, .iload_n 3, 1), (41, .iaload, 1), (42, .iload_n 2, 1), (43, .if_icmp .le 5, 3), (46, .iload_n 3, 1), (47, .ireturn, 1), (48, .iinc 3 1, 3), (51, .goto (-49), 3), (54, .bipush (-4), 2), (56, .ireturn, 1)]
theorem tX3_notDoneAhead_ok : ztok cX3_notDoneAhead tX3_notDoneAhead = true := by decide +kernel
def tX3_begunBehind : zT := [(0, .iconst 0, 1), (1, .istore_n 3, 1), (2, .iload_n 3, 1), (3, .aload_n 0, 1), (4, .getfield 27, 3), (7, .getfield 63, 3), (10, .if_icmp .ge 44, 3), (13, .aload_n 0, 1), (14, .getfield 24, 3), (17, .iload_n 3, 1), (18, .iaload, 1), (19, .iload_n 1, 1), (20, .ishr, 1), (21, .iconst 1, 1), (22, .iand, 1), (23, .iconst 1, 1), (24, .if_icmp .ne 24, 3), (27, .aload_n 0, 1), (28, .getfield 15, 3), (31, .iload_n 3, 1), (32, .iaload, 1), (33, .ifCond .le 15, 3), (36, .aload_n 0, 1), (37, .getfield 18, 3), (40, .iload_n 3, 1), (41, .iaload, 1), (42, .iload_n 2, 1), (43, .if_icmp .ge 5, 3), (46, .iload_n 3, 1), (47, .ireturn, 1), (48, .iinc 3 1, 3), (51, .goto (-49), 3), (54, .bipush (-4), 2), (56, .ireturn, 1)]
theorem tX3_begunBehind_ok : ztok cX3_begunBehind tX3_begunBehind = true := by decide +kernel
def tX3_firstOver : zT := [(0, .aload_n 0, 1), (1, .iload_n 1, 1), (2, .iload_n 3, 1), (3, .invokevirtual 89, 3), (6, .iload_n 2, 1), (7, .if_icmp .le 5, 3), (10, .iload_n 3, 1), (11, .ireturn, 1), (12, .bipush (-4), 2), (14, .istore 5, 2), (16, .iconst 0, 1), (17, .istore 6, 2), (19, .iload 6, 2), (21, .aload_n 0, 1), (22, .getfield 27, 3), (25, .getfield 63, 3), (28, .if_icmp .ge 82, 3), (31, .aload_n 0, 1), (32, .getfield 18, 3), (35, .iload 6, 2), (37, .iaload, 1), (38, .istore 7, 2), (40, .aload_n 0, 1), (41, .getfield 15, 3), (44, .iload 6, 2), (46, .iaload, 1), (47, .ifCond .le 34, 3), (50, .iload 7, 2), (52, .iload_n 3, 1), (53, .if_icmp .le 28, 3), (56, .iload 7, 2), (58, .iload 4, 2), (60, .if_icmp .ge 21, 3), (63, .iload 5, 2), (65, .bipush (-4), 2), (67, .if_icmp .eq 10, 3), (70, .iload 7, 2), (72, .iload 5, 2), (74, .if_icmp .ge 7, 3), (77, .iconst 1, 1), (78, .goto 4, 3), (81, .iconst 0, 1), (82, .istore 8, 2), (84, .iload 8, 2), (86, .ifCond .eq 18, 3), (89, .aload_n 0, 1), (90, .iload_n 1, 1), (91, .iload 7, 2), (93, .invokevirtual 89, 3), (96, .iload_n 2, 1), (97, .if_icmp .le 7, 3), (100, .iload 7, 2), (102, .istore 5, 2), (104, .iinc 6 1, 3), (107, .goto (-88), 3), (110, .iload 5, 2), (112, .ireturn, 1)]
theorem tX3_firstOver_ok : ztok cX3_firstOver tX3_firstOver = true := by decide +kernel
def tX3_firstNotRefused : zT := [(0, .aload_n 0, 1), (1, .iload_n 1, 1), (2, .iload_n 2, 1), (3, .invokevirtual 47, 3), (6, .istore 4, 2), (8, .bipush (-4), 2), (10, .istore 5, 2), (12, .iconst (-1), 1), (13, .istore 6, 2), (15, .iload 6, 2), (17, .aload_n 0, 1), (18, .getfield 27, 3), (21, .getfield 63, 3), (24, .if_icmp .ge 144, 3), (27, .iload 6, 2), (29, .ifCond .ge 7, 3), (32, .iconst 0, 1), (33, .goto 10, 3), (36, .aload_n 0, 1), (37, .getfield 21, 3), (40, .iload 6, 2), (42, .iaload, 1), (43, .istore 7, 2), (45, .iload 7, 2), (47, .iload 4, 2), (49, .iadd, 1), (50, .iload_n 3, 1), (51, .if_icmp .ge 111, 3), (54, .iload 5, 2), (56, .bipush (-4), 2), (58, .if_icmp .eq 13, 3), (61, .iload 7, 2), (63, .iload 5, 2), (65, .if_icmp .lt 6, 3), (68, .goto 94, 3), (71, .aload_n 0, 1), (72, .iload_n 1, 1), (73, .iload 7, 2), (75, .invokevirtual 76, 3), (78, .bipush (-4), 2), (80, .if_icmp .ne 82, 3), (83, .aload_n 0, 1), (84, .iload_n 1, 1), (85, .iload 7, 2), (87, .iload 4, 2), (89, .iadd, 1), (90, .invokevirtual 79, 3), (93, .bipush (-4), 2), (95, .if_icmp .ne 67, 3), (98, .aload_n 0, 1), (99, .iconst 0, 1), (100, .aload_n 0, 1), (101, .getfield 27, 3), (104, .getfield 55, 3), (107, .iload_n 2, 1), (108, .isub, 1), (109, .iload 7, 2), (111, .iload 7, 2), (113, .iload 4, 2), (115, .iadd, 1), (116, .invokevirtual 82, 3), (119, .bipush (-4), 2), (121, .if_icmp .ne 41, 3), (124, .aload_n 0, 1), (125, .iconst 1, 1), (126, .aload_n 0, 1), (127, .getfield 27, 3), (130, .getfield 86, 3), (133, .aload_n 0, 1), (134, .getfield 27, 3), (137, .getfield 73, 3), (140, .iload_n 1, 1), (141, .iaload, 1), (142, .isub, 1), (143, .iload 7, 2), (145, .iload 7, 2), (147, .iload 4, 2), (149, .iadd, 1), (150, .invokevirtual 82, 3), (153, .bipush (-4), 2), (155, .if_icmp .ne 7, 3), (158, .iload 7, 2), (160, .istore 5, 2), (162, .iinc 6 1, 3), (165, .goto (-150), 3), (168, .iload 5, 2), (170, .ireturn, 1)]
theorem tX3_firstNotRefused_ok : ztok cX3_firstNotRefused tX3_firstNotRefused = true := by decide +kernel
def tX3_placeDoneFirst : zT := [(0, .iconst 0, 1), (1, .istore_n 3, 1), (2, .iconst 0, 1), (3, .istore 4, 2), (5, .iload_n 2, 1), (6, .istore 5, 2), (8, .ldc 54, 2), (10, .istore 6, 2), (12, .iconst 1, 1), (13, .istore 7, 2), (15, .iload 7, 2), (17, .aload_n 0, 1), (18, .getfield 27, 3), (21, .getfield 55, 3), (24, .if_icmp .gt 64, 3), (27, .aload_n 0, 1), (28, .iload_n 1, 1), (29, .iload 7, 2), (31, .invokevirtual 47, 3), (34, .istore 8, 2), (36, .iload 8, 2), (38, .iload 6, 2), (40, .if_icmp .lt 6, 3), (43, .goto 39, 3), (46, .iload 8, 2), (48, .istore 6, 2), (50, .aload_n 0, 1), (51, .iload_n 1, 1), (52, .iload 7, 2), (54, .iload 5, 2), (56, .invokevirtual 92, 3), (59, .istore 9, 2), (61, .iload 9, 2), (63, .bipush (-4), 2), (65, .if_icmp .eq 17, 3), (68, .iload 7, 2), (70, .istore_n 3, 1), (71, .iload 9, 2), (73, .istore 4, 2), (75, .iload 9, 2), (77, .iload 8, 2), (79, .iadd, 1), (80, .istore 5, 2), (82, .iinc 7 1, 3), (85, .goto (-70), 3), (88, .iload_n 3, 1), (89, .ifCond .ne 5, 3), (92, .iconst 0, 1), (93, .ireturn, 1), (94, .aload_n 0, 1), (95, .iload_n 1, 1), (96, .iload_n 3, 1), (97, .iload 4, 2), (99, .invokevirtual 95, 3), (102, .iconst 1, 1), (103, .ireturn, 1)]
theorem tX3_placeDoneFirst_ok : ztok cX3_placeDoneFirst tX3_placeDoneFirst = true := by decide +kernel
def tX3_writeTo : zT := [(0, .aload_n 1, 1), (1, .arraylength, 1), (2, .bipush 24, 2), (4, .if_icmp .ge 4, 3), (7, .return_, 1), (8, .aload_n 0, 1), (9, .getfield 9, 3), (12, .iconst 0, 1), (13, .aload_n 1, 1), (14, .iconst 0, 1), (15, .bipush 6, 2), (17, .invokestatic 99, 3), (20, .aload_n 0, 1), (21, .getfield 15, 3), (24, .iconst 0, 1), (25, .aload_n 1, 1), (26, .bipush 6, 2), (28, .bipush 6, 2), (30, .invokestatic 99, 3), (33, .aload_n 0, 1), (34, .getfield 18, 3), (37, .iconst 0, 1), (38, .aload_n 1, 1), (39, .bipush 12, 2), (41, .bipush 6, 2), (43, .invokestatic 99, 3), (46, .aload_n 0, 1), (47, .getfield 21, 3), (50, .iconst 0, 1), (51, .aload_n 1, 1), (52, .bipush 18, 2), (54, .bipush 6, 2), (56, .invokestatic 99, 3), (59, .return_, 1)]
theorem tX3_writeTo_ok : ztok cX3_writeTo tX3_writeTo = true := by decide +kernel
def tX3_readFrom : zT := [(0, .aload_n 1, 1), (1, .arraylength, 1), (2, .bipush 24, 2), (4, .if_icmp .ge 4, 3), (7, .return_, 1), (8, .aload_n 1, 1), (9, .iconst 0, 1), (10, .aload_n 0, 1), (11, .getfield 9, 3), (14, .iconst 0, 1), (15, .bipush 6, 2), (17, .invokestatic 99, 3), (20, .aload_n 1, 1), (21, .bipush 6, 2), (23, .aload_n 0, 1), (24, .getfield 15, 3), (27, .iconst 0, 1), (28, .bipush 6, 2), (30, .invokestatic 99, 3), (33, .aload_n 1, 1), (34, .bipush 12, 2), (36, .aload_n 0, 1), (37, .getfield 18, 3), (40, .iconst 0, 1), (41, .bipush 6, 2), (43, .invokestatic 99, 3), (46, .aload_n 1, 1), (47, .bipush 18, 2), (49, .aload_n 0, 1), (50, .getfield 21, 3), (53, .iconst 0, 1), (54, .bipush 6, 2), (56, .invokestatic 99, 3), (59, .return_, 1)]
theorem tX3_readFrom_ok : ztok cX3_readFrom tX3_readFrom = true := by decide +kernel
def tX4_init : zT := [(0, .aload_n 0, 1), (1, .invokespecial 3, 3), (4, .aload_n 0, 1), (5, .iconst 0, 1), (6, .putfield 9, 3), (9, .aload_n 0, 1), (10, .aload_n 1, 1), (11, .putfield 15, 3), (14, .return_, 1)]
theorem tX4_init_ok : ztok cX4_init tX4_init = true := by decide +kernel
def tX4_firstFault : zT := [(0, .aload_n 1, 1), (1, .invokevirtual 19, 3), (4, .aload_n 0, 1), (5, .iconst 0, 1), (6, .putfield 9, 3), (9, .iconst 0, 1), (10, .istore_n 2, 1), (11, .iload_n 2, 1), (12, .sipush 200, 3), (15, .if_icmp .ge 38, 3), (18, .aload_n 0, 1), (19, .getfield 9, 3), (22, .aload_n 0, 1), (23, .getfield 15, 3), (26, .getfield 24, 3), (29, .if_icmp .ge 24, 3), (32, .aload_n 0, 1), (33, .getfield 9, 3), (36, .istore_n 3, 1), (37, .aload_n 0, 1), (38, .aload_n 1, 1), (39, .invokevirtual 29, 3), (42, .ifCond .ne 5, 3), (45, .iload_n 3, 1), (46, .ireturn, 1), (47, .iinc 2 1, 3), (50, .goto (-39), 3), (53, .bipush (-4), 2), (55, .ireturn, 1)]
theorem tX4_firstFault_ok : ztok cX4_firstFault tX4_firstFault = true := by decide +kernel
def tX4_readItem : zT := [(0, .aload_n 0, 1), (1, .getfield 9, 3), (4, .ifCond .ne 7, 3), (7, .iconst 1, 1), (8, .goto 4, 3), (11, .iconst 0, 1), (12, .istore_n 2, 1), (13, .aload_n 0, 1), (14, .getfield 15, 3), (17, .aload_n 0, 1), (18, .getfield 9, 3), (21, .invokevirtual 33, 3), (24, .istore_n 3, 1), (25, .aload_n 0, 1), (26, .dup, 1), (27, .getfield 9, 3), (30, .iconst 1, 1), (31, .iadd, 1), (32, .putfield 9, 3), (35, .iload_n 3, 1), (36, .lookupswitch 80 #[(98, 74), (99, 68), (109, 62), (119, 44)], 44), (80, .iload_n 2, 1), (81, .ifCond .eq 15, 3), (84, .aload_n 0, 1), (85, .aload_n 1, 1), (86, .invokevirtual 37, 3), (89, .ifCond .eq 7, 3), (92, .iconst 1, 1), (93, .goto 4, 3), (96, .iconst 0, 1), (97, .ireturn, 1), (98, .aload_n 0, 1), (99, .aload_n 1, 1), (100, .invokevirtual 40, 3), (103, .ireturn, 1), (104, .aload_n 0, 1), (105, .aload_n 1, 1), (106, .invokevirtual 43, 3), (109, .ireturn, 1), (110, .aload_n 0, 1), (111, .aload_n 1, 1), (112, .invokevirtual 46, 3), (115, .ireturn, 1), (116, .iconst 0, 1), (117, .ireturn, 1)]
theorem tX4_readItem_ok : ztok cX4_readItem tX4_readItem = true := by decide +kernel
def tX4_readLines : zT := [(0, .aload_n 0, 1), (1, .iconst 1, 1), (2, .bipush 8, 2), (4, .bipush 59, 2), (6, .invokevirtual 49, 3), (9, .istore_n 2, 1), (10, .iload_n 2, 1), (11, .bipush (-4), 2), (13, .if_icmp .ne 5, 3), (16, .iconst 0, 1), (17, .ireturn, 1), (18, .aload_n 1, 1), (19, .iload_n 2, 1), (20, .putfield 53, 3), (23, .iconst 1, 1), (24, .ireturn, 1)]
theorem tX4_readLines_ok : ztok cX4_readLines tX4_readLines = true := by decide +kernel
def tX4_readPower : zT := [(0, .aload_n 0, 1), (1, .iconst 1, 1), (2, .bipush 40, 2), (4, .bipush 59, 2), (6, .invokevirtual 49, 3), (9, .istore_n 2, 1), (10, .iload_n 2, 1), (11, .bipush (-4), 2), (13, .if_icmp .ne 5, 3), (16, .iconst 0, 1), (17, .ireturn, 1), (18, .aload_n 1, 1), (19, .iload_n 2, 1), (20, .putfield 56, 3), (23, .iconst 1, 1), (24, .ireturn, 1)]
theorem tX4_readPower_ok : ztok cX4_readPower tX4_readPower = true := by decide +kernel
def tX4_readCore : zT := [(0, .aload_n 1, 1), (1, .getfield 59, 3), (4, .istore_n 2, 1), (5, .iload_n 2, 1), (6, .bipush 6, 2), (8, .if_icmp .lt 5, 3), (11, .iconst 0, 1), (12, .ireturn, 1), (13, .aload_n 0, 1), (14, .iconst 0, 1), (15, .iconst 3, 1), (16, .bipush 44, 2), (18, .invokevirtual 49, 3), (21, .istore_n 3, 1), (22, .aload_n 0, 1), (23, .iconst 1, 1), (24, .bipush 20, 2), (26, .bipush 44, 2), (28, .invokevirtual 49, 3), (31, .istore 4, 2), (33, .aload_n 0, 1), (34, .iconst 1, 1), (35, .bipush 30, 2), (37, .bipush 44, 2), (39, .invokevirtual 49, 3), (42, .istore 5, 2), (44, .iload_n 3, 1), (45, .bipush (-4), 2), (47, .if_icmp .eq 17, 3), (50, .iload 4, 2), (52, .bipush (-4), 2), (54, .if_icmp .eq 10, 3), (57, .iload 5, 2), (59, .bipush (-4), 2), (61, .if_icmp .ne 5, 3), (64, .iconst 0, 1), (65, .ireturn, 1), (66, .aload_n 0, 1), (67, .aload_n 1, 1), (68, .getfield 62, 3), (71, .iload_n 2, 1), (72, .aaload, 1), (73, .invokevirtual 66, 3), (76, .istore 6, 2), (78, .iload 6, 2), (80, .bipush (-4), 2), (82, .if_icmp .ne 5, 3), (85, .iconst 0, 1), (86, .ireturn, 1), (87, .aload_n 1, 1), (88, .getfield 70, 3), (91, .iload_n 2, 1), (92, .iload_n 3, 1), (93, .iastore, 1), (94, .aload_n 1, 1), (95, .getfield 74, 3), (98, .iload_n 2, 1), (99, .iload 4, 2), (101, .iastore, 1), (102, .aload_n 1, 1), (103, .getfield 77, 3), (106, .iload_n 2, 1), (107, .iload 5, 2), (109, .iastore, 1), (110, .aload_n 1, 1), (111, .getfield 80, 3), (114, .iload_n 2, 1), (115, .iload 6, 2), (117, .iastore, 1), (118, .aload_n 1, 1), (119, .dup, 1), (120, .getfield 59, 3), (123, .iconst 1, 1), (124, .iadd, 1), (125, .putfield 59, 3), (128, .iconst 1, 1), (129, .ireturn, 1)]
theorem tX4_readCore_ok : ztok cX4_readCore tX4_readCore = true := by decide +kernel
def tX4_readRule : zT := [(0, .aload_n 1, 1), (1, .getfield 83, 3), (4, .istore_n 2, 1), (5, .iload_n 2, 1), (6, .bipush 8, 2), (8, .if_icmp .lt 5, 3), (11, .iconst 0, 1), (12, .ireturn, 1), (13, .aload_n 0, 1), (14, .iconst 0, 1), (15, .aload_n 1, 1), (16, .getfield 59, 3), (19, .iconst 1, 1), (20, .isub, 1), (21, .bipush 44, 2), (23, .invokevirtual 49, 3), (26, .istore_n 3, 1), (27, .aload_n 0, 1), (28, .iconst 0, 1), (29, .aload_n 1, 1), (30, .getfield 59, 3), (33, .iconst 1, 1), (34, .isub, 1), (35, .bipush 59, 2), (37, .invokevirtual 49, 3), (40, .istore 4, 2), (42, .iload_n 3, 1), (43, .bipush (-4), 2), (45, .if_icmp .eq 16, 3), (48, .iload 4, 2), (50, .bipush (-4), 2), (52, .if_icmp .eq 9, 3), (55, .iload_n 3, 1), (56, .iload 4, 2), (58, .if_icmp .lt 5, 3), (61, .iconst 0, 1), (62, .ireturn, 1), (63, .aload_n 1, 1), (64, .getfield 86, 3), (67, .iload_n 2, 1), (68, .iload_n 3, 1), (69, .iastore, 1), (70, .aload_n 1, 1), (71, .getfield 89, 3), (74, .iload_n 2, 1), (75, .iload 4, 2), (77, .iastore, 1), (78, .aload_n 1, 1), (79, .dup, 1), (80, .getfield 83, 3), (83, .iconst 1, 1), (84, .iadd, 1), (85, .putfield 83, 3), (88, .iconst 1, 1), (89, .ireturn, 1)]
theorem tX4_readRule_ok : ztok cX4_readRule tX4_readRule = true := by decide +kernel
def tX4_number : zT := [(0, .aload_n 0, 1), (1, .getfield 15, 3), (4, .aload_n 0, 1), (5, .getfield 9, 3), (8, .invokevirtual 92, 3), (11, .istore 4, 2), (13, .iload 4, 2), (15, .bipush (-4), 2), (17, .if_icmp .ne 6, 3), (20, .bipush (-4), 2), (22, .ireturn, 1), (23, .aload_n 0, 1), (24, .dup, 1), (25, .getfield 9, 3), (28, .iconst 1, 1), (29, .iadd, 1), (30, .putfield 9, 3), (33, .aload_n 0, 1), (34, .getfield 15, 3), (37, .aload_n 0, 1), (38, .getfield 9, 3), (41, .invokevirtual 92, 3), (44, .istore 5, 2), (46, .iload 5, 2), (48, .bipush (-4), 2), (50, .if_icmp .eq 23, 3), (53, .bipush 10, 2), (55, .iload 4, 2), (57, .imul, 1), (58, .iload 5, 2), (60, .iadd, 1), (61, .istore 4, 2), (63, .aload_n 0, 1), (64, .dup, 1), (65, .getfield 9, 3), (68, .iconst 1, 1), (69, .iadd, 1), (70, .putfield 9, 3), (73, .aload_n 0, 1), (74, .getfield 15, 3), (77, .aload_n 0, 1), (78, .getfield 9, 3), (81, .invokevirtual 33, 3), (84, .iload_n 3, 1), (85, .if_icmp .eq 6, 3), (88, .bipush (-4), 2), (90, .ireturn, 1), (91, .aload_n 0, 1), (92, .dup, 1), (93, .getfield 9, 3), (96, .iconst 1, 1), (97, .iadd, 1), (98, .putfield 9, 3), (101, .iload 4, 2), (103, .iload_n 1, 1), (104, .if_icmp .lt 14, 3), (107, .iload 4, 2), (109, .iload_n 2, 1), (110, .if_icmp .gt 8, 3), (113, .iload 4, 2), (115, .goto 5, 3), (118, .bipush (-4), 2), (120, .ireturn, 1)]
theorem tX4_number_ok : ztok cX4_number tX4_number = true := by decide +kernel
def tX4_row : zT := [(0, .iconst 0, 1), (1, .istore_n 2, 1), (2, .iconst 0, 1), (3, .istore_n 3, 1), (4, .iload_n 3, 1), (5, .aload_n 1, 1), (6, .arraylength, 1), (7, .if_icmp .ge 50, 3), (10, .aload_n 0, 1), (11, .getfield 15, 3), (14, .aload_n 0, 1), (15, .getfield 9, 3), (18, .invokevirtual 92, 3), (21, .ifCond .le 36, 3), (24, .aload_n 1, 1), (25, .iload_n 3, 1), (26, .aload_n 0, 1), (27, .getfield 15, 3), (30, .aload_n 0, 1), (31, .getfield 9, 3), (34, .invokevirtual 92, 3), (37, .iastore, 1), (38, .aload_n 0, 1), (39, .dup, 1), (40, .getfield 9, 3), (43, .iconst 1, 1), (44, .iadd, 1), (45, .putfield 9, 3), (48, .iinc 2 1, 3), (51, .iinc 3 1, 3), (54, .goto (-50), 3), (57, .iload_n 2, 1), (58, .ifCond .eq 19, 3), (61, .aload_n 0, 1), (62, .getfield 15, 3), (65, .aload_n 0, 1), (66, .getfield 9, 3), (69, .invokevirtual 33, 3), (72, .bipush 59, 2), (74, .if_icmp .eq 6, 3), (77, .bipush (-4), 2), (79, .ireturn, 1), (80, .aload_n 0, 1), (81, .dup, 1), (82, .getfield 9, 3), (85, .iconst 1, 1), (86, .iadd, 1), (87, .putfield 9, 3), (90, .iload_n 2, 1), (91, .ireturn, 1)]
theorem tX4_row_ok : ztok cX4_row tX4_row = true := by decide +kernel
def tX5_init : zT := [(0, .aload_n 0, 1), (1, .invokespecial 3, 3), (4, .aload_n 0, 1), (5, .bipush 6, 2), (7, .newarray .int, 2), (9, .putfield 9, 3), (12, .aload_n 0, 1), (13, .bipush 9, 2), (15, .bipush 6, 2), (17, .multianewarray 15 2, 4), (21, .putfield 17, 3), (24, .aload_n 0, 1), (25, .bipush 9, 2), (27, .newarray .int, 2), (29, .putfield 20, 3), (32, .aload_n 0, 1), (33, .bipush 9, 2), (35, .newarray .int, 2), (37, .putfield 23, 3), (40, .aload_n 0, 1), (41, .iconst 0, 1), (42, .putfield 26, 3), (45, .aload_n 0, 1), (46, .ldc 30, 2), (48, .putfield 31, 3), (51, .aload_n 0, 1), (52, .iconst 0, 1), (53, .putfield 34, 3), (56, .aload_n 0, 1), (57, .aload_n 1, 1), (58, .putfield 37, 3), (61, .aload_n 0, 1), (62, .new 41, 3), (65, .dup, 1), (66, .aload_n 1, 1), (67, .invokespecial 43, 3), (70, .putfield 46, 3), (73, .aload_n 0, 1), (74, .new 50, 3), (77, .dup, 1), (78, .aload_n 1, 1), (79, .invokespecial 52, 3), (82, .putfield 53, 3), (85, .return_, 1)]
theorem tX5_init_ok : ztok cX5_init tX5_init = true := by decide +kernel
def tX5_forgetAll : zT := [(0, .iconst 0, 1), (1, .istore_n 1, 1), (2, .iload_n 1, 1), (3, .aload_n 0, 1), (4, .getfield 23, 3), (7, .arraylength, 1), (8, .if_icmp .ge 16, 3), (11, .aload_n 0, 1), (12, .getfield 23, 3), (15, .iload_n 1, 1), (16, .iconst 0, 1), (17, .iastore, 1), (18, .iinc 1 1, 3), (21, .goto (-19), 3), (24, .return_, 1)]
theorem tX5_forgetAll_ok : ztok cX5_forgetAll tX5_forgetAll = true := by decide +kernel
def tX5_leastLength : zT := [(0, .iconst 1, 1), (1, .istore_n 3, 1), (2, .iconst 0, 1), (3, .istore 4, 2), (5, .iload 4, 2), (7, .aload_n 0, 1), (8, .getfield 37, 3), (11, .getfield 57, 3), (14, .if_icmp .ge 61, 3), (17, .aload_n 0, 1), (18, .getfield 37, 3), (21, .getfield 62, 3), (24, .iload 4, 2), (26, .iaload, 1), (27, .aload_n 0, 1), (28, .getfield 37, 3), (31, .getfield 65, 3), (34, .if_icmp .le 6, 3), (37, .bipush (-4), 2), (39, .ireturn, 1), (40, .iload_n 3, 1), (41, .iconst 4, 1), (42, .imul, 1), (43, .aload_n 1, 1), (44, .getfield 68, 3), (47, .iload 4, 2), (49, .iaload, 1), (50, .iadd, 1), (51, .istore_n 3, 1), (52, .aload_n 0, 1), (53, .getfield 46, 3), (56, .getfield 68, 3), (59, .iload 4, 2), (61, .aload_n 1, 1), (62, .getfield 68, 3), (65, .iload 4, 2), (67, .iaload, 1), (68, .iastore, 1), (69, .iinc 4 1, 3), (72, .goto (-67), 3), (75, .aload_n 0, 1), (76, .iload_n 2, 1), (77, .ifCond .lt 15, 3), (80, .iload_n 2, 1), (81, .bipush 8, 2), (83, .if_icmp .ge 9, 3), (86, .iload_n 2, 1), (87, .iconst 1, 1), (88, .iadd, 1), (89, .goto 4, 3), (92, .iconst 0, 1), (93, .putfield 26, 3), (96, .aload_n 0, 1), (97, .getfield 23, 3), (100, .aload_n 0, 1), (101, .getfield 26, 3), (104, .iaload, 1), (105, .iload_n 3, 1), (106, .if_icmp .eq 62, 3), (109, .aload_n 0, 1), (110, .getfield 46, 3), (113, .iload_n 2, 1), (114, .invokevirtual 71, 3), (117, .aload_n 0, 1), (118, .ldc 30, 2), (120, .putfield 31, 3), (123, .aload_n 0, 1), (124, .aload_n 0, 1), (125, .getfield 53, 3), (128, .aload_n 0, 1), (129, .getfield 46, 3), (132, .invokevirtual 75, 3), (135, .putfield 34, 3), (138, .aload_n 0, 1), (139, .iconst 0, 1), (140, .iconst 0, 1), (141, .iconst 0, 1), (142, .invokestatic 79, 3), (145, .aload_n 0, 1), (146, .getfield 20, 3), (149, .aload_n 0, 1), (150, .getfield 26, 3), (153, .aload_n 0, 1), (154, .getfield 31, 3), (157, .iastore, 1), (158, .aload_n 0, 1), (159, .getfield 23, 3), (162, .aload_n 0, 1), (163, .getfield 26, 3), (166, .iload_n 3, 1), (167, .iastore, 1), (168, .aload_n 0, 1), (169, .getfield 20, 3), (172, .aload_n 0, 1), (173, .getfield 26, 3), (176, .iaload, 1), (177, .ireturn, 1)]
theorem tX5_leastLength_ok : ztok cX5_leastLength tX5_leastLength = true := by decide +kernel
def tX5_placedAt : zT := [(0, .iload_n 1, 1), (1, .ifCond .lt 20, 3), (4, .iload_n 1, 1), (5, .bipush 6, 2), (7, .if_icmp .ge 14, 3), (10, .aload_n 0, 1), (11, .getfield 17, 3), (14, .iconst 0, 1), (15, .aaload, 1), (16, .iload_n 1, 1), (17, .iaload, 1), (18, .goto 5, 3), (21, .bipush (-4), 2), (23, .ireturn, 1)]
theorem tX5_placedAt_ok : ztok cX5_placedAt tX5_placedAt = true := by decide +kernel
def tX5_tryAll : zT := [(0, .iload_n 1, 1), (1, .aload_n 0, 1), (2, .getfield 37, 3), (5, .getfield 57, 3), (8, .if_icmp .ge 9, 3), (11, .iload_n 1, 1), (12, .bipush 6, 2), (14, .if_icmp .lt 29, 3), (17, .aload_n 0, 1), (18, .iload_n 3, 1), (19, .putfield 31, 3), (22, .aload_n 0, 1), (23, .getfield 9, 3), (26, .iconst 0, 1), (27, .aload_n 0, 1), (28, .getfield 17, 3), (31, .aload_n 0, 1), (32, .getfield 26, 3), (35, .aaload, 1), (36, .iconst 0, 1), (37, .bipush 6, 2), (39, .invokestatic 83, 3), (42, .return_, 1), (43, .iconst 0, 1), (44, .istore 4, 2), (46, .iload 4, 2), (48, .aload_n 0, 1), (49, .getfield 37, 3), (52, .getfield 57, 3), (55, .if_icmp .ge 120, 3), (58, .iload_n 2, 1), (59, .iload 4, 2), (61, .ishr, 1), (62, .iconst 1, 1), (63, .iand, 1), (64, .iconst 1, 1), (65, .if_icmp .eq 104, 3), (68, .aload_n 0, 1), (69, .getfield 46, 3), (72, .getfield 89, 3), (75, .iload 4, 2), (77, .iaload, 1), (78, .iload_n 2, 1), (79, .iconst (-1), 1), (80, .ixor, 1), (81, .iand, 1), (82, .ifCond .eq 6, 3), (85, .goto 84, 3), (88, .iload_n 3, 1), (89, .aload_n 0, 1), (90, .getfield 31, 3), (93, .if_icmp .ge 14, 3), (96, .aload_n 0, 1), (97, .getfield 31, 3), (100, .aload_n 0, 1), (101, .getfield 34, 3), (104, .if_icmp .gt 4, 3), (107, .return_, 1), (108, .aload_n 0, 1), (109, .getfield 46, 3), (112, .iload 4, 2), (114, .aload_n 0, 1), (115, .getfield 31, 3), (118, .invokevirtual 92, 3), (121, .ifCond .ne 4, 3), (124, .return_, 1), (125, .aload_n 0, 1), (126, .getfield 9, 3), (129, .iload_n 1, 1), (130, .iload 4, 2), (132, .iastore, 1), (133, .aload_n 0, 1), (134, .iload_n 1, 1), (135, .iconst 1, 1), (136, .iadd, 1), (137, .iload_n 2, 1), (138, .iconst 1, 1), (139, .iload 4, 2), (141, .ishl, 1), (142, .ior, 1), (143, .iload_n 3, 1), (144, .aload_n 0, 1), (145, .getfield 46, 3), (148, .getfield 96, 3), (151, .iload 4, 2), (153, .iaload, 1), (154, .invokestatic 99, 3), (157, .invokestatic 79, 3), (160, .aload_n 0, 1), (161, .getfield 46, 3), (164, .iload 4, 2), (166, .invokevirtual 105, 3), (169, .iinc 4 1, 3), (172, .goto (-126), 3), (175, .return_, 1)]
theorem tX5_tryAll_ok : ztok cX5_tryAll tX5_tryAll = true := by decide +kernel
def tX6_init : zT := [(0, .aload_n 0, 1), (1, .invokespecial 3, 3), (4, .aload_n 0, 1), (5, .iconst 0, 1), (6, .putfield 9, 3), (9, .aload_n 0, 1), (10, .iload_n 1, 1), (11, .iconst 1, 1), (12, .invokestatic 15, 3), (15, .bipush 24, 2), (17, .multianewarray 21 2, 4), (21, .putfield 23, 3), (24, .return_, 1)]
theorem tX6_init_ok : ztok cX6_init tX6_init = true := by decide +kernel
def tX6_clear : zT := [(0, .aload_n 0, 1), (1, .iconst 0, 1), (2, .putfield 9, 3), (5, .return_, 1)]
theorem tX6_clear_ok : ztok cX6_clear tX6_clear = true := by decide +kernel
def tX6_push : zT := [(0, .aload_n 0, 1), (1, .getfield 9, 3), (4, .aload_n 0, 1), (5, .getfield 23, 3), (8, .arraylength, 1), (9, .if_icmp .lt 65, 3), (12, .aload_n 0, 1), (13, .getfield 23, 3), (16, .iconst 0, 1), (17, .aaload, 1), (18, .astore_n 2, 1), (19, .iconst 1, 1), (20, .istore_n 3, 1), (21, .iload_n 3, 1), (22, .aload_n 0, 1), (23, .getfield 23, 3), (26, .arraylength, 1), (27, .if_icmp .ge 23, 3), (30, .aload_n 0, 1), (31, .getfield 23, 3), (34, .iload_n 3, 1), (35, .iconst 1, 1), (36, .isub, 1), (37, .aload_n 0, 1), (38, .getfield 23, 3), (41, .iload_n 3, 1), (42, .aaload, 1), (43, .aastore, 1), (44, .iinc 3 1, 3), (47, .goto (-26), 3), (50, .aload_n 0, 1), (51, .getfield 23, 3), (54, .aload_n 0, 1), (55, .getfield 23, 3), (58, .arraylength, 1), (59, .iconst 1, 1), (60, .isub, 1), (61, .aload_n 2, 1), (62, .aastore, 1), (63, .aload_n 0, 1), (64, .aload_n 0, 1), (65, .getfield 23, 3), (68, .arraylength, 1), (69, .iconst 1, 1), (70, .isub, 1), (71, .putfield 9, 3), (74, .aload_n 1, 1), (75, .arraylength, 1), (76, .bipush 24, 2), (78, .if_icmp .ge 4, 3), (81, .return_, 1), (82, .aload_n 1, 1), (83, .iconst 0, 1), (84, .aload_n 0, 1), (85, .getfield 23, 3), (88, .aload_n 0, 1), (89, .getfield 9, 3), (92, .aaload, 1), (93, .iconst 0, 1), (94, .bipush 24, 2), (96, .invokestatic 26, 3), (99, .aload_n 0, 1), (100, .dup, 1), (101, .getfield 9, 3), (104, .iconst 1, 1), (105, .iadd, 1), (106, .putfield 9, 3), (109, .return_, 1)]
theorem tX6_push_ok : ztok cX6_push tX6_push = true := by decide +kernel
def tX6_popInto : zT := [(0, .aload_n 0, 1), (1, .getfield 9, 3), (4, .iconst 1, 1), (5, .if_icmp .ge 5, 3), (8, .iconst 0, 1), (9, .ireturn, 1), (10, .aload_n 0, 1), (11, .dup, 1), (12, .getfield 9, 3), (15, .iconst 1, 1), (16, .isub, 1), (17, .putfield 9, 3), (20, .aload_n 1, 1), (21, .aload_n 0, 1), (22, .getfield 23, 3), (25, .aload_n 0, 1), (26, .getfield 9, 3), (29, .aaload, 1), (30, .invokevirtual 32, 3), (33, .iconst 1, 1), (34, .ireturn, 1)]
theorem tX6_popInto_ok : ztok cX6_popInto tX6_popInto = true := by decide +kernel
def tX7_init : zT := [(0, .aload_n 0, 1), (1, .invokespecial 3, 3), (4, .aload_n 0, 1), (5, .bipush 6, 2), (7, .newarray .int, 2), (9, .putfield 9, 3), (12, .aload_n 0, 1), (13, .bipush 6, 2), (15, .newarray .int, 2), (17, .putfield 15, 3), (20, .aload_n 0, 1), (21, .bipush 6, 2), (23, .newarray .int, 2), (25, .putfield 18, 3), (28, .aload_n 0, 1), (29, .iconst 0, 1), (30, .putfield 21, 3), (33, .aload_n 0, 1), (34, .aload_n 1, 1), (35, .putfield 25, 3), (38, .return_, 1)]
theorem tX7_init_ok : ztok cX7_init tX7_init = true := by decide +kernel
def tX7_clear : zT := [(0, .aload_n 0, 1), (1, .iconst 0, 1), (2, .putfield 21, 3), (5, .return_, 1)]
theorem tX7_clear_ok : ztok cX7_clear tX7_clear = true := by decide +kernel
def tX7_add : zT := [(0, .aload_n 0, 1), (1, .getfield 21, 3), (4, .bipush 6, 2), (6, .if_icmp .lt 4, 3), (9, .return_, 1), (10, .aload_n 0, 1), (11, .getfield 9, 3), (14, .aload_n 0, 1), (15, .getfield 21, 3), (18, .iload_n 1, 1), (19, .iastore, 1), (20, .aload_n 0, 1), (21, .getfield 15, 3), (24, .aload_n 0, 1), (25, .getfield 21, 3), (28, .iload_n 2, 1), (29, .iastore, 1), (30, .aload_n 0, 1), (31, .getfield 18, 3), (34, .aload_n 0, 1), (35, .getfield 21, 3), (38, .iload_n 3, 1), (39, .iastore, 1), (40, .aload_n 0, 1), (41, .dup, 1), (42, .getfield 21, 3), (45, .iconst 1, 1), (46, .iadd, 1), (47, .putfield 21, 3), (50, .return_, 1)]
theorem tX7_add_ok : ztok cX7_add tX7_add = true := by decide +kernel
def tX7_kindsOf : zT := [(0, .iconst 0, 1), (1, .istore_n 2, 1), (2, .iconst 0, 1), (3, .istore_n 3, 1), (4, .iload_n 3, 1), (5, .iconst 4, 1), (6, .if_icmp .ge 24, 3), (9, .aload_n 0, 1), (10, .iload_n 1, 1), (11, .iload_n 3, 1), (12, .invokevirtual 29, 3), (15, .ifCond .eq 9, 3), (18, .iload_n 2, 1), (19, .iconst 1, 1), (20, .iload_n 3, 1), (21, .ishl, 1), (22, .ior, 1), (23, .istore_n 2, 1), (24, .iinc 3 1, 3), (27, .goto (-23), 3), (30, .iload_n 2, 1), (31, .ireturn, 1)]
theorem tX7_kindsOf_ok : ztok cX7_kindsOf tX7_kindsOf = true := by decide +kernel
def tX7_agree : zT := [(0, .iconst 0, 1), (1, .istore_n 3, 1), (2, .iload_n 3, 1), (3, .aload_n 0, 1), (4, .getfield 21, 3), (7, .if_icmp .ge 45, 3), (10, .aload_n 0, 1), (11, .getfield 9, 3), (14, .iload_n 3, 1), (15, .iaload, 1), (16, .iload_n 1, 1), (17, .if_icmp .ne 29, 3), (20, .aload_n 0, 1), (21, .getfield 25, 3), (24, .iload_n 1, 1), (25, .iload_n 2, 1), (26, .aload_n 0, 1), (27, .getfield 15, 3), (30, .iload_n 3, 1), (31, .iaload, 1), (32, .invokevirtual 33, 3), (35, .aload_n 0, 1), (36, .getfield 18, 3), (39, .iload_n 3, 1), (40, .iaload, 1), (41, .if_icmp .eq 5, 3), (44, .iconst 0, 1), (45, .ireturn, 1), (46, .iinc 3 1, 3), (49, .goto (-47), 3), (52, .iconst 1, 1), (53, .ireturn, 1)]
theorem tX7_agree_ok : ztok cX7_agree tX7_agree = true := by decide +kernel
def tX8_init : zT := [(0, .aload_n 0, 1), (1, .invokespecial 3, 3), (4, .aload_n 0, 1), (5, .sipush 200, 3), (8, .newarray .int, 2), (10, .putfield 9, 3), (13, .aload_n 0, 1), (14, .iconst 0, 1), (15, .putfield 15, 3), (18, .return_, 1)]
theorem tX8_init_ok : ztok cX8_init tX8_init = true := by decide +kernel
def tX8_add : zT := [(0, .aload_n 0, 1), (1, .getfield 15, 3), (4, .aload_n 0, 1), (5, .getfield 9, 3), (8, .arraylength, 1), (9, .if_icmp .lt 4, 3), (12, .return_, 1), (13, .aload_n 0, 1), (14, .getfield 9, 3), (17, .aload_n 0, 1), (18, .getfield 15, 3), (21, .iload_n 1, 1), (22, .iastore, 1), (23, .aload_n 0, 1), (24, .dup, 1), (25, .getfield 15, 3), (28, .iconst 1, 1), (29, .iadd, 1), (30, .putfield 15, 3), (33, .return_, 1)]
theorem tX8_add_ok : ztok cX8_add tX8_add = true := by decide +kernel
def tX8_clear : zT := [(0, .aload_n 0, 1), (1, .iconst 0, 1), (2, .putfield 15, 3), (5, .return_, 1)]
theorem tX8_clear_ok : ztok cX8_clear tX8_clear = true := by decide +kernel
def tX8_letterAt : zT := [(0, .iload_n 1, 1), (1, .ifCond .lt 20, 3), (4, .iload_n 1, 1), (5, .aload_n 0, 1), (6, .getfield 15, 3), (9, .if_icmp .ge 12, 3), (12, .aload_n 0, 1), (13, .getfield 9, 3), (16, .iload_n 1, 1), (17, .iaload, 1), (18, .goto 5, 3), (21, .bipush (-4), 2), (23, .ireturn, 1)]
theorem tX8_letterAt_ok : ztok cX8_letterAt tX8_letterAt = true := by decide +kernel
def tX8_figureAt : zT := [(0, .iload_n 1, 1), (1, .ifCond .lt 11, 3), (4, .iload_n 1, 1), (5, .aload_n 0, 1), (6, .getfield 15, 3), (9, .if_icmp .lt 6, 3), (12, .bipush (-4), 2), (14, .ireturn, 1), (15, .aload_n 0, 1), (16, .getfield 9, 3), (19, .iload_n 1, 1), (20, .iaload, 1), (21, .istore_n 2, 1), (22, .iload_n 2, 1), (23, .bipush 48, 2), (25, .if_icmp .lt 16, 3), (28, .iload_n 2, 1), (29, .bipush 57, 2), (31, .if_icmp .gt 10, 3), (34, .iload_n 2, 1), (35, .bipush 48, 2), (37, .isub, 1), (38, .goto 5, 3), (41, .bipush (-4), 2), (43, .ireturn, 1)]
theorem tX8_figureAt_ok : ztok cX8_figureAt tX8_figureAt = true := by decide +kernel
def tX9_init : zT := [(0, .aload_n 0, 1), (1, .invokespecial 3, 3), (4, .aload_n 0, 1), (5, .new 9, 3), (8, .dup, 1), (9, .invokespecial 11, 3), (12, .putfield 12, 3), (15, .aload_n 0, 1), (16, .new 16, 3), (19, .dup, 1), (20, .aload_n 0, 1), (21, .getfield 12, 3), (24, .invokespecial 18, 3), (27, .putfield 21, 3), (30, .aload_n 0, 1), (31, .new 25, 3), (34, .dup, 1), (35, .invokespecial 27, 3), (38, .putfield 28, 3), (41, .aload_n 0, 1), (42, .new 25, 3), (45, .dup, 1), (46, .invokespecial 27, 3), (49, .putfield 32, 3), (52, .aload_n 0, 1), (53, .new 35, 3), (56, .dup, 1), (57, .aload_n 0, 1), (58, .getfield 32, 3), (61, .invokespecial 37, 3), (64, .putfield 40, 3), (67, .aload_n 0, 1), (68, .new 44, 3), (71, .dup, 1), (72, .aload_n 0, 1), (73, .getfield 32, 3), (76, .invokespecial 46, 3), (79, .putfield 47, 3), (82, .aload_n 0, 1), (83, .new 51, 3), (86, .dup, 1), (87, .aload_n 0, 1), (88, .getfield 32, 3), (91, .invokespecial 53, 3), (94, .putfield 54, 3), (97, .aload_n 0, 1), (98, .bipush 24, 2), (100, .newarray .int, 2), (102, .putfield 58, 3), (105, .aload_n 0, 1), (106, .new 62, 3), (109, .dup, 1), (110, .bipush 8, 2), (112, .invokespecial 64, 3), (115, .putfield 67, 3), (118, .aload_n 0, 1), (119, .new 62, 3), (122, .dup, 1), (123, .iconst 2, 1), (124, .invokespecial 64, 3), (127, .putfield 71, 3), (130, .aload_n 0, 1), (131, .new 74, 3), (134, .dup, 1), (135, .invokespecial 76, 3), (138, .putfield 77, 3), (141, .aload_n 0, 1), (142, .new 81, 3), (145, .dup, 1), (146, .aload_n 0, 1), (147, .getfield 32, 3), (150, .invokespecial 83, 3), (153, .putfield 84, 3), (156, .iconst 0, 1), (157, .istore_n 1, 1), (158, .iload_n 1, 1), (159, .ldc 88, 2), (161, .invokevirtual 90, 3), (164, .if_icmp .ge 22, 3), (167, .aload_n 0, 1), (168, .getfield 12, 3), (171, .ldc 88, 2), (173, .iload_n 1, 1), (174, .invokevirtual 96, 3), (177, .invokevirtual 100, 3), (180, .iinc 1 1, 3), (183, .goto (-25), 3), (186, .aload_n 0, 1), (187, .invokevirtual 103, 3), (190, .pop, 1), (191, .aload_n 0, 1), (192, .getfield 12, 3), (195, .invokevirtual 106, 3), (198, .return_, 1)]
theorem tX9_init_ok : ztok cX9_init tX9_init = true := by decide +kernel
def tX9_write : zT := [(0, .iload_n 1, 1), (1, .bipush 32, 2), (3, .if_icmp .lt 9, 3), (6, .iload_n 1, 1), (7, .bipush 126, 2), (9, .if_icmp .le 5, 3), (12, .iconst (-1), 1), (13, .ireturn, 1), (14, .aload_n 0, 1), (15, .getfield 12, 3), (18, .getfield 109, 3), (21, .sipush 200, 3), (24, .if_icmp .lt 6, 3), (27, .bipush (-3), 2), (29, .ireturn, 1), (30, .aload_n 0, 1), (31, .getfield 12, 3), (34, .iload_n 1, 1), (35, .invokevirtual 100, 3), (38, .aload_n 0, 1), (39, .getfield 12, 3), (42, .getfield 109, 3), (45, .ireturn, 1)]
theorem tX9_write_ok : ztok cX9_write tX9_write = true := by decide +kernel
def tX9_wipe : zT := [(0, .aload_n 0, 1), (1, .getfield 12, 3), (4, .getfield 109, 3), (7, .istore_n 1, 1), (8, .aload_n 0, 1), (9, .getfield 12, 3), (12, .invokevirtual 106, 3), (15, .iload_n 1, 1), (16, .ireturn, 1)]
theorem tX9_wipe_ok : ztok cX9_wipe tX9_wipe = true := by decide +kernel
def tX9_fault : zT := [(0, .aload_n 0, 1), (1, .getfield 21, 3), (4, .aload_n 0, 1), (5, .getfield 28, 3), (8, .invokevirtual 112, 3), (11, .ireturn, 1)]
theorem tX9_fault_ok : ztok cX9_fault tX9_fault = true := by decide +kernel
def tX9_lay : zT := [(0, .aload_n 0, 1), (1, .invokevirtual 103, 3), (4, .ireturn, 1)]
theorem tX9_lay_ok : ztok cX9_lay tX9_lay = true := by decide +kernel
def tX9_core : zT := [(0, .aload_n 0, 1), (1, .iload_n 1, 1), (2, .invokevirtual 116, 3), (5, .ifCond .ne 5, 3), (8, .iconst (-1), 1), (9, .ireturn, 1), (10, .iload_n 2, 1), (11, .tableswitch 142 0 6 #[41, 51, 61, 71, 81, 107, 133], 41), (52, .aload_n 0, 1), (53, .getfield 40, 3), (56, .getfield 120, 3), (59, .iload_n 1, 1), (60, .iaload, 1), (61, .ireturn, 1), (62, .aload_n 0, 1), (63, .getfield 32, 3), (66, .getfield 123, 3), (69, .iload_n 1, 1), (70, .iaload, 1), (71, .ireturn, 1), (72, .aload_n 0, 1), (73, .getfield 32, 3), (76, .getfield 126, 3), (79, .iload_n 1, 1), (80, .iaload, 1), (81, .ireturn, 1), (82, .aload_n 0, 1), (83, .getfield 32, 3), (86, .getfield 129, 3), (89, .iload_n 1, 1), (90, .iaload, 1), (91, .ireturn, 1), (92, .aload_n 0, 1), (93, .getfield 40, 3), (96, .iload_n 1, 1), (97, .invokevirtual 132, 3), (100, .ifCond .eq 15, 3), (103, .aload_n 0, 1), (104, .getfield 40, 3), (107, .getfield 135, 3), (110, .iload_n 1, 1), (111, .iaload, 1), (112, .goto 5, 3), (115, .bipush (-4), 2), (117, .ireturn, 1), (118, .aload_n 0, 1), (119, .getfield 40, 3), (122, .iload_n 1, 1), (123, .invokevirtual 132, 3), (126, .ifCond .eq 15, 3), (129, .aload_n 0, 1), (130, .getfield 40, 3), (133, .getfield 138, 3), (136, .iload_n 1, 1), (137, .iaload, 1), (138, .goto 5, 3), (141, .bipush (-4), 2), (143, .ireturn, 1), (144, .aload_n 0, 1), (145, .getfield 40, 3), (148, .iload_n 1, 1), (149, .invokevirtual 141, 3), (152, .ireturn, 1), (153, .iconst (-1), 1), (154, .ireturn, 1)]
theorem tX9_core_ok : ztok cX9_core tX9_core = true := by decide +kernel
def tX9_chain : zT := [(0, .aload_n 0, 1), (1, .iload_n 1, 1), (2, .invokevirtual 116, 3), (5, .ifCond .eq 7, 3), (8, .iload_n 2, 1), (9, .ifCond .ge 5, 3), (12, .iconst (-1), 1), (13, .ireturn, 1), (14, .iload_n 2, 1), (15, .aload_n 0, 1), (16, .getfield 32, 3), (19, .getfield 129, 3), (22, .iload_n 1, 1), (23, .iaload, 1), (24, .if_icmp .ge 17, 3), (27, .aload_n 0, 1), (28, .getfield 32, 3), (31, .getfield 145, 3), (34, .iload_n 1, 1), (35, .aaload, 1), (36, .iload_n 2, 1), (37, .iaload, 1), (38, .goto 5, 3), (41, .bipush (-4), 2), (43, .ireturn, 1)]
theorem tX9_chain_ok : ztok cX9_chain tX9_chain = true := by decide +kernel
def tX9_wrap : zT := [(0, .aload_n 0, 1), (1, .iload_n 1, 1), (2, .invokevirtual 116, 3), (5, .ifCond .eq 11, 3), (8, .aload_n 0, 1), (9, .iload_n 2, 1), (10, .invokevirtual 149, 3), (13, .ifCond .ne 5, 3), (16, .iconst (-1), 1), (17, .ireturn, 1), (18, .iload_n 3, 1), (19, .tableswitch 57 0 2 #[25, 37, 47], 25), (44, .aload_n 0, 1), (45, .getfield 32, 3), (48, .getfield 152, 3), (51, .iload_n 1, 1), (52, .aaload, 1), (53, .iload_n 2, 1), (54, .iaload, 1), (55, .ireturn, 1), (56, .aload_n 0, 1), (57, .getfield 32, 3), (60, .iload_n 1, 1), (61, .iload_n 2, 1), (62, .invokevirtual 155, 3), (65, .ireturn, 1), (66, .aload_n 0, 1), (67, .getfield 40, 3), (70, .iload_n 1, 1), (71, .iload_n 2, 1), (72, .invokevirtual 159, 3), (75, .ireturn, 1), (76, .iconst (-1), 1), (77, .ireturn, 1)]
theorem tX9_wrap_ok : ztok cX9_wrap tX9_wrap = true := by decide +kernel
def tX9_line : zT := [(0, .aload_n 0, 1), (1, .iload_n 1, 1), (2, .invokevirtual 116, 3), (5, .ifCond .eq 15, 3), (8, .aload_n 0, 1), (9, .iload_n 2, 1), (10, .invokevirtual 149, 3), (13, .ifCond .eq 7, 3), (16, .iload_n 3, 1), (17, .ifCond .ge 5, 3), (20, .iconst (-1), 1), (21, .ireturn, 1), (22, .iload_n 3, 1), (23, .aload_n 0, 1), (24, .getfield 32, 3), (27, .getfield 129, 3), (30, .iload_n 1, 1), (31, .iaload, 1), (32, .if_icmp .ge 22, 3), (35, .aload_n 0, 1), (36, .getfield 32, 3), (39, .getfield 162, 3), (42, .iload_n 1, 1), (43, .aaload, 1), (44, .iload_n 2, 1), (45, .bipush 6, 2), (47, .imul, 1), (48, .iload_n 3, 1), (49, .iadd, 1), (50, .iaload, 1), (51, .goto 5, 3), (54, .bipush (-4), 2), (56, .ireturn, 1)]
theorem tX9_line_ok : ztok cX9_line tX9_line = true := by decide +kernel
def tX9_put : zT := [(0, .aload_n 0, 1), (1, .iload_n 1, 1), (2, .invokevirtual 116, 3), (5, .ifCond .eq 18, 3), (8, .aload_n 0, 1), (9, .iload_n 2, 1), (10, .invokevirtual 149, 3), (13, .ifCond .eq 10, 3), (16, .iload_n 3, 1), (17, .invokestatic 165, 3), (20, .ifCond .ne 5, 3), (23, .iconst (-1), 1), (24, .ireturn, 1), (25, .aload_n 0, 1), (26, .getfield 40, 3), (29, .iload_n 1, 1), (30, .invokevirtual 132, 3), (33, .ifCond .eq 6, 3), (36, .bipush (-2), 2), (38, .ireturn, 1), (39, .aload_n 0, 1), (40, .getfield 40, 3), (43, .iload_n 1, 1), (44, .iload_n 2, 1), (45, .iload_n 3, 1), (46, .invokevirtual 168, 3), (49, .istore 4, 2), (51, .iload 4, 2), (53, .ifCond .eq 28, 3), (56, .aload_n 0, 1), (57, .getfield 77, 3), (60, .iload_n 1, 1), (61, .iload 4, 2), (63, .aload_n 0, 1), (64, .getfield 40, 3), (67, .iload 4, 2), (69, .iload_n 1, 1), (70, .iload_n 2, 1), (71, .iload_n 3, 1), (72, .invokevirtual 172, 3), (75, .invokevirtual 176, 3), (78, .bipush (-2), 2), (80, .ireturn, 1), (81, .aload_n 0, 1), (82, .invokevirtual 180, 3), (85, .aload_n 0, 1), (86, .getfield 40, 3), (89, .iload_n 1, 1), (90, .iload_n 2, 1), (91, .iload_n 3, 1), (92, .invokevirtual 183, 3), (95, .aload_n 0, 1), (96, .getfield 40, 3), (99, .invokevirtual 186, 3), (102, .ireturn, 1)]
theorem tX9_put_ok : ztok cX9_put tX9_put = true := by decide +kernel
def tX9_take : zT := [(0, .aload_n 0, 1), (1, .iload_n 1, 1), (2, .invokevirtual 116, 3), (5, .ifCond .ne 5, 3), (8, .iconst (-1), 1), (9, .ireturn, 1), (10, .aload_n 0, 1), (11, .getfield 40, 3), (14, .iload_n 1, 1), (15, .invokevirtual 132, 3), (18, .ifCond .ne 6, 3), (21, .bipush (-2), 2), (23, .ireturn, 1), (24, .aload_n 0, 1), (25, .invokevirtual 180, 3), (28, .aload_n 0, 1), (29, .getfield 40, 3), (32, .iload_n 1, 1), (33, .invokevirtual 187, 3), (36, .aload_n 0, 1), (37, .getfield 40, 3), (40, .invokevirtual 186, 3), (43, .ireturn, 1)]
theorem tX9_take_ok : ztok cX9_take tX9_take = true := by decide +kernel
def tX9_fill : zT := [(0, .aload_n 0, 1), (1, .getfield 40, 3), (4, .aload_n 0, 1), (5, .getfield 58, 3), (8, .invokevirtual 190, 3), (11, .iconst 0, 1), (12, .istore_n 1, 1), (13, .iconst 0, 1), (14, .istore_n 2, 1), (15, .iload_n 2, 1), (16, .aload_n 0, 1), (17, .getfield 32, 3), (20, .getfield 194, 3), (23, .if_icmp .ge 48, 3), (26, .aload_n 0, 1), (27, .getfield 40, 3), (30, .iload_n 2, 1), (31, .invokevirtual 132, 3), (34, .ifCond .eq 6, 3), (37, .goto 28, 3), (40, .aload_n 0, 1), (41, .getfield 40, 3), (44, .iload_n 2, 1), (45, .ldc 197, 2), (47, .invokevirtual 198, 3), (50, .ifCond .ne 12, 3), (53, .aload_n 0, 1), (54, .iload_n 2, 1), (55, .iload_n 1, 1), (56, .invokevirtual 202, 3), (59, .bipush (-2), 2), (61, .ireturn, 1), (62, .iinc 1 1, 3), (65, .iinc 2 1, 3), (68, .goto (-53), 3), (71, .aload_n 0, 1), (72, .getfield 67, 3), (75, .aload_n 0, 1), (76, .getfield 58, 3), (79, .invokevirtual 206, 3), (82, .aload_n 0, 1), (83, .getfield 40, 3), (86, .invokevirtual 186, 3), (89, .ireturn, 1)]
theorem tX9_fill_ok : ztok cX9_fill tX9_fill = true := by decide +kernel
def tX9_rename : zT := [(0, .aload_n 0, 1), (1, .iload_n 1, 1), (2, .invokevirtual 116, 3), (5, .ifCond .eq 12, 3), (8, .iload_n 2, 1), (9, .ifCond .lt 8, 3), (12, .iload_n 2, 1), (13, .iconst 4, 1), (14, .if_icmp .lt 5, 3), (17, .iconst (-1), 1), (18, .ireturn, 1), (19, .aload_n 0, 1), (20, .getfield 40, 3), (23, .getfield 120, 3), (26, .iload_n 1, 1), (27, .iaload, 1), (28, .istore_n 3, 1), (29, .iload_n 3, 1), (30, .iload_n 2, 1), (31, .if_icmp .eq 14, 3), (34, .aload_n 0, 1), (35, .getfield 40, 3), (38, .iload_n 1, 1), (39, .invokevirtual 132, 3), (42, .ifCond .eq 6, 3), (45, .bipush (-2), 2), (47, .ireturn, 1), (48, .aload_n 0, 1), (49, .invokevirtual 180, 3), (52, .aload_n 0, 1), (53, .getfield 40, 3), (56, .getfield 120, 3), (59, .iload_n 1, 1), (60, .iload_n 2, 1), (61, .iastore, 1), (62, .iload_n 3, 1), (63, .ireturn, 1)]
theorem tX9_rename_ok : ztok cX9_rename tX9_rename = true := by decide +kernel
def tX9_undo : zT := [(0, .aload_n 0, 1), (1, .getfield 67, 3), (4, .aload_n 0, 1), (5, .getfield 40, 3), (8, .invokevirtual 209, 3), (11, .ifCond .ne 6, 3), (14, .bipush (-2), 2), (16, .ireturn, 1), (17, .aload_n 0, 1), (18, .getfield 67, 3), (21, .getfield 213, 3), (24, .ireturn, 1)]
theorem tX9_undo_ok : ztok cX9_undo tX9_undo = true := by decide +kernel
def tX9_why : zT := [(0, .iload_n 1, 1), (1, .iconst (-1), 1), (2, .if_icmp .ge 5, 3), (5, .iconst (-1), 1), (6, .ireturn, 1), (7, .iload_n 1, 1), (8, .iconst (-1), 1), (9, .if_icmp .ne 11, 3), (12, .aload_n 0, 1), (13, .getfield 77, 3), (16, .getfield 216, 3), (19, .ireturn, 1), (20, .aload_n 0, 1), (21, .getfield 77, 3), (24, .iload_n 1, 1), (25, .invokevirtual 219, 3), (28, .ireturn, 1)]
theorem tX9_why_ok : ztok cX9_why tX9_why = true := by decide +kernel
def tX9_soonest : zT := [(0, .aload_n 0, 1), (1, .iload_n 1, 1), (2, .invokevirtual 116, 3), (5, .ifCond .eq 11, 3), (8, .aload_n 0, 1), (9, .iload_n 2, 1), (10, .invokevirtual 149, 3), (13, .ifCond .ne 5, 3), (16, .iconst (-1), 1), (17, .ireturn, 1), (18, .aload_n 0, 1), (19, .getfield 40, 3), (22, .iload_n 1, 1), (23, .invokevirtual 132, 3), (26, .ifCond .eq 8, 3), (29, .bipush (-4), 2), (31, .goto 14, 3), (34, .aload_n 0, 1), (35, .getfield 40, 3), (38, .iload_n 1, 1), (39, .iload_n 2, 1), (40, .ldc 197, 2), (42, .invokevirtual 222, 3), (45, .ireturn, 1)]
theorem tX9_soonest_ok : ztok cX9_soonest tX9_soonest = true := by decide +kernel
def tX9_runs : zT := [(0, .iload_n 1, 1), (1, .invokestatic 165, 3), (4, .ifCond .eq 12, 3), (7, .iload_n 2, 1), (8, .ifCond .lt 8, 3), (11, .iload_n 2, 1), (12, .iconst 2, 1), (13, .if_icmp .le 5, 3), (16, .iconst (-1), 1), (17, .ireturn, 1), (18, .aload_n 0, 1), (19, .getfield 40, 3), (22, .iload_n 2, 1), (23, .iload_n 1, 1), (24, .invokevirtual 225, 3), (27, .ireturn, 1)]
theorem tX9_runs_ok : ztok cX9_runs tX9_runs = true := by decide +kernel
def tX9_bound : zT := [(0, .iload_n 1, 1), (1, .tableswitch 79 0 3 #[31, 43, 55, 67], 31), (32, .aload_n 0, 1), (33, .getfield 47, 3), (36, .aload_n 0, 1), (37, .getfield 40, 3), (40, .invokevirtual 228, 3), (43, .ireturn, 1), (44, .aload_n 0, 1), (45, .getfield 47, 3), (48, .aload_n 0, 1), (49, .getfield 40, 3), (52, .invokevirtual 232, 3), (55, .ireturn, 1), (56, .aload_n 0, 1), (57, .getfield 47, 3), (60, .aload_n 0, 1), (61, .getfield 40, 3), (64, .invokevirtual 235, 3), (67, .ireturn, 1), (68, .aload_n 0, 1), (69, .getfield 47, 3), (72, .aload_n 0, 1), (73, .getfield 40, 3), (76, .invokevirtual 238, 3), (79, .ireturn, 1), (80, .iconst (-1), 1), (81, .ireturn, 1)]
theorem tX9_bound_ok : ztok cX9_bound tX9_bound = true := by decide +kernel
def tX9_best : zT := [(0, .iload_n 1, 1), (1, .iconst (-1), 1), (2, .if_icmp .lt 14, 3), (5, .iload_n 1, 1), (6, .aload_n 0, 1), (7, .getfield 32, 3), (10, .getfield 194, 3), (13, .if_icmp .lt 5, 3), (16, .iconst (-1), 1), (17, .ireturn, 1), (18, .aload_n 0, 1), (19, .getfield 54, 3), (22, .aload_n 0, 1), (23, .getfield 40, 3), (26, .bipush (-4), 2), (28, .invokevirtual 241, 3), (31, .istore_n 2, 1), (32, .iload_n 2, 1), (33, .bipush (-4), 2), (35, .if_icmp .eq 8, 3), (38, .iload_n 1, 1), (39, .iconst (-1), 1), (40, .if_icmp .ne 5, 3), (43, .iload_n 2, 1), (44, .ireturn, 1), (45, .aload_n 0, 1), (46, .getfield 54, 3), (49, .iload_n 1, 1), (50, .invokevirtual 245, 3), (53, .ireturn, 1)]
theorem tX9_best_ok : ztok cX9_best tX9_best = true := by decide +kernel
def tX9_costs : zT := [(0, .iload_n 1, 1), (1, .ifCond .lt 14, 3), (4, .iload_n 1, 1), (5, .aload_n 0, 1), (6, .getfield 32, 3), (9, .getfield 248, 3), (12, .if_icmp .lt 5, 3), (15, .iconst (-1), 1), (16, .ireturn, 1), (17, .aload_n 0, 1), (18, .getfield 54, 3), (21, .aload_n 0, 1), (22, .getfield 40, 3), (25, .bipush (-4), 2), (27, .invokevirtual 241, 3), (30, .istore_n 2, 1), (31, .aload_n 0, 1), (32, .getfield 54, 3), (35, .aload_n 0, 1), (36, .getfield 40, 3), (39, .iload_n 1, 1), (40, .invokevirtual 241, 3), (43, .istore_n 3, 1), (44, .iload_n 2, 1), (45, .bipush (-4), 2), (47, .if_icmp .eq 9, 3), (50, .iload_n 3, 1), (51, .bipush (-4), 2), (53, .if_icmp .ne 6, 3), (56, .bipush (-4), 2), (58, .ireturn, 1), (59, .iload_n 2, 1), (60, .iload_n 3, 1), (61, .isub, 1), (62, .ldc 251, 2), (64, .iadd, 1), (65, .ireturn, 1)]
theorem tX9_costs_ok : ztok cX9_costs tX9_costs = true := by decide +kernel
def tX9_seen : zT := [(0, .aload_n 0, 1), (1, .iload_n 1, 1), (2, .invokevirtual 116, 3), (5, .ifCond .eq 23, 3), (8, .aload_n 0, 1), (9, .iload_n 2, 1), (10, .invokevirtual 149, 3), (13, .ifCond .eq 15, 3), (16, .iload_n 3, 1), (17, .iconst 1, 1), (18, .if_icmp .lt 10, 3), (21, .iload_n 3, 1), (22, .sipush 9999, 3), (25, .if_icmp .le 5, 3), (28, .iconst (-1), 1), (29, .ireturn, 1), (30, .aload_n 0, 1), (31, .getfield 84, 3), (34, .getfield 252, 3), (37, .bipush 6, 2), (39, .if_icmp .lt 6, 3), (42, .bipush (-3), 2), (44, .ireturn, 1), (45, .aload_n 0, 1), (46, .getfield 84, 3), (49, .iload_n 1, 1), (50, .iload_n 2, 1), (51, .iload_n 3, 1), (52, .invokevirtual 253, 3), (55, .aload_n 0, 1), (56, .getfield 84, 3), (59, .getfield 252, 3), (62, .ireturn, 1)]
theorem tX9_seen_ok : ztok cX9_seen tX9_seen = true := by decide +kernel
def tX9_forget : zT := [(0, .aload_n 0, 1), (1, .getfield 84, 3), (4, .getfield 252, 3), (7, .istore_n 1, 1), (8, .aload_n 0, 1), (9, .getfield 84, 3), (12, .invokevirtual 255, 3), (15, .iload_n 1, 1), (16, .ireturn, 1)]
theorem tX9_forget_ok : ztok cX9_forget tX9_forget = true := by decide +kernel
def tX9_kinds : zT := [(0, .aload_n 0, 1), (1, .iload_n 1, 1), (2, .invokevirtual 116, 3), (5, .ifCond .ne 5, 3), (8, .iconst (-1), 1), (9, .ireturn, 1), (10, .aload_n 0, 1), (11, .getfield 84, 3), (14, .iload_n 1, 1), (15, .invokevirtual 256, 3), (18, .ireturn, 1)]
theorem tX9_kinds_ok : ztok cX9_kinds tX9_kinds = true := by decide +kernel
def tX9_keep : zT := [(0, .aload_n 0, 1), (1, .getfield 71, 3), (4, .getfield 213, 3), (7, .iconst 2, 1), (8, .if_icmp .lt 6, 3), (11, .bipush (-3), 2), (13, .ireturn, 1), (14, .aload_n 0, 1), (15, .getfield 40, 3), (18, .aload_n 0, 1), (19, .getfield 58, 3), (22, .invokevirtual 190, 3), (25, .aload_n 0, 1), (26, .getfield 71, 3), (29, .aload_n 0, 1), (30, .getfield 58, 3), (33, .invokevirtual 206, 3), (36, .aload_n 0, 1), (37, .getfield 71, 3), (40, .getfield 213, 3), (43, .ireturn, 1)]
theorem tX9_keep_ok : ztok cX9_keep tX9_keep = true := by decide +kernel
def tX9_back : zT := [(0, .aload_n 0, 1), (1, .getfield 71, 3), (4, .aload_n 0, 1), (5, .getfield 40, 3), (8, .invokevirtual 209, 3), (11, .ifCond .ne 6, 3), (14, .bipush (-2), 2), (16, .ireturn, 1), (17, .aload_n 0, 1), (18, .getfield 67, 3), (21, .invokevirtual 259, 3), (24, .aload_n 0, 1), (25, .getfield 71, 3), (28, .getfield 213, 3), (31, .ireturn, 1)]
theorem tX9_back_ok : ztok cX9_back tX9_back = true := by decide +kernel
def tX9_count : zT := [(0, .iload_n 1, 1), (1, .tableswitch 135 0 9 #[55, 63, 71, 79, 87, 95, 103, 111, 119, 127], 55), (56, .aload_n 0, 1), (57, .getfield 32, 3), (60, .getfield 194, 3), (63, .ireturn, 1), (64, .aload_n 0, 1), (65, .getfield 32, 3), (68, .getfield 248, 3), (71, .ireturn, 1), (72, .aload_n 0, 1), (73, .getfield 32, 3), (76, .getfield 260, 3), (79, .ireturn, 1), (80, .aload_n 0, 1), (81, .getfield 32, 3), (84, .getfield 263, 3), (87, .ireturn, 1), (88, .aload_n 0, 1), (89, .getfield 40, 3), (92, .invokevirtual 266, 3), (95, .ireturn, 1), (96, .aload_n 0, 1), (97, .getfield 40, 3), (100, .invokevirtual 186, 3), (103, .ireturn, 1), (104, .aload_n 0, 1), (105, .getfield 84, 3), (108, .getfield 252, 3), (111, .ireturn, 1), (112, .aload_n 0, 1), (113, .getfield 67, 3), (116, .getfield 213, 3), (119, .ireturn, 1), (120, .aload_n 0, 1), (121, .getfield 71, 3), (124, .getfield 213, 3), (127, .ireturn, 1), (128, .aload_n 0, 1), (129, .getfield 12, 3), (132, .getfield 109, 3), (135, .ireturn, 1), (136, .iconst (-1), 1), (137, .ireturn, 1)]
theorem tX9_count_ok : ztok cX9_count tX9_count = true := by decide +kernel
def tX9_isCore : zT := [(0, .iload_n 1, 1), (1, .ifCond .lt 18, 3), (4, .iload_n 1, 1), (5, .aload_n 0, 1), (6, .getfield 32, 3), (9, .getfield 194, 3), (12, .if_icmp .ge 7, 3), (15, .iconst 1, 1), (16, .goto 4, 3), (19, .iconst 0, 1), (20, .ireturn, 1)]
theorem tX9_isCore_ok : ztok cX9_isCore tX9_isCore = true := by decide +kernel
def tX9_isWidth : zT := [(0, .iload_n 1, 1), (1, .iconst 1, 1), (2, .if_icmp .lt 18, 3), (5, .iload_n 1, 1), (6, .aload_n 0, 1), (7, .getfield 32, 3), (10, .getfield 260, 3), (13, .if_icmp .gt 7, 3), (16, .iconst 1, 1), (17, .goto 4, 3), (20, .iconst 0, 1), (21, .ireturn, 1)]
theorem tX9_isWidth_ok : ztok cX9_isWidth tX9_isWidth = true := by decide +kernel
def tX9_isCycle : zT := [(0, .iload_n 0, 1), (1, .ifCond .lt 14, 3), (4, .iload_n 0, 1), (5, .ldc_w 269, 3), (8, .if_icmp .gt 7, 3), (11, .iconst 1, 1), (12, .goto 4, 3), (15, .iconst 0, 1), (16, .ireturn, 1)]
theorem tX9_isCycle_ok : ztok cX9_isCycle tX9_isCycle = true := by decide +kernel
def tX9_layText : zT := [(0, .aload_n 0, 1), (1, .getfield 21, 3), (4, .aload_n 0, 1), (5, .getfield 28, 3), (8, .invokevirtual 112, 3), (11, .bipush (-4), 2), (13, .if_icmp .ne 13, 3), (16, .aload_n 0, 1), (17, .getfield 28, 3), (20, .getfield 194, 3), (23, .ifCond .ne 6, 3), (26, .bipush (-2), 2), (28, .ireturn, 1), (29, .aload_n 0, 1), (30, .getfield 21, 3), (33, .aload_n 0, 1), (34, .getfield 32, 3), (37, .invokevirtual 112, 3), (40, .pop, 1), (41, .aload_n 0, 1), (42, .getfield 32, 3), (45, .invokevirtual 270, 3), (48, .aload_n 0, 1), (49, .getfield 40, 3), (52, .bipush (-4), 2), (54, .invokevirtual 273, 3), (57, .iconst 0, 1), (58, .istore_n 1, 1), (59, .iload_n 1, 1), (60, .aload_n 0, 1), (61, .getfield 32, 3), (64, .getfield 194, 3), (67, .if_icmp .ge 27, 3), (70, .aload_n 0, 1), (71, .getfield 40, 3), (74, .getfield 120, 3), (77, .iload_n 1, 1), (78, .aload_n 0, 1), (79, .getfield 32, 3), (82, .getfield 276, 3), (85, .iload_n 1, 1), (86, .iaload, 1), (87, .iastore, 1), (88, .iinc 1 1, 3), (91, .goto (-32), 3), (94, .aload_n 0, 1), (95, .getfield 54, 3), (98, .invokevirtual 277, 3), (101, .aload_n 0, 1), (102, .getfield 67, 3), (105, .invokevirtual 259, 3), (108, .aload_n 0, 1), (109, .getfield 71, 3), (112, .invokevirtual 259, 3), (115, .aload_n 0, 1), (116, .getfield 77, 3), (119, .invokevirtual 280, 3), (122, .aload_n 0, 1), (123, .getfield 84, 3), (126, .invokevirtual 255, 3), (129, .aload_n 0, 1), (130, .getfield 32, 3), (133, .getfield 194, 3), (136, .ireturn, 1)]
theorem tX9_layText_ok : ztok cX9_layText tX9_layText = true := by decide +kernel
def tX9_remember : zT := [(0, .aload_n 0, 1), (1, .getfield 40, 3), (4, .aload_n 0, 1), (5, .getfield 58, 3), (8, .invokevirtual 190, 3), (11, .aload_n 0, 1), (12, .getfield 67, 3), (15, .aload_n 0, 1), (16, .getfield 58, 3), (19, .invokevirtual 206, 3), (22, .return_, 1)]
theorem tX9_remember_ok : ztok cX9_remember tX9_remember = true := by decide +kernel
def tX9_stuck : zT := [(0, .aload_n 0, 1), (1, .getfield 40, 3), (4, .invokevirtual 186, 3), (7, .istore_n 3, 1), (8, .aload_n 0, 1), (9, .getfield 40, 3), (12, .iload_n 1, 1), (13, .iconst 1, 1), (14, .iload_n 3, 1), (15, .invokevirtual 168, 3), (18, .istore 4, 2), (20, .aload_n 0, 1), (21, .getfield 77, 3), (24, .iload_n 2, 1), (25, .iload_n 1, 1), (26, .iload 4, 2), (28, .aload_n 0, 1), (29, .getfield 40, 3), (32, .iload 4, 2), (34, .iload_n 1, 1), (35, .iconst 1, 1), (36, .iload_n 3, 1), (37, .invokevirtual 172, 3), (40, .invokevirtual 281, 3), (43, .aload_n 0, 1), (44, .getfield 40, 3), (47, .aload_n 0, 1), (48, .getfield 58, 3), (51, .invokevirtual 285, 3), (54, .return_, 1)]
theorem tX9_stuck_ok : ztok cX9_stuck tX9_stuck = true := by decide +kernel
def tX10_init : zT := [(0, .aload_n 0, 1), (1, .invokespecial 1, 3), (4, .aload_n 0, 1), (5, .bipush 6, 2), (7, .newarray .int, 2), (9, .putfield 7, 3), (12, .aload_n 0, 1), (13, .bipush 6, 2), (15, .newarray .int, 2), (17, .putfield 13, 3), (20, .aload_n 0, 1), (21, .bipush 6, 2), (23, .newarray .int, 2), (25, .putfield 16, 3), (28, .aload_n 0, 1), (29, .bipush 36, 2), (31, .newarray .int, 2), (33, .putfield 19, 3), (36, .aload_n 0, 1), (37, .bipush 8, 2), (39, .newarray .int, 2), (41, .putfield 22, 3), (44, .aload_n 0, 1), (45, .bipush 8, 2), (47, .newarray .int, 2), (49, .putfield 25, 3), (52, .aload_n 0, 1), (53, .bipush 18, 2), (55, .newarray .int, 2), (57, .putfield 28, 3), (60, .aload_n 0, 1), (61, .sipush 144, 3), (64, .newarray .int, 2), (66, .putfield 31, 3), (69, .aload_n 0, 1), (70, .bipush 18, 2), (72, .newarray .int, 2), (74, .putfield 34, 3), (77, .aload_n 0, 1), (78, .bipush 36, 2), (80, .newarray .int, 2), (82, .putfield 37, 3), (85, .aload_n 0, 1), (86, .iconst 4, 1), (87, .newarray .int, 2), (89, .putfield 40, 3), (92, .aload_n 0, 1), (93, .sipush 200, 3), (96, .newarray .int, 2), (98, .putfield 43, 3), (101, .aload_n 0, 1), (102, .bipush 6, 2), (104, .newarray .int, 2), (106, .putfield 46, 3), (109, .aload_n 0, 1), (110, .bipush 6, 2), (112, .newarray .int, 2), (114, .putfield 49, 3), (117, .aload_n 0, 1), (118, .bipush 6, 2), (120, .newarray .int, 2), (122, .putfield 52, 3), (125, .aload_n 0, 1), (126, .bipush 6, 2), (128, .newarray .int, 2), (130, .putfield 55, 3), (133, .aload_n 0, 1), (134, .bipush 36, 2), (136, .newarray .int, 2), (138, .putfield 58, 3), (141, .aload_n 0, 1), (142, .bipush 8, 2), (144, .newarray .int, 2), (146, .putfield 61, 3), (149, .aload_n 0, 1), (150, .bipush 8, 2), (152, .newarray .int, 2), (154, .putfield 64, 3), (157, .aload_n 0, 1), (158, .bipush 8, 2), (160, .newarray .int, 2), (162, .putfield 67, 3), (165, .aload_n 0, 1), (166, .bipush 6, 2), (168, .newarray .int, 2), (170, .putfield 70, 3), (173, .aload_n 0, 1), (174, .bipush 54, 2), (176, .newarray .int, 2), (178, .putfield 73, 3), (181, .aload_n 0, 1), (182, .bipush 18, 2), (184, .newarray .int, 2), (186, .putfield 76, 3), (189, .aload_n 0, 1), (190, .bipush 18, 2), (192, .newarray .int, 2), (194, .putfield 79, 3), (197, .aload_n 0, 1), (198, .bipush 6, 2), (200, .newarray .int, 2), (202, .putfield 82, 3), (205, .aload_n 0, 1), (206, .bipush 6, 2), (208, .newarray .int, 2), (210, .putfield 85, 3), (213, .aload_n 0, 1), (214, .bipush 6, 2), (216, .newarray .int, 2), (218, .putfield 88, 3), (221, .aload_n 0, 1), (222, .iconst 4, 1), (223, .putfield 91, 3), (226, .aload_n 0, 1), (227, .bipush 20, 2), (229, .putfield 95, 3), (232, .aload_n 0, 1), (233, .iconst 0, 1), (234, .iconst 5, 1), (235, .bipush 6, 2), (237, .ldc2_w 98, 3), (240, .invokevirtual 100, 3), (243, .aload_n 0, 1), (244, .iconst 1, 1), (245, .iconst 4, 1), (246, .bipush 9, 2), (248, .ldc2_w 104, 3), (251, .invokevirtual 100, 3), (254, .aload_n 0, 1), (255, .iconst 2, 1), (256, .bipush 9, 2), (258, .iconst 4, 1), (259, .ldc2_w 106, 3), (262, .invokevirtual 100, 3), (265, .aload_n 0, 1), (266, .iconst 3, 1), (267, .bipush 8, 2), (269, .bipush 11, 2), (271, .ldc2_w 108, 3), (274, .invokevirtual 100, 3), (277, .aload_n 0, 1), (278, .iconst 0, 1), (279, .bipush 12, 2), (281, .iconst 5, 1), (282, .ldc2_w 110, 3), (285, .invokevirtual 100, 3), (288, .aload_n 0, 1), (289, .aload_n 0, 1), (290, .getfield 112, 3), (293, .putfield 115, 3), (296, .aload_n 0, 1), (297, .invokevirtual 118, 3), (300, .aload_n 0, 1), (301, .iconst 2, 1), (302, .putfield 121, 3), (305, .aload_n 0, 1), (306, .getfield 25, 3), (309, .iconst 0, 1), (310, .iconst 3, 1), (311, .iastore, 1), (312, .aload_n 0, 1), (313, .getfield 22, 3), (316, .iconst 1, 1), (317, .iconst 1, 1), (318, .iastore, 1), (319, .aload_n 0, 1), (320, .getfield 25, 3), (323, .iconst 1, 1), (324, .iconst 4, 1), (325, .iastore, 1), (326, .return_, 1)]
theorem tX10_init_ok : ztok cX10_init tX10_init = true := by decide +kernel
def tX10_in : zT := [(0, .lload_n 0, 1), (1, .lload_n 2, 1), (2, .lcmp, 1), (3, .ifCond .lt 14, 3), (6, .lload_n 0, 1), (7, .lload 4, 2), (9, .lcmp, 1), (10, .ifCond .gt 7, 3), (13, .iconst 1, 1), (14, .goto 4, 3), (17, .iconst 0, 1), (18, .ireturn, 1)]
theorem tX10_in_ok : ztok cX10_in tX10_in = true := by decide +kernel
def tX10_isCore : zT := [(0, .iload_n 1, 1), (1, .i2l, 1), (2, .lconst 0, 1), (3, .aload_n 0, 1), (4, .getfield 115, 3), (7, .iconst 1, 1), (8, .isub, 1), (9, .i2l, 1), (10, .invokestatic 124, 3), (13, .ireturn, 1)]
theorem tX10_isCore_ok : ztok cX10_isCore tX10_isCore = true := by decide +kernel
def tX10_isWidth : zT := [(0, .iload_n 1, 1), (1, .i2l, 1), (2, .lconst 1, 1), (3, .aload_n 0, 1), (4, .getfield 91, 3), (7, .i2l, 1), (8, .invokestatic 124, 3), (11, .ireturn, 1)]
theorem tX10_isWidth_ok : ztok cX10_isWidth tX10_isWidth = true := by decide +kernel
def tX10_isPut : zT := [(0, .aload_n 0, 1), (1, .getfield 28, 3), (4, .bipush 6, 2), (6, .iload_n 1, 1), (7, .iadd, 1), (8, .iaload, 1), (9, .ifCond .le 7, 3), (12, .iconst 1, 1), (13, .goto 4, 3), (16, .iconst 0, 1), (17, .ireturn, 1)]
theorem tX10_isPut_ok : ztok cX10_isPut tX10_isPut = true := by decide +kernel
def tX10_tell : zT := [(0, .aload_n 0, 1), (1, .getfield 112, 3), (4, .istore 6, 2), (6, .aload_n 0, 1), (7, .getfield 46, 3), (10, .iload 6, 2), (12, .iload_n 1, 1), (13, .iastore, 1), (14, .aload_n 0, 1), (15, .getfield 49, 3), (18, .iload 6, 2), (20, .iload_n 2, 1), (21, .iastore, 1), (22, .aload_n 0, 1), (23, .getfield 52, 3), (26, .iload 6, 2), (28, .iload_n 3, 1), (29, .iastore, 1), (30, .iconst 0, 1), (31, .istore 7, 2), (33, .lload 4, 2), (35, .lstore 8, 2), (37, .lload 8, 2), (39, .lconst 0, 1), (40, .lcmp, 1), (41, .ifCond .le 17, 3), (44, .iinc 7 1, 3), (47, .lload 8, 2), (49, .ldc2_w 128, 3), (52, .ldiv, 1), (53, .lstore 8, 2), (55, .goto (-18), 3), (58, .aload_n 0, 1), (59, .getfield 55, 3), (62, .iload 6, 2), (64, .iload 7, 2), (66, .iastore, 1), (67, .lload 4, 2), (69, .lstore 8, 2), (71, .iload 7, 2), (73, .iconst 1, 1), (74, .isub, 1), (75, .istore 10, 2), (77, .iload 10, 2), (79, .ifCond .lt 37, 3), (82, .aload_n 0, 1), (83, .getfield 58, 3), (86, .bipush 6, 2), (88, .iload 6, 2), (90, .imul, 1), (91, .iload 10, 2), (93, .iadd, 1), (94, .lload 8, 2), (96, .ldc2_w 128, 3), (99, .lrem, 1), (100, .l2i, 1), (101, .iastore, 1), (102, .lload 8, 2), (104, .ldc2_w 128, 3), (107, .ldiv, 1), (108, .lstore 8, 2), (110, .iinc 10 (-1), 3), (113, .goto (-36), 3), (116, .aload_n 0, 1), (117, .dup, 1), (118, .getfield 112, 3), (121, .iconst 1, 1), (122, .iadd, 1), (123, .putfield 112, 3), (126, .return_, 1)]
theorem tX10_tell_ok : ztok cX10_tell tX10_tell = true := by decide +kernel
def tX10_takeCores : zT := [(0, .iconst 0, 1), (1, .istore_n 1, 1), (2, .iload_n 1, 1), (3, .aload_n 0, 1), (4, .getfield 115, 3), (7, .if_icmp .ge 115, 3), (10, .aload_n 0, 1), (11, .getfield 28, 3), (14, .iconst 0, 1), (15, .iload_n 1, 1), (16, .iadd, 1), (17, .aload_n 0, 1), (18, .getfield 46, 3), (21, .iload_n 1, 1), (22, .iaload, 1), (23, .iastore, 1), (24, .aload_n 0, 1), (25, .getfield 28, 3), (28, .bipush 6, 2), (30, .iload_n 1, 1), (31, .iadd, 1), (32, .iconst 0, 1), (33, .iastore, 1), (34, .aload_n 0, 1), (35, .getfield 28, 3), (38, .bipush 12, 2), (40, .iload_n 1, 1), (41, .iadd, 1), (42, .iconst 0, 1), (43, .iastore, 1), (44, .aload_n 0, 1), (45, .getfield 7, 3), (48, .iload_n 1, 1), (49, .aload_n 0, 1), (50, .getfield 49, 3), (53, .iload_n 1, 1), (54, .iaload, 1), (55, .iastore, 1), (56, .aload_n 0, 1), (57, .getfield 13, 3), (60, .iload_n 1, 1), (61, .aload_n 0, 1), (62, .getfield 52, 3), (65, .iload_n 1, 1), (66, .iaload, 1), (67, .iastore, 1), (68, .aload_n 0, 1), (69, .getfield 16, 3), (72, .iload_n 1, 1), (73, .aload_n 0, 1), (74, .getfield 55, 3), (77, .iload_n 1, 1), (78, .iaload, 1), (79, .iastore, 1), (80, .iconst 0, 1), (81, .istore_n 2, 1), (82, .iload_n 2, 1), (83, .bipush 6, 2), (85, .if_icmp .ge 31, 3), (88, .aload_n 0, 1), (89, .getfield 19, 3), (92, .bipush 6, 2), (94, .iload_n 1, 1), (95, .imul, 1), (96, .iload_n 2, 1), (97, .iadd, 1), (98, .aload_n 0, 1), (99, .getfield 58, 3), (102, .bipush 6, 2), (104, .iload_n 1, 1), (105, .imul, 1), (106, .iload_n 2, 1), (107, .iadd, 1), (108, .iaload, 1), (109, .iastore, 1), (110, .iinc 2 1, 3), (113, .goto (-31), 3), (116, .iinc 1 1, 3), (119, .goto (-117), 3), (122, .return_, 1)]
theorem tX10_takeCores_ok : ztok cX10_takeCores tX10_takeCores = true := by decide +kernel
def tX10_write : zT := [(0, .iload_n 1, 1), (1, .i2l, 1), (2, .ldc2_w 130, 3), (5, .ldc2_w 132, 3), (8, .invokestatic 124, 3), (11, .ifCond .ne 5, 3), (14, .iconst (-1), 1), (15, .ireturn, 1), (16, .aload_n 0, 1), (17, .getfield 134, 3), (20, .sipush 200, 3), (23, .if_icmp .ne 6, 3), (26, .bipush (-3), 2), (28, .ireturn, 1), (29, .aload_n 0, 1), (30, .getfield 43, 3), (33, .aload_n 0, 1), (34, .getfield 134, 3), (37, .iload_n 1, 1), (38, .iastore, 1), (39, .aload_n 0, 1), (40, .dup, 1), (41, .getfield 134, 3), (44, .iconst 1, 1), (45, .iadd, 1), (46, .putfield 134, 3), (49, .aload_n 0, 1), (50, .getfield 134, 3), (53, .ireturn, 1)]
theorem tX10_write_ok : ztok cX10_write tX10_write = true := by decide +kernel
def tX10_wipe : zT := [(0, .aload_n 0, 1), (1, .getfield 134, 3), (4, .istore_n 1, 1), (5, .aload_n 0, 1), (6, .iconst 0, 1), (7, .putfield 134, 3), (10, .iload_n 1, 1), (11, .ireturn, 1)]
theorem tX10_wipe_ok : ztok cX10_wipe tX10_wipe = true := by decide +kernel
def tX10_letter : zT := [(0, .aload_n 0, 1), (1, .getfield 137, 3), (4, .aload_n 0, 1), (5, .getfield 134, 3), (8, .if_icmp .ge 15, 3), (11, .aload_n 0, 1), (12, .getfield 43, 3), (15, .aload_n 0, 1), (16, .getfield 137, 3), (19, .iaload, 1), (20, .goto 4, 3), (23, .iconst (-1), 1), (24, .ireturn, 1)]
theorem tX10_letter_ok : ztok cX10_letter tX10_letter = true := by decide +kernel
def tX10_isSign : zT := [(0, .aload_n 0, 1), (1, .invokevirtual 140, 3), (4, .iload_n 1, 1), (5, .if_icmp .ne 7, 3), (8, .iconst 1, 1), (9, .goto 4, 3), (12, .iconst 0, 1), (13, .istore_n 2, 1), (14, .aload_n 0, 1), (15, .dup, 1), (16, .getfield 137, 3), (19, .iload_n 2, 1), (20, .ifCond .eq 7, 3), (23, .iconst 1, 1), (24, .goto 4, 3), (27, .iconst 0, 1), (28, .iadd, 1), (29, .putfield 137, 3), (32, .iload_n 2, 1), (33, .ireturn, 1)]
theorem tX10_isSign_ok : ztok cX10_isSign tX10_isSign = true := by decide +kernel
def tX10_takesNumber : zT := [(0, .aload_n 0, 1), (1, .getfield 137, 3), (4, .istore_n 3, 1), (5, .aload_n 0, 1), (6, .iconst 0, 1), (7, .putfield 144, 3), (10, .aload_n 0, 1), (11, .invokevirtual 140, 3), (14, .i2l, 1), (15, .ldc2_w 147, 3), (18, .ldc2_w 149, 3), (21, .invokestatic 124, 3), (24, .ifCond .eq 45, 3), (27, .aload_n 0, 1), (28, .getfield 137, 3), (31, .iload_n 3, 1), (32, .isub, 1), (33, .iconst 3, 1), (34, .if_icmp .ge 35, 3), (37, .aload_n 0, 1), (38, .bipush 10, 2), (40, .aload_n 0, 1), (41, .getfield 144, 3), (44, .imul, 1), (45, .aload_n 0, 1), (46, .invokevirtual 140, 3), (49, .iadd, 1), (50, .bipush 48, 2), (52, .isub, 1), (53, .putfield 144, 3), (56, .aload_n 0, 1), (57, .dup, 1), (58, .getfield 137, 3), (61, .iconst 1, 1), (62, .iadd, 1), (63, .putfield 137, 3), (66, .goto (-56), 3), (69, .aload_n 0, 1), (70, .getfield 137, 3), (73, .iload_n 3, 1), (74, .isub, 1), (75, .i2l, 1), (76, .lconst 1, 1), (77, .ldc2_w 151, 3), (80, .invokestatic 124, 3), (83, .ifCond .eq 22, 3), (86, .aload_n 0, 1), (87, .getfield 144, 3), (90, .i2l, 1), (91, .iload_n 1, 1), (92, .i2l, 1), (93, .iload_n 2, 1), (94, .i2l, 1), (95, .invokestatic 124, 3), (98, .ifCond .eq 7, 3), (101, .iconst 1, 1), (102, .goto 4, 3), (105, .iconst 0, 1), (106, .ireturn, 1)]
theorem tX10_takesNumber_ok : ztok cX10_takesNumber tX10_takesNumber = true := by decide +kernel
def tX10_takesRow : zT := [(0, .iconst 0, 1), (1, .istore_n 2, 1), (2, .aload_n 0, 1), (3, .invokevirtual 140, 3), (6, .i2l, 1), (7, .ldc2_w 153, 3), (10, .ldc2_w 149, 3), (13, .invokestatic 124, 3), (16, .ifCond .eq 43, 3), (19, .iload_n 2, 1), (20, .bipush 6, 2), (22, .if_icmp .ge 37, 3), (25, .aload_n 0, 1), (26, .getfield 58, 3), (29, .bipush 6, 2), (31, .iload_n 1, 1), (32, .imul, 1), (33, .iload_n 2, 1), (34, .iadd, 1), (35, .aload_n 0, 1), (36, .invokevirtual 140, 3), (39, .bipush 48, 2), (41, .isub, 1), (42, .iastore, 1), (43, .iinc 2 1, 3), (46, .aload_n 0, 1), (47, .dup, 1), (48, .getfield 137, 3), (51, .iconst 1, 1), (52, .iadd, 1), (53, .putfield 137, 3), (56, .goto (-54), 3), (59, .aload_n 0, 1), (60, .getfield 55, 3), (63, .iload_n 1, 1), (64, .iload_n 2, 1), (65, .iastore, 1), (66, .iload_n 2, 1), (67, .ifCond .le 7, 3), (70, .iconst 1, 1), (71, .goto 4, 3), (74, .iconst 0, 1), (75, .ireturn, 1)]
theorem tX10_takesRow_ok : ztok cX10_takesRow tX10_takesRow = true := by decide +kernel
def tX10_takesCore : zT := [(0, .aload_n 0, 1), (1, .getfield 112, 3), (4, .istore_n 1, 1), (5, .iload_n 1, 1), (6, .bipush 6, 2), (8, .if_icmp .eq 12, 3), (11, .aload_n 0, 1), (12, .iconst 0, 1), (13, .iconst 3, 1), (14, .invokevirtual 155, 3), (17, .ifCond .ne 5, 3), (20, .iconst 0, 1), (21, .ireturn, 1), (22, .aload_n 0, 1), (23, .getfield 46, 3), (26, .iload_n 1, 1), (27, .aload_n 0, 1), (28, .getfield 144, 3), (31, .iastore, 1), (32, .aload_n 0, 1), (33, .bipush 44, 2), (35, .invokevirtual 159, 3), (38, .ifCond .eq 13, 3), (41, .aload_n 0, 1), (42, .iconst 1, 1), (43, .bipush 20, 2), (45, .invokevirtual 155, 3), (48, .ifCond .ne 5, 3), (51, .iconst 0, 1), (52, .ireturn, 1), (53, .aload_n 0, 1), (54, .getfield 49, 3), (57, .iload_n 1, 1), (58, .aload_n 0, 1), (59, .getfield 144, 3), (62, .iastore, 1), (63, .aload_n 0, 1), (64, .bipush 44, 2), (66, .invokevirtual 159, 3), (69, .ifCond .eq 13, 3), (72, .aload_n 0, 1), (73, .iconst 1, 1), (74, .bipush 30, 2), (76, .invokevirtual 155, 3), (79, .ifCond .ne 5, 3), (82, .iconst 0, 1), (83, .ireturn, 1), (84, .aload_n 0, 1), (85, .getfield 52, 3), (88, .iload_n 1, 1), (89, .aload_n 0, 1), (90, .getfield 144, 3), (93, .iastore, 1), (94, .aload_n 0, 1), (95, .bipush 44, 2), (97, .invokevirtual 159, 3), (100, .ifCond .eq 20, 3), (103, .aload_n 0, 1), (104, .iload_n 1, 1), (105, .invokevirtual 163, 3), (108, .ifCond .eq 12, 3), (111, .aload_n 0, 1), (112, .bipush 59, 2), (114, .invokevirtual 159, 3), (117, .ifCond .ne 5, 3), (120, .iconst 0, 1), (121, .ireturn, 1), (122, .aload_n 0, 1), (123, .dup, 1), (124, .getfield 112, 3), (127, .iconst 1, 1), (128, .iadd, 1), (129, .putfield 112, 3), (132, .iconst 1, 1), (133, .ireturn, 1)]
theorem tX10_takesCore_ok : ztok cX10_takesCore tX10_takesCore = true := by decide +kernel
def tX10_takesRule : zT := [(0, .aload_n 0, 1), (1, .getfield 166, 3), (4, .bipush 8, 2), (6, .if_icmp .eq 17, 3), (9, .aload_n 0, 1), (10, .iconst 0, 1), (11, .aload_n 0, 1), (12, .getfield 112, 3), (15, .iconst 1, 1), (16, .isub, 1), (17, .invokevirtual 155, 3), (20, .ifCond .ne 5, 3), (23, .iconst 0, 1), (24, .ireturn, 1), (25, .aload_n 0, 1), (26, .getfield 61, 3), (29, .aload_n 0, 1), (30, .getfield 166, 3), (33, .aload_n 0, 1), (34, .getfield 144, 3), (37, .iastore, 1), (38, .aload_n 0, 1), (39, .bipush 44, 2), (41, .invokevirtual 159, 3), (44, .ifCond .eq 27, 3), (47, .aload_n 0, 1), (48, .aload_n 0, 1), (49, .getfield 61, 3), (52, .aload_n 0, 1), (53, .getfield 166, 3), (56, .iaload, 1), (57, .iconst 1, 1), (58, .iadd, 1), (59, .aload_n 0, 1), (60, .getfield 112, 3), (63, .iconst 1, 1), (64, .isub, 1), (65, .invokevirtual 155, 3), (68, .ifCond .ne 5, 3), (71, .iconst 0, 1), (72, .ireturn, 1), (73, .aload_n 0, 1), (74, .getfield 64, 3), (77, .aload_n 0, 1), (78, .getfield 166, 3), (81, .aload_n 0, 1), (82, .getfield 144, 3), (85, .iastore, 1), (86, .aload_n 0, 1), (87, .dup, 1), (88, .getfield 166, 3), (91, .iconst 1, 1), (92, .iadd, 1), (93, .putfield 166, 3), (96, .aload_n 0, 1), (97, .bipush 59, 2), (99, .invokevirtual 159, 3), (102, .ireturn, 1)]
theorem tX10_takesRule_ok : ztok cX10_takesRule tX10_takesRule = true := by decide +kernel
def tX10_takesItem : zT := [(0, .aload_n 0, 1), (1, .getfield 137, 3), (4, .istore_n 1, 1), (5, .aload_n 0, 1), (6, .invokevirtual 140, 3), (9, .istore_n 2, 1), (10, .aload_n 0, 1), (11, .dup, 1), (12, .getfield 137, 3), (15, .iconst 1, 1), (16, .iadd, 1), (17, .putfield 137, 3), (20, .iload_n 2, 1), (21, .lookupswitch 111 #[(98, 106), (99, 101), (109, 74), (119, 43)], 43), (64, .iload_n 1, 1), (65, .ifCond .gt 13, 3), (68, .aload_n 0, 1), (69, .iconst 1, 1), (70, .bipush 8, 2), (72, .invokevirtual 155, 3), (75, .ifCond .ne 5, 3), (78, .iconst 0, 1), (79, .ireturn, 1), (80, .aload_n 0, 1), (81, .aload_n 0, 1), (82, .getfield 144, 3), (85, .putfield 169, 3), (88, .aload_n 0, 1), (89, .bipush 59, 2), (91, .invokevirtual 159, 3), (94, .ireturn, 1), (95, .aload_n 0, 1), (96, .iconst 1, 1), (97, .bipush 40, 2), (99, .invokevirtual 155, 3), (102, .ifCond .ne 5, 3), (105, .iconst 0, 1), (106, .ireturn, 1), (107, .aload_n 0, 1), (108, .aload_n 0, 1), (109, .getfield 144, 3), (112, .putfield 172, 3), (115, .aload_n 0, 1), (116, .bipush 59, 2), (118, .invokevirtual 159, 3), (121, .ireturn, 1), (122, .aload_n 0, 1), (123, .invokevirtual 175, 3), (126, .ireturn, 1), (127, .aload_n 0, 1), (128, .invokevirtual 179, 3), (131, .ireturn, 1), (132, .iconst 0, 1), (133, .ireturn, 1)]
theorem tX10_takesItem_ok : ztok cX10_takesItem tX10_takesItem = true := by decide +kernel
def tX10_fault : zT := [(0, .aload_n 0, 1), (1, .iconst 0, 1), (2, .putfield 137, 3), (5, .aload_n 0, 1), (6, .iconst 4, 1), (7, .putfield 169, 3), (10, .aload_n 0, 1), (11, .bipush 20, 2), (13, .putfield 172, 3), (16, .aload_n 0, 1), (17, .iconst 0, 1), (18, .putfield 112, 3), (21, .aload_n 0, 1), (22, .iconst 0, 1), (23, .putfield 166, 3), (26, .aload_n 0, 1), (27, .getfield 137, 3), (30, .aload_n 0, 1), (31, .getfield 134, 3), (34, .if_icmp .ge 20, 3), (37, .aload_n 0, 1), (38, .getfield 137, 3), (41, .istore_n 1, 1), (42, .aload_n 0, 1), (43, .invokevirtual 182, 3), (46, .ifCond .ne 5, 3), (49, .iload_n 1, 1), (50, .ireturn, 1), (51, .goto (-25), 3), (54, .bipush (-4), 2), (56, .ireturn, 1)]
theorem tX10_fault_ok : ztok cX10_fault tX10_fault = true := by decide +kernel
def tX10_lay : zT := [(0, .aload_n 0, 1), (1, .invokevirtual 185, 3), (4, .bipush (-4), 2), (6, .if_icmp .ne 10, 3), (9, .aload_n 0, 1), (10, .getfield 112, 3), (13, .ifCond .ne 6, 3), (16, .bipush (-2), 2), (18, .ireturn, 1), (19, .aload_n 0, 1), (20, .aload_n 0, 1), (21, .getfield 169, 3), (24, .putfield 91, 3), (27, .aload_n 0, 1), (28, .aload_n 0, 1), (29, .getfield 172, 3), (32, .putfield 95, 3), (35, .aload_n 0, 1), (36, .aload_n 0, 1), (37, .getfield 112, 3), (40, .putfield 115, 3), (43, .aload_n 0, 1), (44, .aload_n 0, 1), (45, .getfield 166, 3), (48, .putfield 121, 3), (51, .aload_n 0, 1), (52, .invokevirtual 118, 3), (55, .iconst 0, 1), (56, .istore_n 1, 1), (57, .iload_n 1, 1), (58, .aload_n 0, 1), (59, .getfield 121, 3), (62, .if_icmp .ge 33, 3), (65, .aload_n 0, 1), (66, .getfield 22, 3), (69, .iload_n 1, 1), (70, .aload_n 0, 1), (71, .getfield 61, 3), (74, .iload_n 1, 1), (75, .iaload, 1), (76, .iastore, 1), (77, .aload_n 0, 1), (78, .getfield 25, 3), (81, .iload_n 1, 1), (82, .aload_n 0, 1), (83, .getfield 64, 3), (86, .iload_n 1, 1), (87, .iaload, 1), (88, .iastore, 1), (89, .iinc 1 1, 3), (92, .goto (-35), 3), (95, .aload_n 0, 1), (96, .iconst 0, 1), (97, .putfield 188, 3), (100, .aload_n 0, 1), (101, .iconst 0, 1), (102, .putfield 191, 3), (105, .aload_n 0, 1), (106, .iconst 0, 1), (107, .putfield 194, 3), (110, .aload_n 0, 1), (111, .iconst 0, 1), (112, .putfield 197, 3), (115, .aload_n 0, 1), (116, .getfield 115, 3), (119, .ireturn, 1)]
theorem tX10_lay_ok : ztok cX10_lay tX10_lay = true := by decide +kernel
def tX10_wrapOf : zT := [(0, .iconst 0, 1), (1, .istore_n 3, 1), (2, .iload_n 3, 1), (3, .iload_n 2, 1), (4, .if_icmp .ge 16, 3), (7, .aload_n 0, 1), (8, .getfield 67, 3), (11, .iload_n 3, 1), (12, .iconst 0, 1), (13, .iastore, 1), (14, .iinc 3 1, 3), (17, .goto (-15), 3), (20, .iconst 0, 1), (21, .istore_n 3, 1), (22, .iload_n 3, 1), (23, .bipush 6, 2), (25, .if_icmp .ge 17, 3), (28, .aload_n 0, 1), (29, .getfield 70, 3), (32, .iload_n 3, 1), (33, .bipush (-4), 2), (35, .iastore, 1), (36, .iinc 3 1, 3), (39, .goto (-17), 3), (42, .iconst 0, 1), (43, .istore_n 3, 1), (44, .iconst 0, 1), (45, .istore 4, 2), (47, .iload 4, 2), (49, .aload_n 0, 1), (50, .getfield 16, 3), (53, .iload_n 1, 1), (54, .iaload, 1), (55, .if_icmp .ge 182, 3), (58, .bipush (-4), 2), (60, .istore 5, 2), (62, .iconst 0, 1), (63, .istore 6, 2), (65, .iload 6, 2), (67, .aload_n 0, 1), (68, .getfield 16, 3), (71, .iload_n 1, 1), (72, .iaload, 1), (73, .if_icmp .ge 60, 3), (76, .aload_n 0, 1), (77, .getfield 70, 3), (80, .iload 6, 2), (82, .iaload, 1), (83, .ifCond .ge 40, 3), (86, .iload 5, 2), (88, .ifCond .lt 30, 3), (91, .aload_n 0, 1), (92, .getfield 19, 3), (95, .bipush 6, 2), (97, .iload_n 1, 1), (98, .imul, 1), (99, .iload 6, 2), (101, .iadd, 1), (102, .iaload, 1), (103, .aload_n 0, 1), (104, .getfield 19, 3), (107, .bipush 6, 2), (109, .iload_n 1, 1), (110, .imul, 1), (111, .iload 5, 2), (113, .iadd, 1), (114, .iaload, 1), (115, .if_icmp .le 8, 3), (118, .iload 6, 2), (120, .goto 5, 3), (123, .iload 5, 2), (125, .istore 5, 2), (127, .iinc 6 1, 3), (130, .goto (-65), 3), (133, .iconst 0, 1), (134, .istore 6, 2), (136, .iconst 0, 1), (137, .istore 7, 2), (139, .iload 7, 2), (141, .iload_n 2, 1), (142, .if_icmp .ge 35, 3), (145, .aload_n 0, 1), (146, .getfield 67, 3), (149, .iload 7, 2), (151, .iaload, 1), (152, .aload_n 0, 1), (153, .getfield 67, 3), (156, .iload 6, 2), (158, .iaload, 1), (159, .if_icmp .ge 8, 3), (162, .iload 7, 2), (164, .goto 5, 3), (167, .iload 6, 2), (169, .istore 6, 2), (171, .iinc 7 1, 3), (174, .goto (-35), 3), (177, .aload_n 0, 1), (178, .getfield 70, 3), (181, .iload 5, 2), (183, .iload 6, 2), (185, .iastore, 1), (186, .aload_n 0, 1), (187, .getfield 67, 3), (190, .iload 6, 2), (192, .dup2, 1), (193, .iaload, 1), (194, .aload_n 0, 1), (195, .getfield 19, 3), (198, .bipush 6, 2), (200, .iload_n 1, 1), (201, .imul, 1), (202, .iload 5, 2), (204, .iadd, 1), (205, .iaload, 1), (206, .iadd, 1), (207, .iastore, 1), (208, .aload_n 0, 1), (209, .getfield 67, 3), (212, .iload 6, 2), (214, .iaload, 1), (215, .iload_n 3, 1), (216, .if_icmp .le 13, 3), (219, .aload_n 0, 1), (220, .getfield 67, 3), (223, .iload 6, 2), (225, .iaload, 1), (226, .goto 4, 3), (229, .iload_n 3, 1), (230, .istore_n 3, 1), (231, .iinc 4 1, 3), (234, .goto (-187), 3), (237, .iload_n 3, 1), (238, .ireturn, 1)]
theorem tX10_wrapOf_ok : ztok cX10_wrapOf tX10_wrapOf = true := by decide +kernel
def tX10_idealOf : zT := [(0, .aload_n 0, 1), (1, .getfield 16, 3), (4, .iload_n 1, 1), (5, .iaload, 1), (6, .istore_n 3, 1), (7, .iload_n 2, 1), (8, .iload_n 3, 1), (9, .if_icmp .ge 7, 3), (12, .iload_n 2, 1), (13, .goto 4, 3), (16, .iload_n 3, 1), (17, .istore 4, 2), (19, .iconst 1, 1), (20, .istore 5, 2), (22, .iconst 0, 1), (23, .istore 6, 2), (25, .iload 6, 2), (27, .iload_n 3, 1), (28, .if_icmp .ge 16, 3), (31, .iload 5, 2), (33, .iload 4, 2), (35, .imul, 1), (36, .istore 5, 2), (38, .iinc 6 1, 3), (41, .goto (-16), 3), (44, .ldc 200, 2), (46, .istore 6, 2), (48, .iconst 0, 1), (49, .istore 7, 2), (51, .iload 7, 2), (53, .iload 5, 2), (55, .if_icmp .ge 133, 3), (58, .iconst 0, 1), (59, .istore 8, 2), (61, .iload 8, 2), (63, .iload 4, 2), (65, .if_icmp .ge 17, 3), (68, .aload_n 0, 1), (69, .getfield 67, 3), (72, .iload 8, 2), (74, .iconst 0, 1), (75, .iastore, 1), (76, .iinc 8 1, 3), (79, .goto (-18), 3), (82, .iload 7, 2), (84, .istore 8, 2), (86, .iconst 0, 1), (87, .istore 9, 2), (89, .iconst 0, 1), (90, .istore 10, 2), (92, .iload 10, 2), (94, .iload_n 3, 1), (95, .if_icmp .ge 71, 3), (98, .iload 8, 2), (100, .iload 4, 2), (102, .irem, 1), (103, .istore 11, 2), (105, .aload_n 0, 1), (106, .getfield 67, 3), (109, .iload 11, 2), (111, .dup2, 1), (112, .iaload, 1), (113, .aload_n 0, 1), (114, .getfield 19, 3), (117, .bipush 6, 2), (119, .iload_n 1, 1), (120, .imul, 1), (121, .iload 10, 2), (123, .iadd, 1), (124, .iaload, 1), (125, .iadd, 1), (126, .iastore, 1), (127, .aload_n 0, 1), (128, .getfield 67, 3), (131, .iload 11, 2), (133, .iaload, 1), (134, .iload 9, 2), (136, .if_icmp .le 13, 3), (139, .aload_n 0, 1), (140, .getfield 67, 3), (143, .iload 11, 2), (145, .iaload, 1), (146, .goto 5, 3), (149, .iload 9, 2), (151, .istore 9, 2), (153, .iload 8, 2), (155, .iload 4, 2), (157, .idiv, 1), (158, .istore 8, 2), (160, .iinc 10 1, 3), (163, .goto (-71), 3), (166, .iload 9, 2), (168, .iload 6, 2), (170, .if_icmp .ge 8, 3), (173, .iload 9, 2), (175, .goto 5, 3), (178, .iload 6, 2), (180, .istore 6, 2), (182, .iinc 7 1, 3), (185, .goto (-134), 3), (188, .iload 6, 2), (190, .ireturn, 1)]
theorem tX10_idealOf_ok : ztok cX10_idealOf tX10_idealOf = true := by decide +kernel
def tX10_takesBy : zT := [(0, .aload_n 0, 1), (1, .iload_n 2, 1), (2, .iload_n 3, 1), (3, .invokevirtual 201, 3), (6, .istore 4, 2), (8, .aload_n 0, 1), (9, .getfield 7, 3), (12, .iload_n 2, 1), (13, .iaload, 1), (14, .istore 5, 2), (16, .iload 5, 2), (18, .iload 4, 2), (20, .iconst 1, 1), (21, .iadd, 1), (22, .imul, 1), (23, .iload 4, 2), (25, .iadd, 1), (26, .istore 6, 2), (28, .iload 6, 2), (30, .iload 5, 2), (32, .iload 4, 2), (34, .imul, 1), (35, .iadd, 1), (36, .istore 7, 2), (38, .iload_n 1, 1), (39, .tableswitch 46 0 2 #[25, 28, 31], 25), (64, .iload 6, 2), (66, .ireturn, 1), (67, .iload 7, 2), (69, .ireturn, 1), (70, .iload 6, 2), (72, .bipush 60, 2), (74, .if_icmp .ge 8, 3), (77, .bipush 60, 2), (79, .goto 5, 3), (82, .iload 6, 2), (84, .ireturn, 1), (85, .iload 7, 2), (87, .iconst 1, 1), (88, .iadd, 1), (89, .iconst 2, 1), (90, .idiv, 1), (91, .ireturn, 1)]
theorem tX10_takesBy_ok : ztok cX10_takesBy tX10_takesBy = true := by decide +kernel
def tX10_layTakes : zT := [(0, .iconst 0, 1), (1, .istore_n 1, 1), (2, .iload_n 1, 1), (3, .aload_n 0, 1), (4, .getfield 115, 3), (7, .if_icmp .ge 50, 3), (10, .iconst 1, 1), (11, .istore_n 2, 1), (12, .iload_n 2, 1), (13, .aload_n 0, 1), (14, .getfield 91, 3), (17, .if_icmp .gt 34, 3), (20, .aload_n 0, 1), (21, .getfield 73, 3), (24, .bipush 9, 2), (26, .iload_n 1, 1), (27, .imul, 1), (28, .iload_n 2, 1), (29, .iadd, 1), (30, .aload_n 0, 1), (31, .aload_n 0, 1), (32, .getfield 28, 3), (35, .iconst 0, 1), (36, .iload_n 1, 1), (37, .iadd, 1), (38, .iaload, 1), (39, .iload_n 1, 1), (40, .iload_n 2, 1), (41, .invokevirtual 205, 3), (44, .iastore, 1), (45, .iinc 2 1, 3), (48, .goto (-36), 3), (51, .iinc 1 1, 3), (54, .goto (-52), 3), (57, .return_, 1)]
theorem tX10_layTakes_ok : ztok cX10_layTakes tX10_layTakes = true := by decide +kernel
def tX10_leastTakes : zT := [(0, .aload_n 0, 1), (1, .getfield 73, 3), (4, .bipush 9, 2), (6, .iload_n 1, 1), (7, .imul, 1), (8, .iconst 1, 1), (9, .iadd, 1), (10, .iaload, 1), (11, .istore_n 2, 1), (12, .iconst 2, 1), (13, .istore_n 3, 1), (14, .iload_n 3, 1), (15, .aload_n 0, 1), (16, .getfield 91, 3), (19, .if_icmp .gt 40, 3), (22, .aload_n 0, 1), (23, .getfield 73, 3), (26, .bipush 9, 2), (28, .iload_n 1, 1), (29, .imul, 1), (30, .iload_n 3, 1), (31, .iadd, 1), (32, .iaload, 1), (33, .iload_n 2, 1), (34, .if_icmp .ge 17, 3), (37, .aload_n 0, 1), (38, .getfield 73, 3), (41, .bipush 9, 2), (43, .iload_n 1, 1), (44, .imul, 1), (45, .iload_n 3, 1), (46, .iadd, 1), (47, .iaload, 1), (48, .goto 4, 3), (51, .iload_n 2, 1), (52, .istore_n 2, 1), (53, .iinc 3 1, 3), (56, .goto (-42), 3), (59, .iload_n 2, 1), (60, .ireturn, 1)]
theorem tX10_leastTakes_ok : ztok cX10_leastTakes tX10_leastTakes = true := by decide +kernel
def tX10_stairsOf : zT := [(0, .aload_n 0, 1), (1, .invokevirtual 209, 3), (4, .iconst 0, 1), (5, .istore_n 2, 1), (6, .ldc 200, 2), (8, .istore_n 3, 1), (9, .iconst 1, 1), (10, .istore 4, 2), (12, .iload 4, 2), (14, .aload_n 0, 1), (15, .getfield 91, 3), (18, .if_icmp .gt 69, 3), (21, .iload_n 2, 1), (22, .aload_n 0, 1), (23, .getfield 73, 3), (26, .bipush 9, 2), (28, .iload_n 1, 1), (29, .imul, 1), (30, .iload 4, 2), (32, .iadd, 1), (33, .iaload, 1), (34, .iload_n 3, 1), (35, .if_icmp .ge 10, 3), (38, .iconst 1, 1), (39, .iload 4, 2), (41, .ishl, 1), (42, .goto 4, 3), (45, .iconst 0, 1), (46, .ior, 1), (47, .istore_n 2, 1), (48, .aload_n 0, 1), (49, .getfield 73, 3), (52, .bipush 9, 2), (54, .iload_n 1, 1), (55, .imul, 1), (56, .iload 4, 2), (58, .iadd, 1), (59, .iaload, 1), (60, .iload_n 3, 1), (61, .if_icmp .ge 18, 3), (64, .aload_n 0, 1), (65, .getfield 73, 3), (68, .bipush 9, 2), (70, .iload_n 1, 1), (71, .imul, 1), (72, .iload 4, 2), (74, .iadd, 1), (75, .iaload, 1), (76, .goto 4, 3), (79, .iload_n 3, 1), (80, .istore_n 3, 1), (81, .iinc 4 1, 3), (84, .goto (-72), 3), (87, .iload_n 2, 1), (88, .ireturn, 1)]
theorem tX10_stairsOf_ok : ztok cX10_stairsOf tX10_stairsOf = true := by decide +kernel
def tX10_core : zT := [(0, .aload_n 0, 1), (1, .iload_n 1, 1), (2, .invokevirtual 212, 3), (5, .ifCond .ne 5, 3), (8, .iconst (-1), 1), (9, .ireturn, 1), (10, .iload_n 2, 1), (11, .tableswitch 123 0 6 #[41, 50, 57, 64, 71, 94, 117], 41), (52, .aload_n 0, 1), (53, .getfield 28, 3), (56, .iconst 0, 1), (57, .iload_n 1, 1), (58, .iadd, 1), (59, .iaload, 1), (60, .ireturn, 1), (61, .aload_n 0, 1), (62, .getfield 7, 3), (65, .iload_n 1, 1), (66, .iaload, 1), (67, .ireturn, 1), (68, .aload_n 0, 1), (69, .getfield 13, 3), (72, .iload_n 1, 1), (73, .iaload, 1), (74, .ireturn, 1), (75, .aload_n 0, 1), (76, .getfield 16, 3), (79, .iload_n 1, 1), (80, .iaload, 1), (81, .ireturn, 1), (82, .aload_n 0, 1), (83, .iload_n 1, 1), (84, .invokevirtual 215, 3), (87, .ifCond .eq 15, 3), (90, .aload_n 0, 1), (91, .getfield 28, 3), (94, .bipush 6, 2), (96, .iload_n 1, 1), (97, .iadd, 1), (98, .iaload, 1), (99, .goto 5, 3), (102, .bipush (-4), 2), (104, .ireturn, 1), (105, .aload_n 0, 1), (106, .iload_n 1, 1), (107, .invokevirtual 215, 3), (110, .ifCond .eq 15, 3), (113, .aload_n 0, 1), (114, .getfield 28, 3), (117, .bipush 12, 2), (119, .iload_n 1, 1), (120, .iadd, 1), (121, .iaload, 1), (122, .goto 5, 3), (125, .bipush (-4), 2), (127, .ireturn, 1), (128, .aload_n 0, 1), (129, .iload_n 1, 1), (130, .invokevirtual 218, 3), (133, .ireturn, 1), (134, .iconst (-1), 1), (135, .ireturn, 1)]
theorem tX10_core_ok : ztok cX10_core tX10_core = true := by decide +kernel
def tX10_chain : zT := [(0, .aload_n 0, 1), (1, .iload_n 1, 1), (2, .invokevirtual 212, 3), (5, .ifCond .eq 7, 3), (8, .iload_n 2, 1), (9, .ifCond .ge 5, 3), (12, .iconst (-1), 1), (13, .ireturn, 1), (14, .iload_n 2, 1), (15, .aload_n 0, 1), (16, .getfield 16, 3), (19, .iload_n 1, 1), (20, .iaload, 1), (21, .if_icmp .ge 17, 3), (24, .aload_n 0, 1), (25, .getfield 19, 3), (28, .bipush 6, 2), (30, .iload_n 1, 1), (31, .imul, 1), (32, .iload_n 2, 1), (33, .iadd, 1), (34, .iaload, 1), (35, .goto 5, 3), (38, .bipush (-4), 2), (40, .ireturn, 1)]
theorem tX10_chain_ok : ztok cX10_chain tX10_chain = true := by decide +kernel
def tX10_wrap : zT := [(0, .aload_n 0, 1), (1, .iload_n 1, 1), (2, .invokevirtual 212, 3), (5, .ifCond .eq 11, 3), (8, .aload_n 0, 1), (9, .iload_n 2, 1), (10, .invokevirtual 222, 3), (13, .ifCond .ne 5, 3), (16, .iconst (-1), 1), (17, .ireturn, 1), (18, .iload_n 3, 1), (19, .ifCond .ne 12, 3), (22, .aload_n 0, 1), (23, .iload_n 1, 1), (24, .iload_n 2, 1), (25, .invokevirtual 201, 3), (28, .goto 40, 3), (31, .iload_n 3, 1), (32, .iconst 1, 1), (33, .if_icmp .ne 12, 3), (36, .aload_n 0, 1), (37, .iload_n 1, 1), (38, .iload_n 2, 1), (39, .invokevirtual 225, 3), (42, .goto 26, 3), (45, .iload_n 3, 1), (46, .iconst 2, 1), (47, .if_icmp .ne 20, 3), (50, .aload_n 0, 1), (51, .aload_n 0, 1), (52, .getfield 28, 3), (55, .iconst 0, 1), (56, .iload_n 1, 1), (57, .iadd, 1), (58, .iaload, 1), (59, .iload_n 1, 1), (60, .iload_n 2, 1), (61, .invokevirtual 205, 3), (64, .goto 4, 3), (67, .iconst (-1), 1), (68, .ireturn, 1)]
theorem tX10_wrap_ok : ztok cX10_wrap tX10_wrap = true := by decide +kernel
def tX10_line : zT := [(0, .aload_n 0, 1), (1, .iload_n 1, 1), (2, .invokevirtual 212, 3), (5, .ifCond .eq 15, 3), (8, .aload_n 0, 1), (9, .iload_n 2, 1), (10, .invokevirtual 222, 3), (13, .ifCond .eq 7, 3), (16, .iload_n 3, 1), (17, .ifCond .ge 5, 3), (20, .iconst (-1), 1), (21, .ireturn, 1), (22, .aload_n 0, 1), (23, .iload_n 1, 1), (24, .iload_n 2, 1), (25, .invokevirtual 201, 3), (28, .istore 4, 2), (30, .iload_n 3, 1), (31, .aload_n 0, 1), (32, .getfield 16, 3), (35, .iload_n 1, 1), (36, .iaload, 1), (37, .if_icmp .ge 17, 3), (40, .iload 4, 2), (42, .ifCond .le 12, 3), (45, .aload_n 0, 1), (46, .getfield 70, 3), (49, .iload_n 3, 1), (50, .iaload, 1), (51, .goto 5, 3), (54, .bipush (-4), 2), (56, .ireturn, 1)]
theorem tX10_line_ok : ztok cX10_line tX10_line = true := by decide +kernel
def tX10_endOf : zT := [(0, .aload_n 0, 1), (1, .getfield 28, 3), (4, .bipush 12, 2), (6, .iload_n 1, 1), (7, .iadd, 1), (8, .iaload, 1), (9, .aload_n 0, 1), (10, .getfield 73, 3), (13, .bipush 9, 2), (15, .iload_n 1, 1), (16, .imul, 1), (17, .aload_n 0, 1), (18, .getfield 28, 3), (21, .bipush 6, 2), (23, .iload_n 1, 1), (24, .iadd, 1), (25, .iaload, 1), (26, .iadd, 1), (27, .iaload, 1), (28, .iadd, 1), (29, .ireturn, 1)]
theorem tX10_endOf_ok : ztok cX10_endOf tX10_endOf = true := by decide +kernel
def tX10_lengthOf : zT := [(0, .iconst 0, 1), (1, .istore_n 1, 1), (2, .iconst 0, 1), (3, .istore_n 2, 1), (4, .iload_n 2, 1), (5, .aload_n 0, 1), (6, .getfield 115, 3), (9, .if_icmp .ge 36, 3), (12, .aload_n 0, 1), (13, .iload_n 2, 1), (14, .invokevirtual 215, 3), (17, .ifCond .eq 20, 3), (20, .aload_n 0, 1), (21, .iload_n 2, 1), (22, .invokevirtual 228, 3), (25, .iload_n 1, 1), (26, .if_icmp .le 11, 3), (29, .aload_n 0, 1), (30, .iload_n 2, 1), (31, .invokevirtual 228, 3), (34, .goto 4, 3), (37, .iload_n 1, 1), (38, .istore_n 1, 1), (39, .iinc 2 1, 3), (42, .goto (-38), 3), (45, .iload_n 1, 1), (46, .ireturn, 1)]
theorem tX10_lengthOf_ok : ztok cX10_lengthOf tX10_lengthOf = true := by decide +kernel
def tX10_runsIn : zT := [(0, .iconst 0, 1), (1, .istore_n 3, 1), (2, .iconst 0, 1), (3, .istore 4, 2), (5, .iload 4, 2), (7, .aload_n 0, 1), (8, .getfield 115, 3), (11, .if_icmp .ge 101, 3), (14, .aload_n 0, 1), (15, .iload 4, 2), (17, .invokevirtual 215, 3), (20, .ifCond .eq 35, 3), (23, .iload_n 1, 1), (24, .i2l, 1), (25, .aload_n 0, 1), (26, .getfield 28, 3), (29, .bipush 12, 2), (31, .iload 4, 2), (33, .iadd, 1), (34, .iaload, 1), (35, .i2l, 1), (36, .aload_n 0, 1), (37, .iload 4, 2), (39, .invokevirtual 228, 3), (42, .iconst 1, 1), (43, .isub, 1), (44, .i2l, 1), (45, .invokestatic 124, 3), (48, .ifCond .eq 7, 3), (51, .iconst 1, 1), (52, .goto 4, 3), (55, .iconst 0, 1), (56, .istore 5, 2), (58, .iload_n 3, 1), (59, .iload 5, 2), (61, .ifCond .ne 7, 3), (64, .iconst 0, 1), (65, .goto 39, 3), (68, .iload_n 2, 1), (69, .ifCond .ne 16, 3), (72, .aload_n 0, 1), (73, .getfield 28, 3), (76, .bipush 6, 2), (78, .iload 4, 2), (80, .iadd, 1), (81, .iaload, 1), (82, .goto 22, 3), (85, .iload_n 2, 1), (86, .iconst 1, 1), (87, .if_icmp .ne 13, 3), (90, .aload_n 0, 1), (91, .getfield 13, 3), (94, .iload 4, 2), (96, .iaload, 1), (97, .goto 7, 3), (100, .iconst 1, 1), (101, .iload 4, 2), (103, .ishl, 1), (104, .iadd, 1), (105, .istore_n 3, 1), (106, .iinc 4 1, 3), (109, .goto (-104), 3), (112, .iload_n 3, 1), (113, .ireturn, 1)]
theorem tX10_runsIn_ok : ztok cX10_runsIn tX10_runsIn = true := by decide +kernel
def tX10_isAhead : zT := [(0, .iconst 0, 1), (1, .istore 4, 2), (3, .iconst 0, 1), (4, .istore 5, 2), (6, .iload 5, 2), (8, .aload_n 0, 1), (9, .getfield 121, 3), (12, .if_icmp .ge 49, 3), (15, .iload 4, 2), (17, .ifCond .ne 31, 3), (20, .iload 5, 2), (22, .iload_n 3, 1), (23, .if_icmp .eq 29, 3), (26, .aload_n 0, 1), (27, .getfield 22, 3), (30, .iload 5, 2), (32, .iaload, 1), (33, .iload_n 1, 1), (34, .if_icmp .ne 18, 3), (37, .aload_n 0, 1), (38, .getfield 25, 3), (41, .iload 5, 2), (43, .iaload, 1), (44, .iload_n 2, 1), (45, .if_icmp .ne 7, 3), (48, .iconst 1, 1), (49, .goto 4, 3), (52, .iconst 0, 1), (53, .istore 4, 2), (55, .iinc 5 1, 3), (58, .goto (-52), 3), (61, .iload 4, 2), (63, .ireturn, 1)]
theorem tX10_isAhead_ok : ztok cX10_isAhead tX10_isAhead = true := by decide +kernel
def tX10_isTooMuch : zT := [(0, .bipush (-4), 2), (2, .istore 6, 2), (4, .iconst (-1), 1), (5, .istore 7, 2), (7, .iload 7, 2), (9, .aload_n 0, 1), (10, .getfield 115, 3), (13, .if_icmp .ge 107, 3), (16, .iload 7, 2), (18, .ifCond .ge 7, 3), (21, .iload_n 1, 1), (22, .goto 27, 3), (25, .aload_n 0, 1), (26, .iload 7, 2), (28, .invokevirtual 215, 3), (31, .ifCond .eq 16, 3), (34, .aload_n 0, 1), (35, .getfield 28, 3), (38, .bipush 12, 2), (40, .iload 7, 2), (42, .iadd, 1), (43, .iaload, 1), (44, .goto 5, 3), (47, .bipush (-4), 2), (49, .istore 8, 2), (51, .iload 8, 2), (53, .i2l, 1), (54, .iload_n 1, 1), (55, .i2l, 1), (56, .iload_n 2, 1), (57, .iconst 1, 1), (58, .isub, 1), (59, .i2l, 1), (60, .invokestatic 124, 3), (63, .ifCond .eq 22, 3), (66, .aload_n 0, 1), (67, .iload 8, 2), (69, .iload_n 3, 1), (70, .invokevirtual 231, 3), (73, .iload 4, 2), (75, .iadd, 1), (76, .iload 5, 2), (78, .if_icmp .le 7, 3), (81, .iconst 1, 1), (82, .goto 4, 3), (85, .iconst 0, 1), (86, .istore 9, 2), (88, .iload 9, 2), (90, .ifCond .eq 20, 3), (93, .iload 6, 2), (95, .ifCond .lt 10, 3), (98, .iload 8, 2), (100, .iload 6, 2), (102, .if_icmp .ge 8, 3), (105, .iload 8, 2), (107, .goto 5, 3), (110, .iload 6, 2), (112, .istore 6, 2), (114, .iinc 7 1, 3), (117, .goto (-110), 3), (120, .aload_n 0, 1), (121, .iload 6, 2), (123, .putfield 234, 3), (126, .iload 6, 2), (128, .ifCond .lt 7, 3), (131, .iconst 1, 1), (132, .goto 4, 3), (135, .iconst 0, 1), (136, .ireturn, 1)]
theorem tX10_isTooMuch_ok : ztok cX10_isTooMuch tX10_isTooMuch = true := by decide +kernel
def tX10_judge : zT := [(0, .iload_n 3, 1), (1, .aload_n 0, 1), (2, .getfield 73, 3), (5, .bipush 9, 2), (7, .iload_n 1, 1), (8, .imul, 1), (9, .iload_n 2, 1), (10, .iadd, 1), (11, .iaload, 1), (12, .iadd, 1), (13, .istore 5, 2), (15, .iconst 0, 1), (16, .istore 6, 2), (18, .iload 6, 2), (20, .aload_n 0, 1), (21, .getfield 115, 3), (24, .if_icmp .ge 48, 3), (27, .aload_n 0, 1), (28, .iload 6, 2), (30, .iload_n 1, 1), (31, .iload 4, 2), (33, .invokevirtual 237, 3), (36, .ifCond .eq 30, 3), (39, .aload_n 0, 1), (40, .iload 6, 2), (42, .invokevirtual 215, 3), (45, .ifCond .eq 13, 3), (48, .aload_n 0, 1), (49, .iload 6, 2), (51, .invokevirtual 228, 3), (54, .iload_n 3, 1), (55, .if_icmp .le 11, 3), (58, .aload_n 0, 1), (59, .iload 6, 2), (61, .putfield 234, 3), (64, .iconst 1, 1), (65, .ireturn, 1), (66, .iinc 6 1, 3), (69, .goto (-51), 3), (72, .iconst 0, 1), (73, .istore 6, 2), (75, .iload 6, 2), (77, .aload_n 0, 1), (78, .getfield 115, 3), (81, .if_icmp .ge 53, 3), (84, .aload_n 0, 1), (85, .iload_n 1, 1), (86, .iload 6, 2), (88, .iload 4, 2), (90, .invokevirtual 237, 3), (93, .ifCond .eq 35, 3), (96, .aload_n 0, 1), (97, .iload 6, 2), (99, .invokevirtual 215, 3), (102, .ifCond .eq 26, 3), (105, .aload_n 0, 1), (106, .getfield 28, 3), (109, .bipush 12, 2), (111, .iload 6, 2), (113, .iadd, 1), (114, .iaload, 1), (115, .iload 5, 2), (117, .if_icmp .ge 11, 3), (120, .aload_n 0, 1), (121, .iload 6, 2), (123, .putfield 234, 3), (126, .iconst 2, 1), (127, .ireturn, 1), (128, .iinc 6 1, 3), (131, .goto (-56), 3), (134, .aload_n 0, 1), (135, .iload_n 3, 1), (136, .iload 5, 2), (138, .iconst 0, 1), (139, .iload_n 2, 1), (140, .aload_n 0, 1), (141, .getfield 91, 3), (144, .invokevirtual 241, 3), (147, .ifCond .eq 7, 3), (150, .iconst 3, 1), (151, .goto 29, 3), (154, .aload_n 0, 1), (155, .iload_n 3, 1), (156, .iload 5, 2), (158, .iconst 1, 1), (159, .aload_n 0, 1), (160, .getfield 13, 3), (163, .iload_n 1, 1), (164, .iaload, 1), (165, .aload_n 0, 1), (166, .getfield 95, 3), (169, .invokevirtual 241, 3), (172, .ifCond .eq 7, 3), (175, .iconst 4, 1), (176, .goto 4, 3), (179, .iconst 0, 1), (180, .ireturn, 1)]
theorem tX10_judge_ok : ztok cX10_judge tX10_judge = true := by decide +kernel
def tX10_soonestOf : zT := [(0, .bipush (-4), 2), (2, .istore 4, 2), (4, .iconst (-1), 1), (5, .istore 5, 2), (7, .iload 5, 2), (9, .aload_n 0, 1), (10, .getfield 115, 3), (13, .if_icmp .ge 86, 3), (16, .aload_n 0, 1), (17, .iload_n 1, 1), (18, .invokevirtual 215, 3), (21, .ifCond .ne 78, 3), (24, .iload 5, 2), (26, .ifCond .ge 7, 3), (29, .iconst 0, 1), (30, .goto 23, 3), (33, .aload_n 0, 1), (34, .iload 5, 2), (36, .invokevirtual 215, 3), (39, .ifCond .eq 12, 3), (42, .aload_n 0, 1), (43, .iload 5, 2), (45, .invokevirtual 228, 3), (48, .goto 5, 3), (51, .bipush (-4), 2), (53, .istore 6, 2), (55, .iload 6, 2), (57, .ifCond .lt 32, 3), (60, .iload 4, 2), (62, .ifCond .lt 10, 3), (65, .iload 6, 2), (67, .iload 4, 2), (69, .if_icmp .ge 20, 3), (72, .aload_n 0, 1), (73, .iload_n 1, 1), (74, .iload_n 2, 1), (75, .iload 6, 2), (77, .iload_n 3, 1), (78, .invokevirtual 245, 3), (81, .ifCond .ne 8, 3), (84, .iload 6, 2), (86, .goto 5, 3), (89, .iload 4, 2), (91, .istore 4, 2), (93, .iinc 5 1, 3), (96, .goto (-89), 3), (99, .iload 4, 2), (101, .ireturn, 1)]
theorem tX10_soonestOf_ok : ztok cX10_soonestOf tX10_soonestOf = true := by decide +kernel
def tX10_note : zT := [(0, .aload_n 0, 1), (1, .getfield 188, 3), (4, .bipush 8, 2), (6, .if_icmp .ne 42, 3), (9, .iconst 0, 1), (10, .istore_n 1, 1), (11, .iload_n 1, 1), (12, .bipush 126, 2), (14, .if_icmp .ge 24, 3), (17, .aload_n 0, 1), (18, .getfield 31, 3), (21, .iload_n 1, 1), (22, .aload_n 0, 1), (23, .getfield 31, 3), (26, .iload_n 1, 1), (27, .bipush 18, 2), (29, .iadd, 1), (30, .iaload, 1), (31, .iastore, 1), (32, .iinc 1 1, 3), (35, .goto (-24), 3), (38, .aload_n 0, 1), (39, .dup, 1), (40, .getfield 188, 3), (43, .iconst 1, 1), (44, .isub, 1), (45, .putfield 188, 3), (48, .iconst 0, 1), (49, .istore_n 1, 1), (50, .iload_n 1, 1), (51, .bipush 18, 2), (53, .if_icmp .ge 29, 3), (56, .aload_n 0, 1), (57, .getfield 31, 3), (60, .bipush 18, 2), (62, .aload_n 0, 1), (63, .getfield 188, 3), (66, .imul, 1), (67, .iload_n 1, 1), (68, .iadd, 1), (69, .aload_n 0, 1), (70, .getfield 28, 3), (73, .iload_n 1, 1), (74, .iaload, 1), (75, .iastore, 1), (76, .iinc 1 1, 3), (79, .goto (-29), 3), (82, .aload_n 0, 1), (83, .dup, 1), (84, .getfield 188, 3), (87, .iconst 1, 1), (88, .iadd, 1), (89, .putfield 188, 3), (92, .return_, 1)]
theorem tX10_note_ok : ztok cX10_note tX10_note = true := by decide +kernel
def tX10_putAt : zT := [(0, .aload_n 0, 1), (1, .getfield 28, 3), (4, .bipush 6, 2), (6, .iload_n 1, 1), (7, .iadd, 1), (8, .iload_n 2, 1), (9, .iastore, 1), (10, .aload_n 0, 1), (11, .getfield 28, 3), (14, .bipush 12, 2), (16, .iload_n 1, 1), (17, .iadd, 1), (18, .iload_n 3, 1), (19, .iastore, 1), (20, .return_, 1)]
theorem tX10_putAt_ok : ztok cX10_putAt tX10_putAt = true := by decide +kernel
def tX10_put : zT := [(0, .aload_n 0, 1), (1, .iload_n 1, 1), (2, .invokevirtual 212, 3), (5, .ifCond .eq 23, 3), (8, .aload_n 0, 1), (9, .iload_n 2, 1), (10, .invokevirtual 222, 3), (13, .ifCond .eq 15, 3), (16, .iload_n 3, 1), (17, .i2l, 1), (18, .lconst 0, 1), (19, .ldc2_w 249, 3), (22, .invokestatic 124, 3), (25, .ifCond .ne 5, 3), (28, .iconst (-1), 1), (29, .ireturn, 1), (30, .aload_n 0, 1), (31, .iload_n 1, 1), (32, .invokevirtual 215, 3), (35, .ifCond .eq 6, 3), (38, .bipush (-2), 2), (40, .ireturn, 1), (41, .aload_n 0, 1), (42, .invokevirtual 209, 3), (45, .aload_n 0, 1), (46, .aload_n 0, 1), (47, .iload_n 1, 1), (48, .iload_n 2, 1), (49, .iload_n 3, 1), (50, .bipush (-4), 2), (52, .invokevirtual 245, 3), (55, .putfield 251, 3), (58, .aload_n 0, 1), (59, .getfield 251, 3), (62, .ifCond .le 41, 3), (65, .aload_n 0, 1), (66, .getfield 40, 3), (69, .iconst 0, 1), (70, .bipush 10, 2), (72, .iload_n 1, 1), (73, .iadd, 1), (74, .iastore, 1), (75, .aload_n 0, 1), (76, .getfield 40, 3), (79, .iconst 1, 1), (80, .aload_n 0, 1), (81, .getfield 251, 3), (84, .iastore, 1), (85, .aload_n 0, 1), (86, .getfield 40, 3), (89, .iconst 2, 1), (90, .aload_n 0, 1), (91, .getfield 234, 3), (94, .iastore, 1), (95, .aload_n 0, 1), (96, .iconst 3, 1), (97, .putfield 197, 3), (100, .bipush (-2), 2), (102, .ireturn, 1), (103, .aload_n 0, 1), (104, .invokevirtual 254, 3), (107, .aload_n 0, 1), (108, .iload_n 1, 1), (109, .iload_n 2, 1), (110, .iload_n 3, 1), (111, .invokevirtual 257, 3), (114, .aload_n 0, 1), (115, .invokevirtual 261, 3), (118, .ireturn, 1)]
theorem tX10_put_ok : ztok cX10_put tX10_put = true := by decide +kernel
def tX10_take : zT := [(0, .aload_n 0, 1), (1, .iload_n 1, 1), (2, .invokevirtual 212, 3), (5, .ifCond .ne 5, 3), (8, .iconst (-1), 1), (9, .ireturn, 1), (10, .aload_n 0, 1), (11, .iload_n 1, 1), (12, .invokevirtual 215, 3), (15, .ifCond .ne 6, 3), (18, .bipush (-2), 2), (20, .ireturn, 1), (21, .aload_n 0, 1), (22, .invokevirtual 254, 3), (25, .aload_n 0, 1), (26, .iload_n 1, 1), (27, .iconst 0, 1), (28, .iconst 0, 1), (29, .invokevirtual 257, 3), (32, .aload_n 0, 1), (33, .invokevirtual 209, 3), (36, .aload_n 0, 1), (37, .invokevirtual 261, 3), (40, .ireturn, 1)]
theorem tX10_take_ok : ztok cX10_take tX10_take = true := by decide +kernel
def tX10_fills : zT := [(0, .bipush (-4), 2), (2, .istore_n 3, 1), (3, .bipush (-4), 2), (5, .istore 4, 2), (7, .iconst 0, 1), (8, .istore 5, 2), (10, .iconst 1, 1), (11, .istore 6, 2), (13, .iload 6, 2), (15, .aload_n 0, 1), (16, .getfield 91, 3), (19, .if_icmp .gt 72, 3), (22, .aload_n 0, 1), (23, .iload_n 1, 1), (24, .iload 6, 2), (26, .iload_n 2, 1), (27, .invokevirtual 264, 3), (30, .istore 7, 2), (32, .iload 7, 2), (34, .ifCond .lt 51, 3), (37, .iload_n 3, 1), (38, .ifCond .lt 23, 3), (41, .iload 7, 2), (43, .aload_n 0, 1), (44, .getfield 73, 3), (47, .bipush 9, 2), (49, .iload_n 1, 1), (50, .imul, 1), (51, .iload 6, 2), (53, .iadd, 1), (54, .iaload, 1), (55, .iadd, 1), (56, .iload 5, 2), (58, .if_icmp .ge 27, 3), (61, .iload 6, 2), (63, .istore_n 3, 1), (64, .iload 7, 2), (66, .istore 4, 2), (68, .iload 7, 2), (70, .aload_n 0, 1), (71, .getfield 73, 3), (74, .bipush 9, 2), (76, .iload_n 1, 1), (77, .imul, 1), (78, .iload 6, 2), (80, .iadd, 1), (81, .iaload, 1), (82, .iadd, 1), (83, .istore 5, 2), (85, .iinc 6 1, 3), (88, .goto (-75), 3), (91, .iload_n 3, 1), (92, .ifCond .le 11, 3), (95, .aload_n 0, 1), (96, .iload_n 1, 1), (97, .iload_n 3, 1), (98, .iload 4, 2), (100, .invokevirtual 257, 3), (103, .iload_n 3, 1), (104, .ifCond .le 7, 3), (107, .iconst 1, 1), (108, .goto 4, 3), (111, .iconst 0, 1), (112, .ireturn, 1)]
theorem tX10_fills_ok : ztok cX10_fills tX10_fills = true := by decide +kernel
def tX10_nextCore : zT := [(0, .iconst 0, 1), (1, .istore_n 1, 1), (2, .iload_n 1, 1), (3, .aload_n 0, 1), (4, .getfield 115, 3), (7, .if_icmp .ge 74, 3), (10, .aload_n 0, 1), (11, .iload_n 1, 1), (12, .invokevirtual 215, 3), (15, .ifCond .ne 7, 3), (18, .iconst 1, 1), (19, .goto 4, 3), (22, .iconst 0, 1), (23, .istore_n 2, 1), (24, .iconst 0, 1), (25, .istore_n 3, 1), (26, .iload_n 3, 1), (27, .aload_n 0, 1), (28, .getfield 115, 3), (31, .if_icmp .ge 38, 3), (34, .iload_n 2, 1), (35, .ifCond .eq 26, 3), (38, .aload_n 0, 1), (39, .iload_n 3, 1), (40, .invokevirtual 215, 3), (43, .ifCond .ne 14, 3), (46, .aload_n 0, 1), (47, .iload_n 3, 1), (48, .iload_n 1, 1), (49, .bipush (-4), 2), (51, .invokevirtual 237, 3), (54, .ifCond .ne 7, 3), (57, .iconst 1, 1), (58, .goto 4, 3), (61, .iconst 0, 1), (62, .istore_n 2, 1), (63, .iinc 3 1, 3), (66, .goto (-40), 3), (69, .iload_n 2, 1), (70, .ifCond .eq 5, 3), (73, .iload_n 1, 1), (74, .ireturn, 1), (75, .iinc 1 1, 3), (78, .goto (-76), 3), (81, .bipush (-4), 2), (83, .ireturn, 1)]
theorem tX10_nextCore_ok : ztok cX10_nextCore tX10_nextCore = true := by decide +kernel
def tX10_putAside : zT := [(0, .iconst 0, 1), (1, .istore_n 2, 1), (2, .iload_n 2, 1), (3, .bipush 18, 2), (5, .if_icmp .ge 40, 3), (8, .iload_n 1, 1), (9, .ifCond .eq 18, 3), (12, .aload_n 0, 1), (13, .getfield 28, 3), (16, .iload_n 2, 1), (17, .aload_n 0, 1), (18, .getfield 76, 3), (21, .iload_n 2, 1), (22, .iaload, 1), (23, .iastore, 1), (24, .goto 15, 3), (27, .aload_n 0, 1), (28, .getfield 76, 3), (31, .iload_n 2, 1), (32, .aload_n 0, 1), (33, .getfield 28, 3), (36, .iload_n 2, 1), (37, .iaload, 1), (38, .iastore, 1), (39, .iinc 2 1, 3), (42, .goto (-40), 3), (45, .return_, 1)]
theorem tX10_putAside_ok : ztok cX10_putAside tX10_putAside = true := by decide +kernel
def tX10_fill : zT := [(0, .aload_n 0, 1), (1, .invokevirtual 209, 3), (4, .aload_n 0, 1), (5, .iconst 0, 1), (6, .invokevirtual 267, 3), (9, .iconst 0, 1), (10, .istore_n 1, 1), (11, .aload_n 0, 1), (12, .invokevirtual 271, 3), (15, .istore_n 2, 1), (16, .iload_n 2, 1), (17, .ifCond .lt 85, 3), (20, .aload_n 0, 1), (21, .iload_n 2, 1), (22, .bipush (-4), 2), (24, .invokevirtual 274, 3), (27, .ifCond .ne 64, 3), (30, .aload_n 0, 1), (31, .getfield 40, 3), (34, .iconst 0, 1), (35, .bipush 20, 2), (37, .iload_n 1, 1), (38, .iadd, 1), (39, .iastore, 1), (40, .aload_n 0, 1), (41, .getfield 40, 3), (44, .iconst 1, 1), (45, .bipush 10, 2), (47, .iload_n 2, 1), (48, .iadd, 1), (49, .iastore, 1), (50, .aload_n 0, 1), (51, .getfield 40, 3), (54, .iconst 2, 1), (55, .aload_n 0, 1), (56, .iload_n 2, 1), (57, .iconst 1, 1), (58, .aload_n 0, 1), (59, .invokevirtual 261, 3), (62, .bipush (-4), 2), (64, .invokevirtual 245, 3), (67, .iastore, 1), (68, .aload_n 0, 1), (69, .getfield 40, 3), (72, .iconst 3, 1), (73, .aload_n 0, 1), (74, .getfield 234, 3), (77, .iastore, 1), (78, .aload_n 0, 1), (79, .iconst 4, 1), (80, .putfield 197, 3), (83, .aload_n 0, 1), (84, .iconst 1, 1), (85, .invokevirtual 267, 3), (88, .bipush (-2), 2), (90, .ireturn, 1), (91, .iinc 1 1, 3), (94, .aload_n 0, 1), (95, .invokevirtual 271, 3), (98, .istore_n 2, 1), (99, .goto (-83), 3), (102, .aload_n 0, 1), (103, .invokevirtual 261, 3), (106, .istore_n 2, 1), (107, .aload_n 0, 1), (108, .invokevirtual 277, 3), (111, .iload_n 2, 1), (112, .ireturn, 1)]
theorem tX10_fill_ok : ztok cX10_fill tX10_fill = true := by decide +kernel
def tX10_keepFilled : zT := [(0, .iconst 0, 1), (1, .istore_n 1, 1), (2, .iload_n 1, 1), (3, .bipush 18, 2), (5, .if_icmp .ge 21, 3), (8, .aload_n 0, 1), (9, .getfield 79, 3), (12, .iload_n 1, 1), (13, .aload_n 0, 1), (14, .getfield 28, 3), (17, .iload_n 1, 1), (18, .iaload, 1), (19, .iastore, 1), (20, .iinc 1 1, 3), (23, .goto (-21), 3), (26, .aload_n 0, 1), (27, .iconst 1, 1), (28, .invokevirtual 267, 3), (31, .aload_n 0, 1), (32, .invokevirtual 254, 3), (35, .iconst 0, 1), (36, .istore_n 1, 1), (37, .iload_n 1, 1), (38, .bipush 18, 2), (40, .if_icmp .ge 21, 3), (43, .aload_n 0, 1), (44, .getfield 28, 3), (47, .iload_n 1, 1), (48, .aload_n 0, 1), (49, .getfield 79, 3), (52, .iload_n 1, 1), (53, .iaload, 1), (54, .iastore, 1), (55, .iinc 1 1, 3), (58, .goto (-21), 3), (61, .return_, 1)]
theorem tX10_keepFilled_ok : ztok cX10_keepFilled tX10_keepFilled = true := by decide +kernel
def tX10_rename : zT := [(0, .aload_n 0, 1), (1, .iload_n 1, 1), (2, .invokevirtual 212, 3), (5, .ifCond .eq 15, 3), (8, .iload_n 2, 1), (9, .i2l, 1), (10, .lconst 0, 1), (11, .ldc2_w 280, 3), (14, .invokestatic 124, 3), (17, .ifCond .ne 5, 3), (20, .iconst (-1), 1), (21, .ireturn, 1), (22, .aload_n 0, 1), (23, .getfield 28, 3), (26, .iconst 0, 1), (27, .iload_n 1, 1), (28, .iadd, 1), (29, .iaload, 1), (30, .istore_n 3, 1), (31, .iload_n 3, 1), (32, .iload_n 2, 1), (33, .if_icmp .eq 11, 3), (36, .aload_n 0, 1), (37, .iload_n 1, 1), (38, .invokevirtual 215, 3), (41, .ifCond .eq 6, 3), (44, .bipush (-2), 2), (46, .ireturn, 1), (47, .aload_n 0, 1), (48, .invokevirtual 254, 3), (51, .aload_n 0, 1), (52, .getfield 28, 3), (55, .iconst 0, 1), (56, .iload_n 1, 1), (57, .iadd, 1), (58, .iload_n 2, 1), (59, .iastore, 1), (60, .iload_n 3, 1), (61, .ireturn, 1)]
theorem tX10_rename_ok : ztok cX10_rename tX10_rename = true := by decide +kernel
def tX10_undo : zT := [(0, .aload_n 0, 1), (1, .getfield 188, 3), (4, .ifCond .ne 6, 3), (7, .bipush (-2), 2), (9, .ireturn, 1), (10, .aload_n 0, 1), (11, .dup, 1), (12, .getfield 188, 3), (15, .iconst 1, 1), (16, .isub, 1), (17, .putfield 188, 3), (20, .iconst 0, 1), (21, .istore_n 1, 1), (22, .iload_n 1, 1), (23, .bipush 18, 2), (25, .if_icmp .ge 29, 3), (28, .aload_n 0, 1), (29, .getfield 28, 3), (32, .iload_n 1, 1), (33, .aload_n 0, 1), (34, .getfield 31, 3), (37, .bipush 18, 2), (39, .aload_n 0, 1), (40, .getfield 188, 3), (43, .imul, 1), (44, .iload_n 1, 1), (45, .iadd, 1), (46, .iaload, 1), (47, .iastore, 1), (48, .iinc 1 1, 3), (51, .goto (-29), 3), (54, .aload_n 0, 1), (55, .getfield 188, 3), (58, .ireturn, 1)]
theorem tX10_undo_ok : ztok cX10_undo tX10_undo = true := by decide +kernel
def tX10_why : zT := [(0, .iload_n 1, 1), (1, .iconst (-1), 1), (2, .if_icmp .ge 5, 3), (5, .iconst (-1), 1), (6, .ireturn, 1), (7, .iload_n 1, 1), (8, .ifCond .ge 10, 3), (11, .aload_n 0, 1), (12, .getfield 197, 3), (15, .goto 22, 3), (18, .iload_n 1, 1), (19, .aload_n 0, 1), (20, .getfield 197, 3), (23, .if_icmp .ge 12, 3), (26, .aload_n 0, 1), (27, .getfield 40, 3), (30, .iload_n 1, 1), (31, .iaload, 1), (32, .goto 5, 3), (35, .bipush (-4), 2), (37, .ireturn, 1)]
theorem tX10_why_ok : ztok cX10_why tX10_why = true := by decide +kernel
def tX10_soonest : zT := [(0, .aload_n 0, 1), (1, .iload_n 1, 1), (2, .invokevirtual 212, 3), (5, .ifCond .eq 11, 3), (8, .aload_n 0, 1), (9, .iload_n 2, 1), (10, .invokevirtual 222, 3), (13, .ifCond .ne 5, 3), (16, .iconst (-1), 1), (17, .ireturn, 1), (18, .aload_n 0, 1), (19, .invokevirtual 209, 3), (22, .aload_n 0, 1), (23, .iload_n 1, 1), (24, .iload_n 2, 1), (25, .bipush (-4), 2), (27, .invokevirtual 264, 3), (30, .ireturn, 1)]
theorem tX10_soonest_ok : ztok cX10_soonest tX10_soonest = true := by decide +kernel
def tX10_runs : zT := [(0, .iload_n 1, 1), (1, .i2l, 1), (2, .lconst 0, 1), (3, .ldc2_w 249, 3), (6, .invokestatic 124, 3), (9, .ifCond .eq 15, 3), (12, .iload_n 2, 1), (13, .i2l, 1), (14, .lconst 0, 1), (15, .ldc2_w 151, 3), (18, .invokestatic 124, 3), (21, .ifCond .ne 5, 3), (24, .iconst (-1), 1), (25, .ireturn, 1), (26, .aload_n 0, 1), (27, .invokevirtual 209, 3), (30, .aload_n 0, 1), (31, .iload_n 1, 1), (32, .iload_n 2, 1), (33, .invokevirtual 231, 3), (36, .ireturn, 1)]
theorem tX10_runs_ok : ztok cX10_runs tX10_runs = true := by decide +kernel
def tX10_upward : zT := [(0, .iload_n 0, 1), (1, .iload_n 1, 1), (2, .iadd, 1), (3, .iconst 1, 1), (4, .isub, 1), (5, .iload_n 1, 1), (6, .idiv, 1), (7, .ireturn, 1)]
theorem tX10_upward_ok : ztok cX10_upward tX10_upward = true := by decide +kernel
def tX10_areaOf : zT := [(0, .iconst 0, 1), (1, .istore_n 1, 1), (2, .iconst 0, 1), (3, .istore_n 2, 1), (4, .iload_n 2, 1), (5, .aload_n 0, 1), (6, .getfield 115, 3), (9, .if_icmp .ge 64, 3), (12, .ldc 200, 2), (14, .istore_n 3, 1), (15, .iconst 1, 1), (16, .istore 4, 2), (18, .iload 4, 2), (20, .aload_n 0, 1), (21, .getfield 91, 3), (24, .if_icmp .gt 39, 3), (27, .iload 4, 2), (29, .aload_n 0, 1), (30, .getfield 73, 3), (33, .bipush 9, 2), (35, .iload_n 2, 1), (36, .imul, 1), (37, .iload 4, 2), (39, .iadd, 1), (40, .iaload, 1), (41, .imul, 1), (42, .istore 5, 2), (44, .iload 5, 2), (46, .iload_n 3, 1), (47, .if_icmp .ge 8, 3), (50, .iload 5, 2), (52, .goto 4, 3), (55, .iload_n 3, 1), (56, .istore_n 3, 1), (57, .iinc 4 1, 3), (60, .goto (-42), 3), (63, .iload_n 1, 1), (64, .iload_n 3, 1), (65, .iadd, 1), (66, .istore_n 1, 1), (67, .iinc 2 1, 3), (70, .goto (-66), 3), (73, .iload_n 1, 1), (74, .aload_n 0, 1), (75, .getfield 91, 3), (78, .invokestatic 282, 3), (81, .ireturn, 1)]
theorem tX10_areaOf_ok : ztok cX10_areaOf tX10_areaOf = true := by decide +kernel
def tX10_pathOf : zT := [(0, .iconst 0, 1), (1, .istore_n 1, 1), (2, .iconst 0, 1), (3, .istore_n 2, 1), (4, .iload_n 2, 1), (5, .aload_n 0, 1), (6, .getfield 115, 3), (9, .if_icmp .ge 95, 3), (12, .iconst 0, 1), (13, .istore_n 3, 1), (14, .iconst 0, 1), (15, .istore 4, 2), (17, .iload 4, 2), (19, .iload_n 2, 1), (20, .if_icmp .ge 44, 3), (23, .aload_n 0, 1), (24, .iload 4, 2), (26, .iload_n 2, 1), (27, .bipush (-4), 2), (29, .invokevirtual 237, 3), (32, .ifCond .eq 24, 3), (35, .aload_n 0, 1), (36, .getfield 82, 3), (39, .iload 4, 2), (41, .iaload, 1), (42, .iload_n 3, 1), (43, .if_icmp .le 13, 3), (46, .aload_n 0, 1), (47, .getfield 82, 3), (50, .iload 4, 2), (52, .iaload, 1), (53, .goto 4, 3), (56, .iload_n 3, 1), (57, .istore_n 3, 1), (58, .iinc 4 1, 3), (61, .goto (-44), 3), (64, .aload_n 0, 1), (65, .getfield 82, 3), (68, .iload_n 2, 1), (69, .iload_n 3, 1), (70, .aload_n 0, 1), (71, .iload_n 2, 1), (72, .invokevirtual 285, 3), (75, .iadd, 1), (76, .iastore, 1), (77, .aload_n 0, 1), (78, .getfield 82, 3), (81, .iload_n 2, 1), (82, .iaload, 1), (83, .iload_n 1, 1), (84, .if_icmp .le 12, 3), (87, .aload_n 0, 1), (88, .getfield 82, 3), (91, .iload_n 2, 1), (92, .iaload, 1), (93, .goto 4, 3), (96, .iload_n 1, 1), (97, .istore_n 1, 1), (98, .iinc 2 1, 3), (101, .goto (-97), 3), (104, .iload_n 1, 1), (105, .ireturn, 1)]
theorem tX10_pathOf_ok : ztok cX10_pathOf tX10_pathOf = true := by decide +kernel
def tX10_drawnOf : zT := [(0, .iconst 0, 1), (1, .istore_n 1, 1), (2, .iconst 0, 1), (3, .istore_n 2, 1), (4, .iload_n 2, 1), (5, .aload_n 0, 1), (6, .getfield 115, 3), (9, .if_icmp .ge 24, 3), (12, .iload_n 1, 1), (13, .aload_n 0, 1), (14, .iload_n 2, 1), (15, .invokevirtual 285, 3), (18, .aload_n 0, 1), (19, .getfield 13, 3), (22, .iload_n 2, 1), (23, .iaload, 1), (24, .imul, 1), (25, .iadd, 1), (26, .istore_n 1, 1), (27, .iinc 2 1, 3), (30, .goto (-26), 3), (33, .iload_n 1, 1), (34, .aload_n 0, 1), (35, .getfield 95, 3), (38, .invokestatic 282, 3), (41, .ireturn, 1)]
theorem tX10_drawnOf_ok : ztok cX10_drawnOf tX10_drawnOf = true := by decide +kernel
def tX10_bound : zT := [(0, .iload_n 1, 1), (1, .i2l, 1), (2, .lconst 0, 1), (3, .ldc2_w 280, 3), (6, .invokestatic 124, 3), (9, .ifCond .ne 5, 3), (12, .iconst (-1), 1), (13, .ireturn, 1), (14, .aload_n 0, 1), (15, .invokevirtual 209, 3), (18, .aload_n 0, 1), (19, .invokevirtual 288, 3), (22, .istore_n 2, 1), (23, .aload_n 0, 1), (24, .invokevirtual 291, 3), (27, .istore_n 3, 1), (28, .aload_n 0, 1), (29, .invokevirtual 294, 3), (32, .istore 4, 2), (34, .iload_n 2, 1), (35, .iload_n 3, 1), (36, .if_icmp .le 7, 3), (39, .iload_n 2, 1), (40, .goto 4, 3), (43, .iload_n 3, 1), (44, .istore 5, 2), (46, .iload_n 1, 1), (47, .ifCond .ne 7, 3), (50, .iload_n 2, 1), (51, .goto 36, 3), (54, .iload_n 1, 1), (55, .iconst 1, 1), (56, .if_icmp .ne 7, 3), (59, .iload_n 3, 1), (60, .goto 27, 3), (63, .iload_n 1, 1), (64, .iconst 2, 1), (65, .if_icmp .ne 8, 3), (68, .iload 4, 2), (70, .goto 17, 3), (73, .iload 4, 2), (75, .iload 5, 2), (77, .if_icmp .le 8, 3), (80, .iload 4, 2), (82, .goto 5, 3), (85, .iload 5, 2), (87, .ireturn, 1)]
theorem tX10_bound_ok : ztok cX10_bound tX10_bound = true := by decide +kernel
def tX10_nextOrder : zT := [(0, .aload_n 0, 1), (1, .getfield 115, 3), (4, .iconst 2, 1), (5, .isub, 1), (6, .istore_n 1, 1), (7, .iload_n 1, 1), (8, .ifCond .lt 26, 3), (11, .aload_n 0, 1), (12, .getfield 85, 3), (15, .iload_n 1, 1), (16, .iaload, 1), (17, .aload_n 0, 1), (18, .getfield 85, 3), (21, .iload_n 1, 1), (22, .iconst 1, 1), (23, .iadd, 1), (24, .iaload, 1), (25, .if_icmp .le 9, 3), (28, .iinc 1 (-1), 3), (31, .goto (-24), 3), (34, .iload_n 1, 1), (35, .ifCond .ge 5, 3), (38, .iconst 0, 1), (39, .ireturn, 1), (40, .aload_n 0, 1), (41, .getfield 115, 3), (44, .iconst 1, 1), (45, .isub, 1), (46, .istore_n 2, 1), (47, .aload_n 0, 1), (48, .getfield 85, 3), (51, .iload_n 2, 1), (52, .iaload, 1), (53, .aload_n 0, 1), (54, .getfield 85, 3), (57, .iload_n 1, 1), (58, .iaload, 1), (59, .if_icmp .ge 9, 3), (62, .iinc 2 (-1), 3), (65, .goto (-18), 3), (68, .aload_n 0, 1), (69, .iload_n 1, 1), (70, .iload_n 2, 1), (71, .invokevirtual 297, 3), (74, .iload_n 1, 1), (75, .iconst 1, 1), (76, .iadd, 1), (77, .istore_n 3, 1), (78, .aload_n 0, 1), (79, .getfield 115, 3), (82, .iconst 1, 1), (83, .isub, 1), (84, .istore 4, 2), (86, .iload_n 3, 1), (87, .iload 4, 2), (89, .if_icmp .ge 19, 3), (92, .aload_n 0, 1), (93, .iload_n 3, 1), (94, .iload 4, 2), (96, .invokevirtual 297, 3), (99, .iinc 3 1, 3), (102, .iinc 4 (-1), 3), (105, .goto (-19), 3), (108, .iconst 1, 1), (109, .ireturn, 1)]
theorem tX10_nextOrder_ok : ztok cX10_nextOrder tX10_nextOrder = true := by decide +kernel
def tX10_swap : zT := [(0, .aload_n 0, 1), (1, .getfield 85, 3), (4, .iload_n 1, 1), (5, .iaload, 1), (6, .istore_n 3, 1), (7, .aload_n 0, 1), (8, .getfield 85, 3), (11, .iload_n 1, 1), (12, .aload_n 0, 1), (13, .getfield 85, 3), (16, .iload_n 2, 1), (17, .iaload, 1), (18, .iastore, 1), (19, .aload_n 0, 1), (20, .getfield 85, 3), (23, .iload_n 2, 1), (24, .iload_n 3, 1), (25, .iastore, 1), (26, .return_, 1)]
theorem tX10_swap_ok : ztok cX10_swap tX10_swap = true := by decide +kernel
def tX10_goOrder : zT := [(0, .iconst 0, 1), (1, .istore_n 2, 1), (2, .iload_n 2, 1), (3, .aload_n 0, 1), (4, .getfield 115, 3), (7, .if_icmp .ge 16, 3), (10, .aload_n 0, 1), (11, .iload_n 2, 1), (12, .iconst 0, 1), (13, .iconst 0, 1), (14, .invokevirtual 257, 3), (17, .iinc 2 1, 3), (20, .goto (-18), 3), (23, .iconst 0, 1), (24, .istore_n 2, 1), (25, .iload_n 2, 1), (26, .aload_n 0, 1), (27, .getfield 115, 3), (30, .if_icmp .ge 26, 3), (33, .aload_n 0, 1), (34, .aload_n 0, 1), (35, .getfield 85, 3), (38, .iload_n 2, 1), (39, .iaload, 1), (40, .iload_n 1, 1), (41, .invokevirtual 274, 3), (44, .ifCond .ne 6, 3), (47, .bipush (-4), 2), (49, .ireturn, 1), (50, .iinc 2 1, 3), (53, .goto (-28), 3), (56, .aload_n 0, 1), (57, .invokevirtual 261, 3), (60, .ireturn, 1)]
theorem tX10_goOrder_ok : ztok cX10_goOrder tX10_goOrder = true := by decide +kernel
def tX10_bestBy : zT := [(0, .aload_n 0, 1), (1, .invokevirtual 209, 3), (4, .aload_n 0, 1), (5, .iconst 0, 1), (6, .invokevirtual 267, 3), (9, .iconst 0, 1), (10, .istore_n 2, 1), (11, .iload_n 2, 1), (12, .aload_n 0, 1), (13, .getfield 115, 3), (16, .if_icmp .ge 16, 3), (19, .aload_n 0, 1), (20, .getfield 85, 3), (23, .iload_n 2, 1), (24, .iload_n 2, 1), (25, .iastore, 1), (26, .iinc 2 1, 3), (29, .goto (-18), 3), (32, .bipush (-4), 2), (34, .istore_n 2, 1), (35, .aload_n 0, 1), (36, .iload_n 1, 1), (37, .invokevirtual 301, 3), (40, .istore_n 3, 1), (41, .iload_n 3, 1), (42, .ifCond .lt 46, 3), (45, .iload_n 2, 1), (46, .ifCond .lt 8, 3), (49, .iload_n 3, 1), (50, .iload_n 2, 1), (51, .if_icmp .ge 37, 3), (54, .iload_n 3, 1), (55, .istore_n 2, 1), (56, .iconst 0, 1), (57, .istore 4, 2), (59, .iload 4, 2), (61, .aload_n 0, 1), (62, .getfield 115, 3), (65, .if_icmp .ge 23, 3), (68, .aload_n 0, 1), (69, .getfield 88, 3), (72, .iload 4, 2), (74, .aload_n 0, 1), (75, .getfield 85, 3), (78, .iload 4, 2), (80, .iaload, 1), (81, .iastore, 1), (82, .iinc 4 1, 3), (85, .goto (-26), 3), (88, .aload_n 0, 1), (89, .invokevirtual 304, 3), (92, .ifCond .ne (-57), 3), (95, .aload_n 0, 1), (96, .iconst 1, 1), (97, .invokevirtual 267, 3), (100, .iload_n 2, 1), (101, .ireturn, 1)]
theorem tX10_bestBy_ok : ztok cX10_bestBy tX10_bestBy = true := by decide +kernel
def tX10_best : zT := [(0, .iload_n 1, 1), (1, .i2l, 1), (2, .ldc2_w 307, 3), (5, .aload_n 0, 1), (6, .getfield 115, 3), (9, .iconst 1, 1), (10, .isub, 1), (11, .i2l, 1), (12, .invokestatic 124, 3), (15, .ifCond .ne 5, 3), (18, .iconst (-1), 1), (19, .ireturn, 1), (20, .aload_n 0, 1), (21, .bipush (-4), 2), (23, .invokevirtual 309, 3), (26, .istore_n 2, 1), (27, .iload_n 1, 1), (28, .ifCond .lt 7, 3), (31, .iload_n 2, 1), (32, .ifCond .ge 7, 3), (35, .iload_n 2, 1), (36, .goto 9, 3), (39, .aload_n 0, 1), (40, .getfield 88, 3), (43, .iload_n 1, 1), (44, .iaload, 1), (45, .ireturn, 1)]
theorem tX10_best_ok : ztok cX10_best tX10_best = true := by decide +kernel
def tX10_costs : zT := [(0, .iload_n 1, 1), (1, .i2l, 1), (2, .lconst 0, 1), (3, .aload_n 0, 1), (4, .getfield 121, 3), (7, .iconst 1, 1), (8, .isub, 1), (9, .i2l, 1), (10, .invokestatic 124, 3), (13, .ifCond .ne 5, 3), (16, .iconst (-1), 1), (17, .ireturn, 1), (18, .aload_n 0, 1), (19, .bipush (-4), 2), (21, .invokevirtual 309, 3), (24, .istore_n 2, 1), (25, .iload_n 2, 1), (26, .ifCond .ge 8, 3), (29, .bipush (-4), 2), (31, .goto 13, 3), (34, .iload_n 2, 1), (35, .aload_n 0, 1), (36, .iload_n 1, 1), (37, .invokevirtual 309, 3), (40, .isub, 1), (41, .ldc 200, 2), (43, .iadd, 1), (44, .ireturn, 1)]
theorem tX10_costs_ok : ztok cX10_costs tX10_costs = true := by decide +kernel
def tX10_seen : zT := [(0, .aload_n 0, 1), (1, .iload_n 1, 1), (2, .invokevirtual 212, 3), (5, .ifCond .eq 23, 3), (8, .aload_n 0, 1), (9, .iload_n 2, 1), (10, .invokevirtual 222, 3), (13, .ifCond .eq 15, 3), (16, .iload_n 3, 1), (17, .i2l, 1), (18, .lconst 1, 1), (19, .ldc2_w 312, 3), (22, .invokestatic 124, 3), (25, .ifCond .ne 5, 3), (28, .iconst (-1), 1), (29, .ireturn, 1), (30, .aload_n 0, 1), (31, .getfield 191, 3), (34, .bipush 6, 2), (36, .if_icmp .ne 6, 3), (39, .bipush (-3), 2), (41, .ireturn, 1), (42, .aload_n 0, 1), (43, .getfield 34, 3), (46, .iconst 3, 1), (47, .aload_n 0, 1), (48, .getfield 191, 3), (51, .imul, 1), (52, .iload_n 1, 1), (53, .iastore, 1), (54, .aload_n 0, 1), (55, .getfield 34, 3), (58, .iconst 3, 1), (59, .aload_n 0, 1), (60, .getfield 191, 3), (63, .imul, 1), (64, .iconst 1, 1), (65, .iadd, 1), (66, .iload_n 2, 1), (67, .iastore, 1), (68, .aload_n 0, 1), (69, .getfield 34, 3), (72, .iconst 3, 1), (73, .aload_n 0, 1), (74, .getfield 191, 3), (77, .imul, 1), (78, .iconst 2, 1), (79, .iadd, 1), (80, .iload_n 3, 1), (81, .iastore, 1), (82, .aload_n 0, 1), (83, .dup, 1), (84, .getfield 191, 3), (87, .iconst 1, 1), (88, .iadd, 1), (89, .putfield 191, 3), (92, .aload_n 0, 1), (93, .getfield 191, 3), (96, .ireturn, 1)]
theorem tX10_seen_ok : ztok cX10_seen tX10_seen = true := by decide +kernel
def tX10_forget : zT := [(0, .aload_n 0, 1), (1, .getfield 191, 3), (4, .istore_n 1, 1), (5, .aload_n 0, 1), (6, .iconst 0, 1), (7, .putfield 191, 3), (10, .iload_n 1, 1), (11, .ireturn, 1)]
theorem tX10_forget_ok : ztok cX10_forget tX10_forget = true := by decide +kernel
def tX10_kinds : zT := [(0, .aload_n 0, 1), (1, .iload_n 1, 1), (2, .invokevirtual 212, 3), (5, .ifCond .ne 5, 3), (8, .iconst (-1), 1), (9, .ireturn, 1), (10, .iconst 0, 1), (11, .istore_n 2, 1), (12, .iconst 0, 1), (13, .istore_n 3, 1), (14, .iload_n 3, 1), (15, .iconst 4, 1), (16, .if_icmp .ge 101, 3), (19, .iconst 1, 1), (20, .istore 4, 2), (22, .iconst 0, 1), (23, .istore 5, 2), (25, .iload 5, 2), (27, .aload_n 0, 1), (28, .getfield 191, 3), (31, .if_icmp .ge 65, 3), (34, .iload 4, 2), (36, .ifCond .eq 51, 3), (39, .aload_n 0, 1), (40, .getfield 34, 3), (43, .iconst 3, 1), (44, .iload 5, 2), (46, .imul, 1), (47, .iaload, 1), (48, .iload_n 1, 1), (49, .if_icmp .ne 34, 3), (52, .aload_n 0, 1), (53, .iload_n 3, 1), (54, .iload_n 1, 1), (55, .aload_n 0, 1), (56, .getfield 34, 3), (59, .iconst 3, 1), (60, .iload 5, 2), (62, .imul, 1), (63, .iconst 1, 1), (64, .iadd, 1), (65, .iaload, 1), (66, .invokevirtual 205, 3), (69, .aload_n 0, 1), (70, .getfield 34, 3), (73, .iconst 3, 1), (74, .iload 5, 2), (76, .imul, 1), (77, .iconst 2, 1), (78, .iadd, 1), (79, .iaload, 1), (80, .if_icmp .ne 7, 3), (83, .iconst 1, 1), (84, .goto 4, 3), (87, .iconst 0, 1), (88, .istore 4, 2), (90, .iinc 5 1, 3), (93, .goto (-68), 3), (96, .iload_n 2, 1), (97, .iload 4, 2), (99, .ifCond .eq 9, 3), (102, .iconst 1, 1), (103, .iload_n 3, 1), (104, .ishl, 1), (105, .goto 4, 3), (108, .iconst 0, 1), (109, .ior, 1), (110, .istore_n 2, 1), (111, .iinc 3 1, 3), (114, .goto (-100), 3), (117, .iload_n 2, 1), (118, .ireturn, 1)]
theorem tX10_kinds_ok : ztok cX10_kinds tX10_kinds = true := by decide +kernel
def tX10_keep : zT := [(0, .aload_n 0, 1), (1, .getfield 194, 3), (4, .iconst 2, 1), (5, .if_icmp .ne 6, 3), (8, .bipush (-3), 2), (10, .ireturn, 1), (11, .iconst 0, 1), (12, .istore_n 1, 1), (13, .iload_n 1, 1), (14, .bipush 18, 2), (16, .if_icmp .ge 29, 3), (19, .aload_n 0, 1), (20, .getfield 37, 3), (23, .bipush 18, 2), (25, .aload_n 0, 1), (26, .getfield 194, 3), (29, .imul, 1), (30, .iload_n 1, 1), (31, .iadd, 1), (32, .aload_n 0, 1), (33, .getfield 28, 3), (36, .iload_n 1, 1), (37, .iaload, 1), (38, .iastore, 1), (39, .iinc 1 1, 3), (42, .goto (-29), 3), (45, .aload_n 0, 1), (46, .dup, 1), (47, .getfield 194, 3), (50, .iconst 1, 1), (51, .iadd, 1), (52, .putfield 194, 3), (55, .aload_n 0, 1), (56, .getfield 194, 3), (59, .ireturn, 1)]
theorem tX10_keep_ok : ztok cX10_keep tX10_keep = true := by decide +kernel
def tX10_back : zT := [(0, .aload_n 0, 1), (1, .getfield 194, 3), (4, .ifCond .ne 6, 3), (7, .bipush (-2), 2), (9, .ireturn, 1), (10, .aload_n 0, 1), (11, .dup, 1), (12, .getfield 194, 3), (15, .iconst 1, 1), (16, .isub, 1), (17, .putfield 194, 3), (20, .iconst 0, 1), (21, .istore_n 1, 1), (22, .iload_n 1, 1), (23, .bipush 18, 2), (25, .if_icmp .ge 29, 3), (28, .aload_n 0, 1), (29, .getfield 28, 3), (32, .iload_n 1, 1), (33, .aload_n 0, 1), (34, .getfield 37, 3), (37, .bipush 18, 2), (39, .aload_n 0, 1), (40, .getfield 194, 3), (43, .imul, 1), (44, .iload_n 1, 1), (45, .iadd, 1), (46, .iaload, 1), (47, .iastore, 1), (48, .iinc 1 1, 3), (51, .goto (-29), 3), (54, .aload_n 0, 1), (55, .iconst 0, 1), (56, .putfield 188, 3), (59, .aload_n 0, 1), (60, .getfield 194, 3), (63, .ireturn, 1)]
theorem tX10_back_ok : ztok cX10_back tX10_back = true := by decide +kernel
def tX10_putMany : zT := [(0, .iconst 0, 1), (1, .istore_n 1, 1), (2, .iconst 0, 1), (3, .istore_n 2, 1), (4, .iload_n 2, 1), (5, .aload_n 0, 1), (6, .getfield 115, 3), (9, .if_icmp .ge 25, 3), (12, .iload_n 1, 1), (13, .aload_n 0, 1), (14, .iload_n 2, 1), (15, .invokevirtual 215, 3), (18, .ifCond .eq 7, 3), (21, .iconst 1, 1), (22, .goto 4, 3), (25, .iconst 0, 1), (26, .iadd, 1), (27, .istore_n 1, 1), (28, .iinc 2 1, 3), (31, .goto (-27), 3), (34, .iload_n 1, 1), (35, .ireturn, 1)]
theorem tX10_putMany_ok : ztok cX10_putMany tX10_putMany = true := by decide +kernel
def tX10_lengthNow : zT := [(0, .aload_n 0, 1), (1, .invokevirtual 209, 3), (4, .aload_n 0, 1), (5, .invokevirtual 261, 3), (8, .ireturn, 1)]
theorem tX10_lengthNow_ok : ztok cX10_lengthNow tX10_lengthNow = true := by decide +kernel
def tX10_count : zT := [(0, .iload_n 1, 1), (1, .tableswitch 105 0 9 #[55, 60, 65, 70, 75, 80, 85, 90, 95, 100], 55), (56, .aload_n 0, 1), (57, .getfield 115, 3), (60, .ireturn, 1), (61, .aload_n 0, 1), (62, .getfield 121, 3), (65, .ireturn, 1), (66, .aload_n 0, 1), (67, .getfield 91, 3), (70, .ireturn, 1), (71, .aload_n 0, 1), (72, .getfield 95, 3), (75, .ireturn, 1), (76, .aload_n 0, 1), (77, .invokevirtual 314, 3), (80, .ireturn, 1), (81, .aload_n 0, 1), (82, .invokevirtual 317, 3), (85, .ireturn, 1), (86, .aload_n 0, 1), (87, .getfield 191, 3), (90, .ireturn, 1), (91, .aload_n 0, 1), (92, .getfield 188, 3), (95, .ireturn, 1), (96, .aload_n 0, 1), (97, .getfield 194, 3), (100, .ireturn, 1), (101, .aload_n 0, 1), (102, .getfield 134, 3), (105, .ireturn, 1), (106, .iconst (-1), 1), (107, .ireturn, 1)]
theorem tX10_count_ok : ztok cX10_count tX10_count = true := by decide +kernel
def tL_law : zT := [(0, .new 7, 3), (3, .dup, 1), (4, .invokespecial 9, 3), (7, .astore_n 1, 1), (8, .new 10, 3), (11, .dup, 1), (12, .invokespecial 12, 3), (15, .astore_n 2, 1), (16, .iconst 0, 1), (17, .istore_n 3, 1), (18, .iload_n 3, 1), (19, .aload_n 0, 1), (20, .arraylength, 1), (21, .iconst 4, 1), (22, .isub, 1), (23, .if_icmp .gt 756, 3), (26, .aload_n 0, 1), (27, .iload_n 3, 1), (28, .iaload, 1), (29, .bipush 31, 2), (31, .iand, 1), (32, .tableswitch 741 0 24 #[116, 139, 152, 165, 178, 211, 244, 287, 330, 373, 396, 409, 442, 455, 478, 511, 544, 567, 590, 613, 656, 669, 692, 705, 718], 116), (148, .aload_n 1, 1), (149, .aload_n 0, 1), (150, .iload_n 3, 1), (151, .iconst 1, 1), (152, .iadd, 1), (153, .iaload, 1), (154, .invokevirtual 13, 3), (157, .aload_n 2, 1), (158, .aload_n 0, 1), (159, .iload_n 3, 1), (160, .iconst 1, 1), (161, .iadd, 1), (162, .iaload, 1), (163, .invokevirtual 17, 3), (166, .if_icmp .eq 607, 3), (169, .iconst 0, 1), (170, .ireturn, 1), (171, .aload_n 1, 1), (172, .invokevirtual 18, 3), (175, .aload_n 2, 1), (176, .invokevirtual 22, 3), (179, .if_icmp .eq 594, 3), (182, .iconst 0, 1), (183, .ireturn, 1), (184, .aload_n 1, 1), (185, .invokevirtual 23, 3), (188, .aload_n 2, 1), (189, .invokevirtual 26, 3), (192, .if_icmp .eq 581, 3), (195, .iconst 0, 1), (196, .ireturn, 1), (197, .aload_n 1, 1), (198, .invokevirtual 27, 3), (201, .aload_n 2, 1), (202, .invokevirtual 30, 3), (205, .if_icmp .eq 568, 3), (208, .iconst 0, 1), (209, .ireturn, 1), (210, .aload_n 1, 1), (211, .aload_n 0, 1), (212, .iload_n 3, 1), (213, .iconst 1, 1), (214, .iadd, 1), (215, .iaload, 1), (216, .aload_n 0, 1), (217, .iload_n 3, 1), (218, .iconst 2, 1), (219, .iadd, 1), (220, .iaload, 1), (221, .invokevirtual 31, 3), (224, .aload_n 2, 1), (225, .aload_n 0, 1), (226, .iload_n 3, 1), (227, .iconst 1, 1), (228, .iadd, 1), (229, .iaload, 1), (230, .aload_n 0, 1), (231, .iload_n 3, 1), (232, .iconst 2, 1), (233, .iadd, 1), (234, .iaload, 1), (235, .invokevirtual 35, 3), (238, .if_icmp .eq 535, 3), (241, .iconst 0, 1), (242, .ireturn, 1), (243, .aload_n 1, 1), (244, .aload_n 0, 1), (245, .iload_n 3, 1), (246, .iconst 1, 1), (247, .iadd, 1), (248, .iaload, 1), (249, .aload_n 0, 1), (250, .iload_n 3, 1), (251, .iconst 2, 1), (252, .iadd, 1), (253, .iaload, 1), (254, .invokevirtual 36, 3), (257, .aload_n 2, 1), (258, .aload_n 0, 1), (259, .iload_n 3, 1), (260, .iconst 1, 1), (261, .iadd, 1), (262, .iaload, 1), (263, .aload_n 0, 1), (264, .iload_n 3, 1), (265, .iconst 2, 1), (266, .iadd, 1), (267, .iaload, 1), (268, .invokevirtual 39, 3), (271, .if_icmp .eq 502, 3), (274, .iconst 0, 1), (275, .ireturn, 1), (276, .aload_n 1, 1), (277, .aload_n 0, 1), (278, .iload_n 3, 1), (279, .iconst 1, 1), (280, .iadd, 1), (281, .iaload, 1), (282, .aload_n 0, 1), (283, .iload_n 3, 1), (284, .iconst 2, 1), (285, .iadd, 1), (286, .iaload, 1), (287, .aload_n 0, 1), (288, .iload_n 3, 1), (289, .iconst 3, 1), (290, .iadd, 1), (291, .iaload, 1), (292, .invokevirtual 40, 3), (295, .aload_n 2, 1), (296, .aload_n 0, 1), (297, .iload_n 3, 1), (298, .iconst 1, 1), (299, .iadd, 1), (300, .iaload, 1), (301, .aload_n 0, 1), (302, .iload_n 3, 1), (303, .iconst 2, 1), (304, .iadd, 1), (305, .iaload, 1), (306, .aload_n 0, 1), (307, .iload_n 3, 1), (308, .iconst 3, 1), (309, .iadd, 1), (310, .iaload, 1), (311, .invokevirtual 44, 3), (314, .if_icmp .eq 459, 3), (317, .iconst 0, 1), (318, .ireturn, 1), (319, .aload_n 1, 1), (320, .aload_n 0, 1), (321, .iload_n 3, 1), (322, .iconst 1, 1), (323, .iadd, 1), (324, .iaload, 1), (325, .aload_n 0, 1), (326, .iload_n 3, 1), (327, .iconst 2, 1), (328, .iadd, 1), (329, .iaload, 1), (330, .aload_n 0, 1), (331, .iload_n 3, 1), (332, .iconst 3, 1), (333, .iadd, 1), (334, .iaload, 1), (335, .invokevirtual 45, 3), (338, .aload_n 2, 1), (339, .aload_n 0, 1), (340, .iload_n 3, 1), (341, .iconst 1, 1), (342, .iadd, 1), (343, .iaload, 1), (344, .aload_n 0, 1), (345, .iload_n 3, 1), (346, .iconst 2, 1), (347, .iadd, 1), (348, .iaload, 1), (349, .aload_n 0, 1), (350, .iload_n 3, 1), (351, .iconst 3, 1), (352, .iadd, 1), (353, .iaload, 1), (354, .invokevirtual 48, 3), (357, .if_icmp .eq 416, 3), (360, .iconst 0, 1), (361, .ireturn, 1), (362, .aload_n 1, 1), (363, .aload_n 0, 1), (364, .iload_n 3, 1), (365, .iconst 1, 1), (366, .iadd, 1), (367, .iaload, 1), (368, .aload_n 0, 1), (369, .iload_n 3, 1), (370, .iconst 2, 1), (371, .iadd, 1), (372, .iaload, 1), (373, .aload_n 0, 1), (374, .iload_n 3, 1), (375, .iconst 3, 1), (376, .iadd, 1), (377, .iaload, 1), (378, .invokevirtual 49, 3), (381, .aload_n 2, 1), (382, .aload_n 0, 1), (383, .iload_n 3, 1), (384, .iconst 1, 1), (385, .iadd, 1), (386, .iaload, 1), (387, .aload_n 0, 1), (388, .iload_n 3, 1), (389, .iconst 2, 1), (390, .iadd, 1), (391, .iaload, 1), (392, .aload_n 0, 1), (393, .iload_n 3, 1), (394, .iconst 3, 1), (395, .iadd, 1), (396, .iaload, 1), (397, .invokevirtual 52, 3), (400, .if_icmp .eq 373, 3), (403, .iconst 0, 1), (404, .ireturn, 1), (405, .aload_n 1, 1), (406, .aload_n 0, 1), (407, .iload_n 3, 1), (408, .iconst 1, 1), (409, .iadd, 1), (410, .iaload, 1), (411, .invokevirtual 53, 3), (414, .aload_n 2, 1), (415, .aload_n 0, 1), (416, .iload_n 3, 1), (417, .iconst 1, 1), (418, .iadd, 1), (419, .iaload, 1), (420, .invokevirtual 56, 3), (423, .if_icmp .eq 350, 3), (426, .iconst 0, 1), (427, .ireturn, 1), (428, .aload_n 1, 1), (429, .invokevirtual 57, 3), (432, .aload_n 2, 1), (433, .invokevirtual 60, 3), (436, .if_icmp .eq 337, 3), (439, .iconst 0, 1), (440, .ireturn, 1), (441, .aload_n 1, 1), (442, .aload_n 0, 1), (443, .iload_n 3, 1), (444, .iconst 1, 1), (445, .iadd, 1), (446, .iaload, 1), (447, .aload_n 0, 1), (448, .iload_n 3, 1), (449, .iconst 2, 1), (450, .iadd, 1), (451, .iaload, 1), (452, .invokevirtual 61, 3), (455, .aload_n 2, 1), (456, .aload_n 0, 1), (457, .iload_n 3, 1), (458, .iconst 1, 1), (459, .iadd, 1), (460, .iaload, 1), (461, .aload_n 0, 1), (462, .iload_n 3, 1), (463, .iconst 2, 1), (464, .iadd, 1), (465, .iaload, 1), (466, .invokevirtual 64, 3), (469, .if_icmp .eq 304, 3), (472, .iconst 0, 1), (473, .ireturn, 1), (474, .aload_n 1, 1), (475, .invokevirtual 65, 3), (478, .aload_n 2, 1), (479, .invokevirtual 68, 3), (482, .if_icmp .eq 291, 3), (485, .iconst 0, 1), (486, .ireturn, 1), (487, .aload_n 1, 1), (488, .aload_n 0, 1), (489, .iload_n 3, 1), (490, .iconst 1, 1), (491, .iadd, 1), (492, .iaload, 1), (493, .invokevirtual 69, 3), (496, .aload_n 2, 1), (497, .aload_n 0, 1), (498, .iload_n 3, 1), (499, .iconst 1, 1), (500, .iadd, 1), (501, .iaload, 1), (502, .invokevirtual 72, 3), (505, .if_icmp .eq 268, 3), (508, .iconst 0, 1), (509, .ireturn, 1), (510, .aload_n 1, 1), (511, .aload_n 0, 1), (512, .iload_n 3, 1), (513, .iconst 1, 1), (514, .iadd, 1), (515, .iaload, 1), (516, .aload_n 0, 1), (517, .iload_n 3, 1), (518, .iconst 2, 1), (519, .iadd, 1), (520, .iaload, 1), (521, .invokevirtual 73, 3), (524, .aload_n 2, 1), (525, .aload_n 0, 1), (526, .iload_n 3, 1), (527, .iconst 1, 1), (528, .iadd, 1), (529, .iaload, 1), (530, .aload_n 0, 1), (531, .iload_n 3, 1), (532, .iconst 2, 1), (533, .iadd, 1), (534, .iaload, 1), (535, .invokevirtual 76, 3), (538, .if_icmp .eq 235, 3), (541, .iconst 0, 1), (542, .ireturn, 1), (543, .aload_n 1, 1), (544, .aload_n 0, 1), (545, .iload_n 3, 1), (546, .iconst 1, 1), (547, .iadd, 1), (548, .iaload, 1), (549, .aload_n 0, 1), (550, .iload_n 3, 1), (551, .iconst 2, 1), (552, .iadd, 1), (553, .iaload, 1), (554, .invokevirtual 77, 3), (557, .aload_n 2, 1), (558, .aload_n 0, 1), (559, .iload_n 3, 1), (560, .iconst 1, 1), (561, .iadd, 1), (562, .iaload, 1), (563, .aload_n 0, 1), (564, .iload_n 3, 1), (565, .iconst 2, 1), (566, .iadd, 1), (567, .iaload, 1), (568, .invokevirtual 80, 3), (571, .if_icmp .eq 202, 3), (574, .iconst 0, 1), (575, .ireturn, 1), (576, .aload_n 1, 1), (577, .aload_n 0, 1), (578, .iload_n 3, 1), (579, .iconst 1, 1), (580, .iadd, 1), (581, .iaload, 1), (582, .invokevirtual 81, 3), (585, .aload_n 2, 1), (586, .aload_n 0, 1), (587, .iload_n 3, 1), (588, .iconst 1, 1), (589, .iadd, 1), (590, .iaload, 1), (591, .invokevirtual 84, 3), (594, .if_icmp .eq 179, 3), (597, .iconst 0, 1), (598, .ireturn, 1), (599, .aload_n 1, 1), (600, .aload_n 0, 1), (601, .iload_n 3, 1), (602, .iconst 1, 1), (603, .iadd, 1), (604, .iaload, 1), (605, .invokevirtual 85, 3), (608, .aload_n 2, 1), (609, .aload_n 0, 1), (610, .iload_n 3, 1), (611, .iconst 1, 1), (612, .iadd, 1), (613, .iaload, 1), (614, .invokevirtual 88, 3), (617, .if_icmp .eq 156, 3), (620, .iconst 0, 1), (621, .ireturn, 1), (622, .aload_n 1, 1), (623, .aload_n 0, 1), (624, .iload_n 3, 1), (625, .iconst 1, 1), (626, .iadd, 1), (627, .iaload, 1), (628, .invokevirtual 89, 3), (631, .aload_n 2, 1), (632, .aload_n 0, 1), (633, .iload_n 3, 1), (634, .iconst 1, 1), (635, .iadd, 1), (636, .iaload, 1), (637, .invokevirtual 92, 3), (640, .if_icmp .eq 133, 3), (643, .iconst 0, 1), (644, .ireturn, 1), (645, .aload_n 1, 1), (646, .aload_n 0, 1), (647, .iload_n 3, 1), (648, .iconst 1, 1), (649, .iadd, 1), (650, .iaload, 1), (651, .aload_n 0, 1), (652, .iload_n 3, 1), (653, .iconst 2, 1), (654, .iadd, 1), (655, .iaload, 1), (656, .aload_n 0, 1), (657, .iload_n 3, 1), (658, .iconst 3, 1), (659, .iadd, 1), (660, .iaload, 1), (661, .invokevirtual 93, 3), (664, .aload_n 2, 1), (665, .aload_n 0, 1), (666, .iload_n 3, 1), (667, .iconst 1, 1), (668, .iadd, 1), (669, .iaload, 1), (670, .aload_n 0, 1), (671, .iload_n 3, 1), (672, .iconst 2, 1), (673, .iadd, 1), (674, .iaload, 1), (675, .aload_n 0, 1), (676, .iload_n 3, 1), (677, .iconst 3, 1), (678, .iadd, 1), (679, .iaload, 1), (680, .invokevirtual 96, 3), (683, .if_icmp .eq 90, 3), (686, .iconst 0, 1), (687, .ireturn, 1), (688, .aload_n 1, 1), (689, .invokevirtual 97, 3), (692, .aload_n 2, 1), (693, .invokevirtual 100, 3), (696, .if_icmp .eq 77, 3), (699, .iconst 0, 1), (700, .ireturn, 1), (701, .aload_n 1, 1), (702, .aload_n 0, 1), (703, .iload_n 3, 1), (704, .iconst 1, 1), (705, .iadd, 1), (706, .iaload, 1), (707, .invokevirtual 101, 3), (710, .aload_n 2, 1), (711, .aload_n 0, 1), (712, .iload_n 3, 1), (713, .iconst 1, 1), (714, .iadd, 1), (715, .iaload, 1), (716, .invokevirtual 104, 3), (719, .if_icmp .eq 54, 3), (722, .iconst 0, 1), (723, .ireturn, 1), (724, .aload_n 1, 1), (725, .invokevirtual 105, 3), (728, .aload_n 2, 1), (729, .invokevirtual 108, 3), (732, .if_icmp .eq 41, 3), (735, .iconst 0, 1), (736, .ireturn, 1), (737, .aload_n 1, 1), (738, .invokevirtual 109, 3), (741, .aload_n 2, 1), (742, .invokevirtual 112, 3), (745, .if_icmp .eq 28, 3), (748, .iconst 0, 1), (749, .ireturn, 1), (750, .aload_n 1, 1), (751, .aload_n 0, 1), (752, .iload_n 3, 1), (753, .iconst 1, 1), (754, .iadd, 1), (755, .iaload, 1), (756, .invokevirtual 113, 3), (759, .aload_n 2, 1), (760, .aload_n 0, 1), (761, .iload_n 3, 1), (762, .iconst 1, 1), (763, .iadd, 1), (764, .iaload, 1), (765, .invokevirtual 116, 3), (768, .if_icmp .eq 5, 3), (771, .iconst 0, 1), (772, .ireturn, 1), (773, .iinc 3 4, 3), (776, .goto (-758), 3), (779, .iconst 1, 1), (780, .ireturn, 1)]
theorem tL_law_ok : ztok cL_law tL_law = true := by decide +kernel
end
section
theorem zAOA_moved {ty : FieldType} {u U : State} (hvm : u.vm.Alike U.vm) (h : va_AOA ty u) : va_AOA ty U := by
  show (Cond.arrayOver (.array ty)).before #[] (u.setVm U.vm) = true
  rw [Cond.arrayOver_setVmC hvm]
  exact h
/-! A layer of mine over the kit's W: ids for cells, Ints for ints, one fixed layout of the world; a rule an instruction. -/
-- a value: an int, a long, a reference (an id of the layout, or null)
abbrev zV : Type := Int ⊕ (Int ⊕ Option Nat)
abbrev zI (x : Int) : zV := .inl x
abbrev zJ (x : Int) : zV := .inr (.inl x)
abbrev zR (r : Nat) : zV := .inr (.inr (some r))
abbrev zN : zV := .inr (.inr none)
def zc (B : Nat) : zV → Value
  | .inl x => .int (Int32.ofInt x)
  | .inr (.inl x) => .long (Int64.ofInt x)
  | .inr (.inr none) => .null
  | .inr (.inr (some r)) => .ref (B + r)
def zin (x : Int) : Prop := -2147483648 ≤ x ∧ x < 2147483648
def zinL (x : Int) : Prop := -9223372036854775808 ≤ x ∧ x < 9223372036854775808
abbrev zMem : Type := Nat → Int → Int
abbrev zRef : Type := Nat → Int → Option Nat
/-- one place of the memory changed -/
def zu (I : zMem) (a : Nat) (i v : Int) : zMem := fun b j => if b = a ∧ j = i then v else I b j
def zur (R : zRef) (a : Nat) (i : Int) (v : Option Nat) : zRef := fun b j => if b = a ∧ j = i then v else R b j
-- the layout: of each id its kind (a class of vwCl; 20 an int array, 21 an array of int arrays) and, of an array, its length
def zlayL : List (Nat × Nat) := [(9, 0), (8, 0), (20, 200), (4, 0), (2, 0), (20, 6), (20, 6), (20, 6), (20, 6), (21, 6), (20, 6), (20, 6), (20, 6), (20, 6), (20, 6), (20, 6), (20, 8), (20, 8), (21, 6), (20, 9), (20, 9), (20, 9), (20, 9), (20, 9), (20, 9), (21, 6), (20, 54), (20, 54), (20, 54), (20, 54), (20, 54), (20, 54), (20, 8), (20, 6), (2, 0), (20, 6), (20, 6), (20, 6), (20, 6), (21, 6), (20, 6), (20, 6), (20, 6), (20, 6), (20, 6), (20, 6), (20, 8), (20, 8), (21, 6), (20, 9), (20, 9), (20, 9), (20, 9), (20, 9), (20, 9), (21, 6), (20, 54), (20, 54), (20, 54), (20, 54), (20, 54), (20, 54), (20, 8), (20, 6), (3, 0), (20, 6), (20, 6), (20, 6), (20, 6), (20, 6), (0, 0), (20, 6), (5, 0), (20, 6), (21, 9), (20, 6), (20, 6), (20, 6), (20, 6), (20, 6), (20, 6), (20, 6), (20, 6), (20, 6), (20, 9), (20, 9), (3, 0), (20, 6), (20, 6), (20, 6), (20, 6), (20, 6), (0, 0), (20, 6), (20, 24), (6, 0), (21, 8), (20, 24), (20, 24), (20, 24), (20, 24), (20, 24), (20, 24), (20, 24), (20, 24), (6, 0), (21, 2), (20, 24), (20, 24), (1, 0), (20, 4), (7, 0), (20, 6), (20, 6), (20, 6), (10, 0), (20, 6), (20, 6), (20, 6), (20, 36), (20, 8), (20, 8), (20, 18), (20, 144), (20, 18), (20, 36), (20, 4), (20, 200), (20, 6), (20, 6), (20, 6), (20, 6), (20, 36), (20, 8), (20, 8), (20, 8), (20, 6), (20, 54), (20, 18), (20, 18), (20, 6), (20, 6), (20, 6)]
def zlay (k : Nat) : Nat × Nat := zlayL.getD k (99, 0)
-- which fields are references
def zfrL : List (List Nat) := [[0, 1], [0], [4, 5, 6, 7, 8, 9, 10, 11, 12, 13, 14], [0, 1, 2, 3, 4, 5], [0], [0, 1, 2, 3, 4, 5, 6], [0], [0, 1, 2, 3], [0], [0, 1, 2, 3, 4, 5, 6, 7, 8, 9, 10, 11], [4, 5, 6, 7, 8, 9, 10, 11, 13, 15, 17, 19, 27, 28, 29, 30, 31, 32, 33, 34, 35, 36, 39, 40, 41, 42, 43]]
def zfr (c j : Nat) : Bool := (zfrL.getD c []).contains j
def zfn (c : Nat) : Nat := (vwCl.getD c ("", TX0, 0)).2.2
def zcell (B cI cJ : Nat) (g : Nat × Nat) (f : Int → Int) (r : Int → Option Nat) : va_E :=
  if g.1 = 20 then .inl (cI, g.2, .inl (fun j => Int32.ofInt (f j)))
  else if g.1 = 21 then .inl (cJ, g.2, .inr (.inr (.inr (.inr (fun j => (r j).map (B + ·))))))
  else .inr (g.1, (List.range (zfn g.1)).map (fun j => if zfr g.1 j then va_rf ((r j).map (B + ·)) else .int (Int32.ofInt (f j))))
def zW (B cI cJ n : Nat) (I : zMem) (R : zRef) : va_W := (List.range n).map (fun k => (B + k, zcell B cI cJ (zlay k) (I k) (R k)))
theorem zW_get {B cI cJ n : Nat} {I : zMem} {R : zRef} {o : Nat} (h : o < n) : (zW B cI cJ n I R)[o]? = some (B + o, zcell B cI cJ (zlay o) (I o) (R o)) := by
  unfold zW
  rw [List.getElem?_map, List.getElem?_range h]
  rfl
theorem zW_set {B cI cJ n : Nat} {I I' : zMem} {R R' : zRef} {o : Nat} {e : va_E} (h : o < n) (he : e = zcell B cI cJ (zlay o) (I' o) (R' o)) (hI : ∀ k, k ≠ o → I' k = I k) (hR : ∀ k, k ≠ o → R' k = R k) :
    (zW B cI cJ n I R).set o (B + o, e) = zW B cI cJ n I' R' := by
  apply List.ext_getElem?
  intro k
  rw [List.getElem?_set]
  by_cases hk : o = k
  · subst hk
    rw [if_pos rfl, zW_get h, he, if_pos (by unfold zW; simpa using h)]
  · rw [if_neg hk]
    by_cases hn : k < n
    · rw [zW_get hn, zW_get hn, hI k (fun q => hk q.symm), hR k (fun q => hk q.symm)]
    · rw [List.getElem?_eq_none (by unfold zW; simpa using hn), List.getElem?_eq_none (by unfold zW; simpa using hn)]
theorem zW_push {B cI cJ n : Nat} {I : zMem} {R : zRef} : zW B cI cJ (n + 1) I R = zW B cI cJ n I R ++ [(B + n, zcell B cI cJ (zlay n) (I n) (R n))] := by
  unfold zW
  rw [List.range_succ, List.map_append]
  rfl
theorem zW_D {B cI cJ n : Nat} {I : zMem} {R : zRef} : va_D (fun a => B ≤ a) (zW B cI cJ n I R) := by
  refine ⟨fun i j p q hi hj hpq => ?_, fun k q hk => ?_⟩
  · have h1 : i < n := by
      have := (List.getElem?_eq_some_iff.mp hi).1
      unfold zW at this
      simpa using this
    have h2 : j < n := by
      have := (List.getElem?_eq_some_iff.mp hj).1
      unfold zW at this
      simpa using this
    rw [zW_get h1] at hi
    rw [zW_get h2] at hj
    cases hi
    cases hj
    simpa using hpq
  · have h1 : k < n := by
      have := (List.getElem?_eq_some_iff.mp hk).1
      unfold zW at this
      simpa using this
    rw [zW_get h1] at hk
    cases hk
    exact Nat.le_add_right _ _
-- the fixed things: the launch, where the world begins, the classes' numbers, the classes of int[] and int[][]
abbrev zG : Type := Launch × Nat × va_G × ClassId × ClassId
-- a method: its name, bytes, locals, what it returns, its decoded rows
abbrev zM : Type := MethodName × ByteArray × Nat × Option FieldType × zT
def zrm (d mc ms : Nat) : Room := { frames := d, cells := mc, slots := ms, locals := 60 * d }
def zws (mi : zM) : List Cond := .code mi.1 mi.2.1 mi.2.2.1 mi.2.2.2.1 :: wsL_law
def zKn (G : zG) (s : State) : Prop := va_K G.2.2.1 vwCl [(G.2.2.2.1, .int), (G.2.2.2.2, .array .int)] s ∧ va_AOA .int s
def zFix (G : zG) (mi : zM) (p : Program) (s : State) (m : MethodId) (args : Array Value) (meth : Method) (c : Code) : Prop :=
  p.tables.exec = Jvm.exec ∧ c.code = mi.2.1 ∧ c.maxLocals = mi.2.2.1 ∧ s.vm.findClass mi.1.cls = some m.cls ∧ (∀ w ∈ wsL_law, w.before args s = true) ∧ meth.sig.returnType = mi.2.2.2.1 ∧ meth.locks = false ∧ meth.name = mi.1.name ∧ zKn G s ∧ ztok mi.2.1 mi.2.2.2.2 = true
def zSt (G : zG) (n : Nat) (I : zMem) (R : zRef) (H : Heap) : Prop := va_P G.2.2.1 vwCl (zW G.2.1 G.2.2.2.1 G.2.2.2.2 n I R) H ∧ ∀ a i, zin (I a i)
def zls (B : Nat) (ls : List (Option zV)) : List (Nat × Value) := (List.range ls.length).filterMap (fun i => (ls.getD i none).map (fun v => (i, zc B v)))
theorem zls_in {B : Nat} {ls : List (Option zV)} {q : Nat × Value} : q ∈ zls B ls ↔ ∃ v, ls[q.1]? = some (some v) ∧ q.2 = zc B v := by
  unfold zls
  rw [List.mem_filterMap]
  constructor
  · rintro ⟨i, hi, h⟩
    rw [List.mem_range] at hi
    rw [List.getD_eq_getElem?_getD, List.getElem?_eq_getElem hi] at h
    cases hv : ls[i] with
    | none => rw [hv] at h; cases h
    | some v =>
      rw [hv] at h
      cases h
      exact ⟨v, by rw [List.getElem?_eq_getElem hi, hv], rfl⟩
  · rintro ⟨v, h, hq⟩
    refine ⟨q.1, List.mem_range.mpr (List.getElem?_eq_some_iff.mp h).1, ?_⟩
    rw [List.getD_eq_getElem?_getD, h]
    show some (q.1, zc B v) = some q
    rw [← hq]
def zLo (B nL : Nat) (ls : List (Option zV)) (lsA : Array Slot) : Prop := lv_has lsA nL (zls B ls)
theorem zLo.at {B nL : Nat} {ls : List (Option zV)} {lsA : Array Slot} (h : zLo B nL ls lsA) {i : Nat} {v : zV} (hi : ls[i]? = some (some v)) : lsA[i]? = some (.val (zc B v)) :=
  h.2.2 (i, zc B v) (zls_in.mpr ⟨v, hi, rfl⟩)
abbrev zPo : Type := Option Int → zMem → zRef → Prop
def zQ (G : zG) (N : Nat) (Q : zPo) : Array Value → State → Outcome → State → Prop := fun _ st o t =>
  (∃ (r : Option Int) (I : zMem) (R : zRef), o = .returned (r.map (fun x => .int (Int32.ofInt x))) ∧ zSt G N I R t.heap ∧ zKn G t ∧ Q r I R) ∧ va_F (fun a => G.2.1 ≤ a) st t
/-- from this place on the method comes to its end with Q: pc, locals, operand stack, cells, ints, references; k cells and q slots are made already (of mc, ms) -/
def WP (G : zG) (mi : zM) (d mc ms k q pc : Nat) (ls : List (Option zV)) (st : List zV) (n : Nat) (I : zMem) (R : zRef) (Q : zPo) : Prop :=
  ∀ (p : Program) (e : Env) (s : State) (m : MethodId) (args : Array Value) (below : List Frame) (meth : Method) (c : Code) (H : Heap) (locs : List Loc) (lsA : Array Slot),
    zFix G mi p s m args meth c → (s.heap.size + k = G.2.1 + n ∧ k ≤ n) → zSt G n I R H → va_S (fun a => G.2.1 ≤ a) s.heap H locs → zLo G.2.1 mi.2.2.1 ls lsA →
    W p G.1 e (zrm d mc ms) s m args below meth c H locs k q (MQ below (zQ G (n + (mc - k)) Q) args s mc ms (fun a => G.2.1 ≤ a)) (F0 m pc lsA (st.map (zc G.2.1)))
/-- a method's contract: with these arguments, in this memory, it returns with Q; it makes mc cells of ms slots -/
def MT (G : zG) (mi : zM) (d mc ms : Nat) (av : List zV) (n : Nat) (I : zMem) (R : zRef) (Q : zPo) : Prop :=
  Met G.1 mi.1 (zws mi) (zrm d mc ms) (va_Pc (av.map (zc G.2.1)) (fun U => U.heap.size = G.2.1 + n ∧ zSt G n I R U.heap ∧ zKn G U)) (zQ G (n + mc) Q) mc ms (fun a => G.2.1 ≤ a)
-- the locals at the entry
def zent : List zV → List (Option zV)
  | [] => []
  | .inl x :: r => some (.inl x) :: zent r
  | .inr (.inl x) :: r => some (.inr (.inl x)) :: none :: zent r
  | .inr (.inr x) :: r => some (.inr (.inr x)) :: zent r
theorem zc_cat1 {B : Nat} {x : Int} : (zc B (.inl x)).category = 1 := rfl
theorem zc_cat2 {B : Nat} {x : Int} : (zc B (.inr (.inl x))).category = 2 := rfl
theorem zc_cat3 {B : Nat} {x : Option Nat} : (zc B (.inr (.inr x))).category = 1 := by cases x <;> rfl
theorem zent_args (B : Nat) : ∀ (av : List zV) (i : Nat) (k : Nat) (v : zV), (zent av)[k]? = some (some v) → (i + k, zc B v) ∈ lv_args i (av.map (zc B)) := by
  intro av
  induction av with
  | nil => intro i k v h; cases h
  | cons a r ih =>
    intro i k v h
    rcases a with x | x | x
    · cases k with
      | zero =>
        cases h
        exact List.mem_cons_self
      | succ k =>
        have := ih (i + 1) k v h
        rw [show i + (k + 1) = i + 1 + k by omega]
        exact List.mem_cons_of_mem _ this
    · cases k with
      | zero =>
        cases h
        exact List.mem_cons_self
      | succ k =>
        cases k with
        | zero => cases h
        | succ k =>
          have := ih (i + 2) k v h
          rw [show i + (k + 1 + 1) = i + 2 + k by omega]
          exact List.mem_cons_of_mem _ this
    · have hc : (zc B (.inr (.inr x))).category = 1 := zc_cat3
      cases k with
      | zero =>
        cases h
        exact List.mem_cons_self
      | succ k =>
        have := ih (i + 1) k v h
        rw [show i + (k + 1) = i + 1 + k by omega]
        refine List.mem_cons_of_mem _ ?_
        show _ ∈ lv_args (if (zc B (.inr (.inr x))).category = 2 then i + 2 else i + 1) _
        rw [hc]
        exact this
theorem zent_len (B : Nat) : ∀ av : List zV, (lg_sl (av.map (zc B))).length = (zent av).length := by
  intro av
  induction av with
  | nil => rfl
  | cons a r ih =>
    have e : ∀ v : Value, ∀ vs : List Value, (lg_sl (v :: vs)).length = (if v.category = 2 then 2 else 1) + (lg_sl vs).length := by
      intro v vs
      unfold lg_sl
      rw [List.flatMap_cons, List.length_append]
      by_cases h : v.category = 2
      · simp [h]
      · simp [h]
    rw [List.map_cons, e, ih]
    rcases a with x | x | x
    · rw [zc_cat1]
      show 1 + _ = (zent r).length + 1
      omega
    · rw [zc_cat2]
      show 2 + _ = (zent r).length + 1 + 1
      omega
    · rw [zc_cat3]
      show 1 + _ = (zent r).length + 1
      omega
theorem MT.of {G : zG} {mi : zM} {d mc ms : Nat} {av : List zV} {n : Nat} {I : zMem} {R : zRef} {Q : zPo} (hy : plainName mi.1.cls = true) (hok : ztok mi.2.1 mi.2.2.2.2 = true) (hn : (zent av).length ≤ mi.2.2.1)
    (h : (∀ a i, zin (I a i)) → WP G mi d mc ms 0 0 0 (zent av ++ List.replicate (mi.2.2.1 - (zent av).length) none) [] n I R Q) : MT G mi d mc ms av n I R Q := by
  refine Met.ofW (cc := mi.2.1) (maxL := mi.2.2.1) (ret := mi.2.2.2.1) hy rfl ?_
  intro p e s m args below meth c s₁ B hml hv
  obtain ⟨rfl, hsz, hst, hK⟩ := hv
  have hx := B.exec
  have hb := B.bytes
  have hr := B.returns
  have hts := atoms_spec (ws := zws mi) B.pre
  have hown : s.vm.findClass mi.1.cls = some m.cls := findClass_of_methodNamed B.named
  have hlocks := B.notSynchronized
  have hnm : meth.name = mi.1.name := (name_of_methodNamed B.named B.method).1
  have hle : (lg_sl (av.map (zc G.2.1))).length ≤ mi.2.2.1 := by rw [zent_len]; exact hn
  have hl := lv_entry (av.map (zc G.2.1)) (n := mi.2.2.1) hle
  rw [lg_entry_eq]
  refine h hst.2 p e s m _ below meth c s.heap [] _ ⟨hx, hb, hml, hown, fun w hw => hts w (List.mem_cons_of_mem _ hw), hr, hlocks, hnm, hK, hok⟩ ⟨hsz, Nat.zero_le _⟩ hst va_S.rf ?_
  refine ⟨hl.1, hl.2.1, fun w hw => ?_⟩
  obtain ⟨v, hv, he⟩ := zls_in.mp hw
  have hz : (zent av)[w.1]? = some (some v) := by
    by_cases hk : w.1 < (zent av).length
    · rwa [List.getElem?_append_left hk] at hv
    · rw [List.getElem?_append_right (by omega)] at hv
      rw [List.getElem?_replicate] at hv
      split at hv <;> cases hv
  have := zent_args G.2.1 av 0 w.1 v hz
  rw [Nat.zero_add, ← he] at this
  exact hl.2.2 w this
theorem MT.mono {G : zG} {mi : zM} {d mc ms : Nat} {av : List zV} {n : Nat} {I : zMem} {R : zRef} {Q Q' : zPo} (h : MT G mi d mc ms av n I R Q) (hq : ∀ r I R, Q r I R → Q' r I R) : MT G mi d mc ms av n I R Q' := by
  unfold MT Met at h ⊢
  refine MetFree.mono h (fun _ _ h => h) (fun _ _ _ _ _ h => h) ?_
  rintro a s o t - ⟨⟨⟨r, I', R', h1, h2, h3, h4⟩, h5⟩, h6⟩
  exact ⟨⟨⟨r, I', R', h1, h2, h3, hq _ _ _ h4⟩, h5⟩, h6⟩
theorem zKn.moved {G : zG} {u U : State} (h : zKn G u) (hvm : u.vm.Alike U.vm) : zKn G U := ⟨va_K.moved hvm h.1, zAOA_moved hvm h.2⟩
-- Int32 and Int
theorem z32 {x : Int} (h : zin x) : (Int32.ofInt x).toInt = x := Int32.toInt_ofInt_of_le (by unfold zin at h; omega) (by unfold zin at h; omega)
theorem z64 {x : Int} (h : zinL x) : (Int64.ofInt x).toInt = x := Int64.toInt_ofInt_of_le (by unfold zinL at h; omega) (by unfold zinL at h; omega)
theorem zin_of (x : Int32) : zin x.toInt := ⟨by have := Int32.le_toInt x; omega, by have := Int32.toInt_lt x; omega⟩
theorem zin0 : zin 0 := by unfold zin; omega
theorem z32_eq {x y : Int} (hx : zin x) (hy : zin y) : Int32.ofInt x = Int32.ofInt y ↔ x = y := by rw [← Int32.toInt_inj, z32 hx, z32 hy]
theorem z32_lt {x y : Int} (hx : zin x) (hy : zin y) : Int32.ofInt x < Int32.ofInt y ↔ x < y := by rw [Int32.lt_iff_toInt_lt, z32 hx, z32 hy]
theorem z32_le {x y : Int} (hx : zin x) (hy : zin y) : Int32.ofInt x ≤ Int32.ofInt y ↔ x ≤ y := by rw [Int32.le_iff_toInt_le, z32 hx, z32 hy]
theorem z32_eq0 {x : Int} (hx : zin x) : Int32.ofInt x = 0 ↔ x = 0 := z32_eq hx zin0
theorem z32_lt0 {x : Int} (hx : zin x) : Int32.ofInt x < 0 ↔ x < 0 := z32_lt hx zin0
theorem z32_ge0 {x : Int} (hx : zin x) : 0 ≤ Int32.ofInt x ↔ 0 ≤ x := z32_le zin0 hx
theorem z32_gt0 {x : Int} (hx : zin x) : 0 < Int32.ofInt x ↔ 0 < x := z32_lt zin0 hx
theorem z32_le0 {x : Int} (hx : zin x) : Int32.ofInt x ≤ 0 ↔ x ≤ 0 := z32_le hx zin0
theorem z64_of32 {x : Int} (h : zin x) : (Int32.ofInt x).toInt64 = Int64.ofInt x := by
  apply Int64.toInt_inj.mp
  rw [Int32.toInt_toInt64, z32 h, z64 (by unfold zin at h; unfold zinL; omega)]
theorem z64_eq0 {x : Int} (hx : zinL x) : Int64.ofInt x = 0 ↔ x = 0 := by
  rw [← Int64.toInt_inj, z64 hx]
  exact Iff.rfl
theorem ztdiv_le {x y : Int} (hy : 0 < y) : (x.tdiv y).natAbs ≤ x.natAbs := by
  rw [Int.natAbs_tdiv]
  exact Nat.div_le_self _ _
theorem z32_div {x y : Int} (hx : zin x) (hy : zin y) (h0 : 0 < y) : Int32.ofInt x / Int32.ofInt y = Int32.ofInt (x.tdiv y) := by
  apply Int32.toInt_inj.mp
  rw [Int32.toInt_div_of_ne_right _ _ (fun h => by
    have := congrArg Int32.toInt h
    rw [z32 hy] at this
    have e : (-1 : Int32).toInt = -1 := by decide
    omega), z32 hx, z32 hy, z32]
  have h1 := ztdiv_le (x := x) h0
  unfold zin at *
  by_cases hn : 0 ≤ x
  · have := Int.tdiv_nonneg hn (Int.le_of_lt h0)
    omega
  · have h2 : x.tdiv y ≤ 0 := by
      have := Int.tdiv_nonneg (a := -x) (b := y) (by omega) (Int.le_of_lt h0)
      rw [Int.neg_tdiv] at this
      omega
    omega
theorem z64_div {x y : Int} (hx : zinL x) (hy : zinL y) (h0 : 0 < y) : Int64.ofInt x / Int64.ofInt y = Int64.ofInt (x.tdiv y) := by
  apply Int64.toInt_inj.mp
  rw [Int64.toInt_div_of_ne_right _ _ (fun h => by
    have := congrArg Int64.toInt h
    rw [z64 hy] at this
    have e : (-1 : Int64).toInt = -1 := by decide
    omega), z64 hx, z64 hy, z64]
  have h1 := ztdiv_le (x := x) h0
  unfold zinL at *
  by_cases hn : 0 ≤ x
  · have := Int.tdiv_nonneg hn (Int.le_of_lt h0)
    omega
  · have h2 : x.tdiv y ≤ 0 := by
      have := Int.tdiv_nonneg (a := -x) (b := y) (by omega) (Int.le_of_lt h0)
      rw [Int.neg_tdiv] at this
      omega
    omega
theorem z32_rem {x y : Int} (hx : zin x) (hy : zin y) : Int32.ofInt x - Int32.ofInt x / Int32.ofInt y * Int32.ofInt y = Int32.ofInt (x.tmod y) := by
  rw [irem_eq_mod]
  apply Int32.toInt_inj.mp
  rw [Int32.toInt_mod, z32 hx, z32 hy, z32]
  have h1 : (x.tmod y).natAbs ≤ x.natAbs := by rw [Int.natAbs_tmod]; exact Nat.mod_le _ _
  unfold zin at *
  by_cases hn : 0 ≤ x
  · have := Int.tmod_nonneg y hn
    omega
  · have h2 : x.tmod y ≤ 0 := by
      have := Int.tmod_nonneg (a := -x) y (by omega)
      rw [Int.neg_tmod] at this
      omega
    omega
theorem z64_rem {x y : Int} (hx : zinL x) (hy : zinL y) (h0 : 0 < y) : Int64.ofInt x - Int64.ofInt x / Int64.ofInt y * Int64.ofInt y = Int64.ofInt (x.tmod y) := by
  rw [z64_div hx hy h0, ← Int64.ofInt_mul, ← Int64.ofInt_sub, Int.tmod_def, Int.mul_comm]
theorem z64_cmp {x y : Int} (hx : zinL x) (hy : zinL y) : lg_cmp (Int64.ofInt x) (Int64.ofInt y) = Int32.ofInt (if x < y then -1 else if x = y then 0 else 1) := by
  have h1 : Int64.ofInt x > Int64.ofInt y ↔ y < x := by rw [GT.gt, Int64.lt_iff_toInt_lt, z64 hx, z64 hy]
  have h2 : Int64.ofInt x = Int64.ofInt y ↔ x = y := by rw [← Int64.toInt_inj, z64 hx, z64 hy]
  unfold lg_cmp
  by_cases a : y < x
  · rw [if_pos (h1.mpr a), if_neg (by omega), if_neg (by omega)]
    decide
  · rw [if_neg (fun h => a (h1.mp h))]
    by_cases b : x = y
    · rw [if_pos (h2.mpr b), if_neg (by omega), if_pos b]
      decide
    · rw [if_neg (fun h => b (h2.mp h)), if_pos (by omega)]
      decide
def zone : zV → Bool
  | .inr (.inl _) => false
  | _ => true
theorem zone_cat {B : Nat} {v : zV} (h : zone v = true) : (zc B v).category = 1 := by
  rcases v with x | x | x
  · rfl
  · cases h
  · exact zc_cat3
/-- a store at i touches no long that lies at i - 1 -/
def zok : List (Option zV) → Nat → Bool
  | _, 0 => true
  | ls, i + 1 => match ls[i]? with
    | some (some (.inr (.inl _))) => false
    | _ => true
theorem zok_spec {ls : List (Option zV)} {i j : Nat} {B : Nat} {v : zV} (h : zok ls i = true) (hj : j + 1 = i) (hv : ls[j]? = some (some v)) : (zc B v).category = 1 := by
  subst hj
  have h : (match ls[j]? with
    | some (some (.inr (.inl _))) => false
    | _ => true) = true := h
  rw [hv] at h
  rcases v with x | x | x
  · rfl
  · cases h
  · exact zc_cat3
theorem zLo_set1 {B nL i : Nat} {ls : List (Option zV)} {v : zV} {lsA : Array Slot} (h : lv_has lsA nL ((i, zc B v) :: (zls B ls).filter (fun q => !(q.1 == i) && !(q.1 + 1 == i && q.2.category == 2)))) (hz : zok ls i = true) : zLo B nL (ls.set i (some v)) lsA := by
  refine ⟨h.1, h.2.1, fun w hw => ?_⟩
  obtain ⟨u, hu, he⟩ := zls_in.mp hw
  rw [List.getElem?_set] at hu
  refine h.2.2 w ?_
  by_cases hi : i = w.1
  · rw [if_pos hi] at hu
    split at hu
    · cases hu
      exact List.mem_cons.mpr (Or.inl (by rw [← Prod.eta w, he, hi]))
    · cases hu
  · rw [if_neg hi] at hu
    refine List.mem_cons_of_mem _ (List.mem_filter.mpr ⟨zls_in.mpr ⟨u, hu, he⟩, ?_⟩)
    have h1 : (w.1 == i) = false := by simpa using fun q => hi (q.symm)
    rw [h1]
    by_cases h2 : w.1 + 1 = i
    · have := zok_spec (B := B) hz h2 hu
      rw [he, this]
      simp
    · have : (w.1 + 1 == i) = false := by simpa using h2
      rw [this]
      rfl
theorem zLo_set2 {B nL i : Nat} {ls : List (Option zV)} {v : zV} {lsA : Array Slot} (h : lv_has lsA nL ((i, zc B v) :: (zls B ls).filter (fun q => !(q.1 == i) && (!(q.1 == i + 1) && !(q.1 + 1 == i && q.2.category == 2))))) (hz : zok ls i = true) : zLo B nL ((ls.set i (some v)).set (i + 1) none) lsA := by
  refine ⟨h.1, h.2.1, fun w hw => ?_⟩
  obtain ⟨u, hu, he⟩ := zls_in.mp hw
  rw [List.getElem?_set, List.getElem?_set] at hu
  refine h.2.2 w ?_
  by_cases h0 : i + 1 = w.1
  · rw [if_pos h0] at hu
    split at hu <;> cases hu
  rw [if_neg h0] at hu
  by_cases hi : i = w.1
  · rw [if_pos hi] at hu
    split at hu
    · cases hu
      exact List.mem_cons.mpr (Or.inl (by rw [← Prod.eta w, he, hi]))
    · cases hu
  · rw [if_neg hi] at hu
    refine List.mem_cons_of_mem _ (List.mem_filter.mpr ⟨zls_in.mpr ⟨u, hu, he⟩, ?_⟩)
    have h1 : (w.1 == i) = false := by simpa using fun q => hi (q.symm)
    have h3 : (w.1 == i + 1) = false := by simpa using fun q => h0 (q.symm)
    rw [h1, h3]
    by_cases h2 : w.1 + 1 = i
    · have := zok_spec (B := B) hz h2 hu
      rw [he, this]
      simp
    · have : (w.1 + 1 == i) = false := by simpa using h2
      rw [this]
      rfl
section ZR
variable {G : zG} {mi : zM} {d mc ms k q pc t : Nat} {ls : List (Option zV)} {st : List zV} {n : Nat} {I : zMem} {R : zRef} {Q : zPo}

theorem wp_iconst {v : Int} (hd : mi.2.2.2.2[t]? = some (pc, .iconst v, 1))  (kk : WP G mi d mc ms k q (pc + 1) ls (.inl v :: st) n I R Q) : WP G mi d mc ms k q pc ls st n I R Q := by
  intro p e s m args below meth c H locs lsA F hZ hS hV hL
  obtain ⟨hx, hb, hml, hown, hts, hr, hlk, hnm, hK, hok⟩ := id F
  exact lv_iconst hx hb (ztok_at hok hd) rfl (kk p e s m args below meth c H locs lsA F hZ hS hV hL)

theorem wp_bipush {v : Int} (hd : mi.2.2.2.2[t]? = some (pc, .bipush v, 2)) (hv : (Int8.ofInt v).toInt32 = Int32.ofInt v) (kk : WP G mi d mc ms k q (pc + 2) ls (.inl v :: st) n I R Q) : WP G mi d mc ms k q pc ls st n I R Q := by
  intro p e s m args below meth c H locs lsA F hZ hS hV hL
  obtain ⟨hx, hb, hml, hown, hts, hr, hlk, hnm, hK, hok⟩ := id F
  exact lv_bipush hx hb (ztok_at hok hd) hv (kk p e s m args below meth c H locs lsA F hZ hS hV hL)

theorem wp_sipush {v : Int} (hd : mi.2.2.2.2[t]? = some (pc, .sipush v, 3)) (hv : (Int16.ofInt v).toInt32 = Int32.ofInt v) (kk : WP G mi d mc ms k q (pc + 3) ls (.inl v :: st) n I R Q) : WP G mi d mc ms k q pc ls st n I R Q := by
  intro p e s m args below meth c H locs lsA F hZ hS hV hL
  obtain ⟨hx, hb, hml, hown, hts, hr, hlk, hnm, hK, hok⟩ := id F
  exact lv_sipush hx hb (ztok_at hok hd) hv (kk p e s m args below meth c H locs lsA F hZ hS hV hL)

theorem wp_ldc {x : Nat} (v : Int) {w : Int32} (hd : mi.2.2.2.2[t]? = some (pc, .ldc x, 2)) (hw : Cond.constant mi.1.cls x w ∈ wsL_law) (hv : w = Int32.ofInt v) (kk : WP G mi d mc ms k q (pc + 2) ls (.inl v :: st) n I R Q) : WP G mi d mc ms k q pc ls st n I R Q := by
  intro p e s m args below meth c H locs lsA F hZ hS hV hL
  obtain ⟨hx, hb, hml, hown, hts, hr, hlk, hnm, hK, hok⟩ := id F
  subst hv
  exact lv_ldc hx hb hown (hts _ hw) (ztok_at hok hd) (kk p e s m args below meth c H locs lsA F hZ hS hV hL)

theorem wp_ldcw {x : Nat} (v : Int) {w : Int32} (hd : mi.2.2.2.2[t]? = some (pc, .ldc_w x, 3)) (hw : Cond.constant mi.1.cls x w ∈ wsL_law) (hv : w = Int32.ofInt v) (kk : WP G mi d mc ms k q (pc + 3) ls (.inl v :: st) n I R Q) : WP G mi d mc ms k q pc ls st n I R Q := by
  intro p e s m args below meth c H locs lsA F hZ hS hV hL
  obtain ⟨hx, hb, hml, hown, hts, hr, hlk, hnm, hK, hok⟩ := id F
  subst hv
  exact lv_ldcw hx hb hown (hts _ hw) (ztok_at hok hd) (kk p e s m args below meth c H locs lsA F hZ hS hV hL)

theorem wp_ldc2 {x : Nat} (v : Int) {w : Int64} (hd : mi.2.2.2.2[t]? = some (pc, .ldc2_w x, 3)) (hw : Cond.constantLong mi.1.cls x w ∈ wsL_law) (hv : w = Int64.ofInt v) (kk : WP G mi d mc ms k q (pc + 3) ls (.inr (.inl v) :: st) n I R Q) : WP G mi d mc ms k q pc ls st n I R Q := by
  intro p e s m args below meth c H locs lsA F hZ hS hV hL
  obtain ⟨hx, hb, hml, hown, hts, hr, hlk, hnm, hK, hok⟩ := id F
  subst hv
  exact lv_ldc2 hx hb hown (hts _ hw) (ztok_at hok hd) (kk p e s m args below meth c H locs lsA F hZ hS hV hL)

theorem wp_lconst {x : Fin 2} (v : Int) (hd : mi.2.2.2.2[t]? = some (pc, .lconst x, 1)) (hv : Int64.ofNat (x : Nat) = Int64.ofInt v) (kk : WP G mi d mc ms k q (pc + 1) ls (.inr (.inl v) :: st) n I R Q) : WP G mi d mc ms k q pc ls st n I R Q := by
  intro p e s m args below meth c H locs lsA F hZ hS hV hL
  obtain ⟨hx, hb, hml, hown, hts, hr, hlk, hnm, hK, hok⟩ := id F
  exact lv_lconst hx hb (ztok_at hok hd) hv (kk p e s m args below meth c H locs lsA F hZ hS hV hL)

theorem wp_iload_n {i : Fin 4} {x : Int} (hd : mi.2.2.2.2[t]? = some (pc, .iload_n i, 1)) (hl : ls[(i : Nat)]? = some (some (.inl x))) (kk : WP G mi d mc ms k q (pc + 1) ls (.inl x :: st) n I R Q) : WP G mi d mc ms k q pc ls st n I R Q := by
  intro p e s m args below meth c H locs lsA F hZ hS hV hL
  obtain ⟨hx, hb, hml, hown, hts, hr, hlk, hnm, hK, hok⟩ := id F
  exact lv_iload_n hx hb (ztok_at hok hd) rfl (hL.at hl) (kk p e s m args below meth c H locs lsA F hZ hS hV hL)

theorem wp_iload {i : Nat} {x : Int} (hd : mi.2.2.2.2[t]? = some (pc, .iload i, 2)) (hl : ls[i]? = some (some (.inl x))) (kk : WP G mi d mc ms k q (pc + 2) ls (.inl x :: st) n I R Q) : WP G mi d mc ms k q pc ls st n I R Q := by
  intro p e s m args below meth c H locs lsA F hZ hS hV hL
  obtain ⟨hx, hb, hml, hown, hts, hr, hlk, hnm, hK, hok⟩ := id F
  exact lv_iload hx hb (ztok_at hok hd) (hL.at hl) (kk p e s m args below meth c H locs lsA F hZ hS hV hL)

theorem wp_lload_n {i : Fin 4} {x : Int} (hd : mi.2.2.2.2[t]? = some (pc, .lload_n i, 1)) (hl : ls[(i : Nat)]? = some (some (.inr (.inl x)))) (kk : WP G mi d mc ms k q (pc + 1) ls (.inr (.inl x) :: st) n I R Q) : WP G mi d mc ms k q pc ls st n I R Q := by
  intro p e s m args below meth c H locs lsA F hZ hS hV hL
  obtain ⟨hx, hb, hml, hown, hts, hr, hlk, hnm, hK, hok⟩ := id F
  exact lv_lload_n hx hb (ztok_at hok hd) rfl (hL.at hl) (kk p e s m args below meth c H locs lsA F hZ hS hV hL)

theorem wp_lload {i : Nat} {x : Int} (hd : mi.2.2.2.2[t]? = some (pc, .lload i, 2)) (hl : ls[i]? = some (some (.inr (.inl x)))) (kk : WP G mi d mc ms k q (pc + 2) ls (.inr (.inl x) :: st) n I R Q) : WP G mi d mc ms k q pc ls st n I R Q := by
  intro p e s m args below meth c H locs lsA F hZ hS hV hL
  obtain ⟨hx, hb, hml, hown, hts, hr, hlk, hnm, hK, hok⟩ := id F
  exact lv_lload hx hb (ztok_at hok hd) (hL.at hl) (kk p e s m args below meth c H locs lsA F hZ hS hV hL)

theorem wp_aload_n {i : Fin 4} {x : Nat} (hd : mi.2.2.2.2[t]? = some (pc, .aload_n i, 1)) (hl : ls[(i : Nat)]? = some (some (zR x))) (kk : WP G mi d mc ms k q (pc + 1) ls (zR x :: st) n I R Q) : WP G mi d mc ms k q pc ls st n I R Q := by
  intro p e s m args below meth c H locs lsA F hZ hS hV hL
  obtain ⟨hx, hb, hml, hown, hts, hr, hlk, hnm, hK, hok⟩ := id F
  exact lv_aload_n hx hb (ztok_at hok hd) rfl (hL.at hl) (kk p e s m args below meth c H locs lsA F hZ hS hV hL)

theorem wp_aload {i : Nat} {x : Nat} (hd : mi.2.2.2.2[t]? = some (pc, .aload i, 2)) (hl : ls[i]? = some (some (zR x))) (kk : WP G mi d mc ms k q (pc + 2) ls (zR x :: st) n I R Q) : WP G mi d mc ms k q pc ls st n I R Q := by
  intro p e s m args below meth c H locs lsA F hZ hS hV hL
  obtain ⟨hx, hb, hml, hown, hts, hr, hlk, hnm, hK, hok⟩ := id F
  exact lv_aload hx hb (ztok_at hok hd) (hL.at hl) (kk p e s m args below meth c H locs lsA F hZ hS hV hL)

theorem wp_istore_n {i : Fin 4} {x : Int} (hd : mi.2.2.2.2[t]? = some (pc, .istore_n i, 1)) (hi : (i : Nat) < mi.2.2.1) (hz : zok ls i = true) (kk : WP G mi d mc ms k q (pc + 1) (ls.set i (some (.inl x))) st n I R Q) : WP G mi d mc ms k q pc ls (.inl x :: st) n I R Q := by
  intro p e s m args below meth c H locs lsA F hZ hS hV hL
  obtain ⟨hx, hb, hml, hown, hts, hr, hlk, hnm, hK, hok⟩ := id F
  exact lv_istore_n hx hb (ztok_at hok hd) rfl hL hi rfl (fun ls2 hl2 => kk p e s m args below meth c H locs _ F hZ hS hV (zLo_set1 hl2 hz))

theorem wp_istore {i : Nat} {x : Int} (hd : mi.2.2.2.2[t]? = some (pc, .istore i, 2)) (hi : i < mi.2.2.1) (hz : zok ls i = true) (kk : WP G mi d mc ms k q (pc + 2) (ls.set i (some (.inl x))) st n I R Q) : WP G mi d mc ms k q pc ls (.inl x :: st) n I R Q := by
  intro p e s m args below meth c H locs lsA F hZ hS hV hL
  obtain ⟨hx, hb, hml, hown, hts, hr, hlk, hnm, hK, hok⟩ := id F
  exact lv_istore hx hb (ztok_at hok hd) hL hi rfl (fun ls2 hl2 => kk p e s m args below meth c H locs _ F hZ hS hV (zLo_set1 hl2 hz))

theorem wp_astore_n {i : Fin 4} {x : Nat} (hd : mi.2.2.2.2[t]? = some (pc, .astore_n i, 1)) (hi : (i : Nat) < mi.2.2.1) (hz : zok ls i = true) (kk : WP G mi d mc ms k q (pc + 1) (ls.set i (some (zR x))) st n I R Q) : WP G mi d mc ms k q pc ls (zR x :: st) n I R Q := by
  intro p e s m args below meth c H locs lsA F hZ hS hV hL
  obtain ⟨hx, hb, hml, hown, hts, hr, hlk, hnm, hK, hok⟩ := id F
  exact lv_astore_n hx hb (ztok_at hok hd) rfl hL hi rfl (fun ls2 hl2 => kk p e s m args below meth c H locs _ F hZ hS hV (zLo_set1 hl2 hz))

theorem wp_astore {i : Nat} {x : Nat} (hd : mi.2.2.2.2[t]? = some (pc, .astore i, 2)) (hi : i < mi.2.2.1) (hz : zok ls i = true) (kk : WP G mi d mc ms k q (pc + 2) (ls.set i (some (zR x))) st n I R Q) : WP G mi d mc ms k q pc ls (zR x :: st) n I R Q := by
  intro p e s m args below meth c H locs lsA F hZ hS hV hL
  obtain ⟨hx, hb, hml, hown, hts, hr, hlk, hnm, hK, hok⟩ := id F
  exact lv_astore hx hb (ztok_at hok hd) hL hi rfl (fun ls2 hl2 => kk p e s m args below meth c H locs _ F hZ hS hV (zLo_set1 hl2 hz))

theorem wp_lstore_n {i : Fin 4} {x : Int} (hd : mi.2.2.2.2[t]? = some (pc, .lstore_n i, 1)) (hi : (i : Nat) + 1 < mi.2.2.1) (hz : zok ls i = true) (kk : WP G mi d mc ms k q (pc + 1) ((ls.set i (some (.inr (.inl x)))).set (i + 1) none) st n I R Q) : WP G mi d mc ms k q pc ls (.inr (.inl x) :: st) n I R Q := by
  intro p e s m args below meth c H locs lsA F hZ hS hV hL
  obtain ⟨hx, hb, hml, hown, hts, hr, hlk, hnm, hK, hok⟩ := id F
  exact lv_lstore_n hx hb (ztok_at hok hd) rfl hL hi rfl (fun ls2 hl2 => kk p e s m args below meth c H locs _ F hZ hS hV (zLo_set2 hl2 hz))

theorem wp_lstore {i : Nat} {x : Int} (hd : mi.2.2.2.2[t]? = some (pc, .lstore i, 2)) (hi : i + 1 < mi.2.2.1) (hz : zok ls i = true) (kk : WP G mi d mc ms k q (pc + 2) ((ls.set i (some (.inr (.inl x)))).set (i + 1) none) st n I R Q) : WP G mi d mc ms k q pc ls (.inr (.inl x) :: st) n I R Q := by
  intro p e s m args below meth c H locs lsA F hZ hS hV hL
  obtain ⟨hx, hb, hml, hown, hts, hr, hlk, hnm, hK, hok⟩ := id F
  exact lv_lstore hx hb (ztok_at hok hd) hL hi rfl (fun ls2 hl2 => kk p e s m args below meth c H locs _ F hZ hS hV (zLo_set2 hl2 hz))

theorem wp_iinc {i : Nat} {v x : Int} (hd : mi.2.2.2.2[t]? = some (pc, .iinc i v, 3)) (hl : ls[i]? = some (some (.inl x))) (hi : i < mi.2.2.1) (hz : zok ls i = true) (kk : WP G mi d mc ms k q (pc + 3) (ls.set i (some (.inl (x + v)))) st n I R Q) : WP G mi d mc ms k q pc ls st n I R Q := by
  intro p e s m args below meth c H locs lsA F hZ hS hV hL
  obtain ⟨hx, hb, hml, hown, hts, hr, hlk, hnm, hK, hok⟩ := id F
  obtain ⟨j, hj⟩ := List.mem_iff_getElem?.mp (zls_in (B := G.2.1) (q := (i, zc G.2.1 (.inl x))).mpr ⟨_, hl, rfl⟩)
  refine lv_iinc (v := Int32.ofInt (x + v)) hx hb (ztok_at hok hd) hL hj (Int32.ofInt_add x v).symm hi rfl (fun ls2 hl2 => kk p e s m args below meth c H locs _ F hZ hS hV (zLo_set1 (v := .inl (x + v)) hl2 hz))

theorem wp_iadd {x y : Int} (hd : mi.2.2.2.2[t]? = some (pc, .iadd, 1))  (kk : WP G mi d mc ms k q (pc + 1) ls (.inl (x + y) :: st) n I R Q) : WP G mi d mc ms k q pc ls (.inl y :: .inl x :: st) n I R Q := by
  intro p e s m args below meth c H locs lsA F hZ hS hV hL
  obtain ⟨hx, hb, hml, hown, hts, hr, hlk, hnm, hK, hok⟩ := id F
  refine lv_iadd hx hb (ztok_at hok hd) ?_
  rw [← Int32.ofInt_add]
  exact kk p e s m args below meth c H locs lsA F hZ hS hV hL

theorem wp_isub {x y : Int} (hd : mi.2.2.2.2[t]? = some (pc, .isub, 1))  (kk : WP G mi d mc ms k q (pc + 1) ls (.inl (x - y) :: st) n I R Q) : WP G mi d mc ms k q pc ls (.inl y :: .inl x :: st) n I R Q := by
  intro p e s m args below meth c H locs lsA F hZ hS hV hL
  obtain ⟨hx, hb, hml, hown, hts, hr, hlk, hnm, hK, hok⟩ := id F
  refine lv_isub hx hb (ztok_at hok hd) ?_
  rw [← Int32.ofInt_sub]
  exact kk p e s m args below meth c H locs lsA F hZ hS hV hL

theorem wp_imul {x y : Int} (hd : mi.2.2.2.2[t]? = some (pc, .imul, 1))  (kk : WP G mi d mc ms k q (pc + 1) ls (.inl (x * y) :: st) n I R Q) : WP G mi d mc ms k q pc ls (.inl y :: .inl x :: st) n I R Q := by
  intro p e s m args below meth c H locs lsA F hZ hS hV hL
  obtain ⟨hx, hb, hml, hown, hts, hr, hlk, hnm, hK, hok⟩ := id F
  refine lv_imul hx hb (ztok_at hok hd) ?_
  rw [← Int32.ofInt_mul]
  exact kk p e s m args below meth c H locs lsA F hZ hS hV hL

def ziand (x y : Int) : Int := (Int32.ofInt x &&& Int32.ofInt y).toInt

theorem wp_iand {x y : Int} (hd : mi.2.2.2.2[t]? = some (pc, .iand, 1))  (kk : WP G mi d mc ms k q (pc + 1) ls (.inl (ziand x y) :: st) n I R Q) : WP G mi d mc ms k q pc ls (.inl y :: .inl x :: st) n I R Q := by
  intro p e s m args below meth c H locs lsA F hZ hS hV hL
  obtain ⟨hx, hb, hml, hown, hts, hr, hlk, hnm, hK, hok⟩ := id F
  refine lv_iand hx hb (ztok_at hok hd) ?_
  have h := kk p e s m args below meth c H locs lsA F hZ hS hV hL
  rw [List.map_cons, show zc G.2.1 (.inl (ziand x y)) = .int (Int32.ofInt x &&& Int32.ofInt y) from congrArg Value.int (Int32.ofInt_toInt _)] at h
  exact h

def zior (x y : Int) : Int := (Int32.ofInt x ||| Int32.ofInt y).toInt

theorem wp_ior {x y : Int} (hd : mi.2.2.2.2[t]? = some (pc, .ior, 1))  (kk : WP G mi d mc ms k q (pc + 1) ls (.inl (zior x y) :: st) n I R Q) : WP G mi d mc ms k q pc ls (.inl y :: .inl x :: st) n I R Q := by
  intro p e s m args below meth c H locs lsA F hZ hS hV hL
  obtain ⟨hx, hb, hml, hown, hts, hr, hlk, hnm, hK, hok⟩ := id F
  refine lv_ior hx hb (ztok_at hok hd) ?_
  have h := kk p e s m args below meth c H locs lsA F hZ hS hV hL
  rw [List.map_cons, show zc G.2.1 (.inl (zior x y)) = .int (Int32.ofInt x ||| Int32.ofInt y) from congrArg Value.int (Int32.ofInt_toInt _)] at h
  exact h

def zixor (x y : Int) : Int := (Int32.ofInt x ^^^ Int32.ofInt y).toInt

theorem wp_ixor {x y : Int} (hd : mi.2.2.2.2[t]? = some (pc, .ixor, 1))  (kk : WP G mi d mc ms k q (pc + 1) ls (.inl (zixor x y) :: st) n I R Q) : WP G mi d mc ms k q pc ls (.inl y :: .inl x :: st) n I R Q := by
  intro p e s m args below meth c H locs lsA F hZ hS hV hL
  obtain ⟨hx, hb, hml, hown, hts, hr, hlk, hnm, hK, hok⟩ := id F
  refine lv_ixor hx hb (ztok_at hok hd) ?_
  have h := kk p e s m args below meth c H locs lsA F hZ hS hV hL
  rw [List.map_cons, show zc G.2.1 (.inl (zixor x y)) = .int (Int32.ofInt x ^^^ Int32.ofInt y) from congrArg Value.int (Int32.ofInt_toInt _)] at h
  exact h

def zishl (x y : Int) : Int := (Int32.ofInt x <<< (Int32.ofInt y &&& 31)).toInt

theorem wp_ishl {x y : Int} (hd : mi.2.2.2.2[t]? = some (pc, .ishl, 1))  (kk : WP G mi d mc ms k q (pc + 1) ls (.inl (zishl x y) :: st) n I R Q) : WP G mi d mc ms k q pc ls (.inl y :: .inl x :: st) n I R Q := by
  intro p e s m args below meth c H locs lsA F hZ hS hV hL
  obtain ⟨hx, hb, hml, hown, hts, hr, hlk, hnm, hK, hok⟩ := id F
  refine lv_ishl hx hb (ztok_at hok hd) ?_
  have h := kk p e s m args below meth c H locs lsA F hZ hS hV hL
  rw [List.map_cons, show zc G.2.1 (.inl (zishl x y)) = .int (Int32.ofInt x <<< (Int32.ofInt y &&& 31)) from congrArg Value.int (Int32.ofInt_toInt _)] at h
  exact h

def zishr (x y : Int) : Int := (Int32.ofInt x >>> (Int32.ofInt y &&& 31)).toInt

theorem wp_ishr {x y : Int} (hd : mi.2.2.2.2[t]? = some (pc, .ishr, 1))  (kk : WP G mi d mc ms k q (pc + 1) ls (.inl (zishr x y) :: st) n I R Q) : WP G mi d mc ms k q pc ls (.inl y :: .inl x :: st) n I R Q := by
  intro p e s m args below meth c H locs lsA F hZ hS hV hL
  obtain ⟨hx, hb, hml, hown, hts, hr, hlk, hnm, hK, hok⟩ := id F
  refine lv_ishr hx hb (ztok_at hok hd) ?_
  have h := kk p e s m args below meth c H locs lsA F hZ hS hV hL
  rw [List.map_cons, show zc G.2.1 (.inl (zishr x y)) = .int (Int32.ofInt x >>> (Int32.ofInt y &&& 31)) from congrArg Value.int (Int32.ofInt_toInt _)] at h
  exact h

theorem wp_idiv {x y : Int} (hd : mi.2.2.2.2[t]? = some (pc, .idiv, 1)) (hx0 : zin x) (hy0 : zin y) (hy1 : 0 < y) (kk : WP G mi d mc ms k q (pc + 1) ls (.inl (x.tdiv y) :: st) n I R Q) : WP G mi d mc ms k q pc ls (.inl y :: .inl x :: st) n I R Q := by
  intro p e s m args below meth c H locs lsA F hZ hS hV hL
  obtain ⟨hx, hb, hml, hown, hts, hr, hlk, hnm, hK, hok⟩ := id F
  refine lv_idiv hx hb (ztok_at hok hd) (fun h => by rw [z32_eq0 hy0] at h; omega) ?_
  rw [z32_div hx0 hy0 hy1]
  exact kk p e s m args below meth c H locs lsA F hZ hS hV hL

theorem wp_irem {x y : Int} (hd : mi.2.2.2.2[t]? = some (pc, .irem, 1)) (hx0 : zin x) (hy0 : zin y) (hy1 : 0 < y) (kk : WP G mi d mc ms k q (pc + 1) ls (.inl (x.tmod y) :: st) n I R Q) : WP G mi d mc ms k q pc ls (.inl y :: .inl x :: st) n I R Q := by
  intro p e s m args below meth c H locs lsA F hZ hS hV hL
  obtain ⟨hx, hb, hml, hown, hts, hr, hlk, hnm, hK, hok⟩ := id F
  refine lv_irem hx hb (ztok_at hok hd) (fun h => by rw [z32_eq0 hy0] at h; omega) ?_
  rw [z32_rem hx0 hy0]
  exact kk p e s m args below meth c H locs lsA F hZ hS hV hL

theorem wp_i2l {x : Int} (hd : mi.2.2.2.2[t]? = some (pc, .i2l, 1)) (hx0 : zin x) (kk : WP G mi d mc ms k q (pc + 1) ls (.inr (.inl x) :: st) n I R Q) : WP G mi d mc ms k q pc ls (.inl x :: st) n I R Q := by
  intro p e s m args below meth c H locs lsA F hZ hS hV hL
  obtain ⟨hx, hb, hml, hown, hts, hr, hlk, hnm, hK, hok⟩ := id F
  exact lv_i2l hx hb (ztok_at hok hd) (z64_of32 hx0) (kk p e s m args below meth c H locs lsA F hZ hS hV hL)

theorem wp_l2i {x : Int} (hd : mi.2.2.2.2[t]? = some (pc, .l2i, 1))  (kk : WP G mi d mc ms k q (pc + 1) ls (.inl x :: st) n I R Q) : WP G mi d mc ms k q pc ls (.inr (.inl x) :: st) n I R Q := by
  intro p e s m args below meth c H locs lsA F hZ hS hV hL
  obtain ⟨hx, hb, hml, hown, hts, hr, hlk, hnm, hK, hok⟩ := id F
  exact lv_l2i hx hb (ztok_at hok hd) Int64.toInt32_ofInt (kk p e s m args below meth c H locs lsA F hZ hS hV hL)

theorem wp_ldiv {x y : Int} (hd : mi.2.2.2.2[t]? = some (pc, .ldiv, 1)) (hx0 : zinL x) (hy0 : zinL y) (hy1 : 0 < y) (kk : WP G mi d mc ms k q (pc + 1) ls (.inr (.inl (x.tdiv y)) :: st) n I R Q) : WP G mi d mc ms k q pc ls (.inr (.inl y) :: .inr (.inl x) :: st) n I R Q := by
  intro p e s m args below meth c H locs lsA F hZ hS hV hL
  obtain ⟨hx, hb, hml, hown, hts, hr, hlk, hnm, hK, hok⟩ := id F
  have h := kk p e s m args below meth c H locs lsA F hZ hS hV hL
  refine lv_ldiv hx hb (ztok_at hok hd) (fun h => by rw [z64_eq0 hy0] at h; omega) ?_
  rw [z64_div hx0 hy0 hy1]
  exact h

theorem wp_lrem {x y : Int} (hd : mi.2.2.2.2[t]? = some (pc, .lrem, 1)) (hx0 : zinL x) (hy0 : zinL y) (hy1 : 0 < y) (kk : WP G mi d mc ms k q (pc + 1) ls (.inr (.inl (x.tmod y)) :: st) n I R Q) : WP G mi d mc ms k q pc ls (.inr (.inl y) :: .inr (.inl x) :: st) n I R Q := by
  intro p e s m args below meth c H locs lsA F hZ hS hV hL
  obtain ⟨hx, hb, hml, hown, hts, hr, hlk, hnm, hK, hok⟩ := id F
  have h := kk p e s m args below meth c H locs lsA F hZ hS hV hL
  refine lv_lrem hx hb (ztok_at hok hd) (fun h => by rw [z64_eq0 hy0] at h; omega) ?_
  rw [z64_rem hx0 hy0 hy1]
  exact h

def zcmp (x y : Int) : Int := if x < y then -1 else if x = y then 0 else 1

theorem wp_lcmp {x y : Int} (hd : mi.2.2.2.2[t]? = some (pc, .lcmp, 1)) (hx0 : zinL x) (hy0 : zinL y) (kk : WP G mi d mc ms k q (pc + 1) ls (.inl (zcmp x y) :: st) n I R Q) : WP G mi d mc ms k q pc ls (.inr (.inl y) :: .inr (.inl x) :: st) n I R Q := by
  intro p e s m args below meth c H locs lsA F hZ hS hV hL
  obtain ⟨hx, hb, hml, hown, hts, hr, hlk, hnm, hK, hok⟩ := id F
  have h := kk p e s m args below meth c H locs lsA F hZ hS hV hL
  refine W.lcmp hx hb (ztok_at hok hd) ?_
  rw [z64_cmp hx0 hy0]
  exact h

theorem wp_dup {v : zV} (hd : mi.2.2.2.2[t]? = some (pc, .dup, 1)) (hv : zone v = true) (kk : WP G mi d mc ms k q (pc + 1) ls (v :: v :: st) n I R Q) : WP G mi d mc ms k q pc ls (v :: st) n I R Q := by
  intro p e s m args below meth c H locs lsA F hZ hS hV hL
  obtain ⟨hx, hb, hml, hown, hts, hr, hlk, hnm, hK, hok⟩ := id F
  exact lv_dup hx hb (ztok_at hok hd) (zone_cat hv) (kk p e s m args below meth c H locs lsA F hZ hS hV hL)

theorem wp_pop {v : zV} (hd : mi.2.2.2.2[t]? = some (pc, .pop, 1)) (hv : zone v = true) (kk : WP G mi d mc ms k q (pc + 1) ls st n I R Q) : WP G mi d mc ms k q pc ls (v :: st) n I R Q := by
  intro p e s m args below meth c H locs lsA F hZ hS hV hL
  obtain ⟨hx, hb, hml, hown, hts, hr, hlk, hnm, hK, hok⟩ := id F
  exact lv_pop hx hb (ztok_at hok hd) (zone_cat hv) (kk p e s m args below meth c H locs lsA F hZ hS hV hL)

theorem wp_dup2 {v w : zV} (hd : mi.2.2.2.2[t]? = some (pc, .dup2, 1)) (hv : zone v = true) (hw : zone w = true) (kk : WP G mi d mc ms k q (pc + 1) ls (v :: w :: v :: w :: st) n I R Q) : WP G mi d mc ms k q pc ls (v :: w :: st) n I R Q := by
  intro p e s m args below meth c H locs lsA F hZ hS hV hL
  obtain ⟨hx, hb, hml, hown, hts, hr, hlk, hnm, hK, hok⟩ := id F
  exact lv_dup2_11 hx hb (ztok_at hok hd) (zone_cat hv) (zone_cat hw) (kk p e s m args below meth c H locs lsA F hZ hS hV hL)

theorem wp_goto {off : Int} {tgt : Nat} (hd : mi.2.2.2.2[t]? = some (pc, .goto off, 3)) (ht : (pc : Int) + off = (tgt : Int)) (kk : WP G mi d mc ms k q tgt ls st n I R Q) : WP G mi d mc ms k q pc ls st n I R Q := by
  intro p e s m args below meth c H locs lsA F hZ hS hV hL
  obtain ⟨hx, hb, hml, hown, hts, hr, hlk, hnm, hK, hok⟩ := id F
  exact lv_goto hx hb (ztok_at hok hd) ht (kk p e s m args below meth c H locs lsA F hZ hS hV hL)

theorem wp_if_eq {x off : Int} {tgt : Nat} (hd : mi.2.2.2.2[t]? = some (pc, .ifCond .eq off, 3)) (ht : (pc : Int) + off = (tgt : Int)) (hz : zin x) (kt : x = 0 → WP G mi d mc ms k q tgt ls st n I R Q) (kf : ¬ x = 0 → WP G mi d mc ms k q (pc + 3) ls st n I R Q) : WP G mi d mc ms k q pc ls (.inl x :: st) n I R Q := by
  intro p e s m args below meth c H locs lsA F hZ hS hV hL
  obtain ⟨hx, hb, hml, hown, hts, hr, hlk, hnm, hK, hok⟩ := id F
  exact lv_if_eq hx hb (ztok_at hok hd) ht (fun h => kt ((z32_eq0 hz).mp h) p e s m args below meth c H locs lsA F hZ hS hV hL) (fun h => kf (fun h1 => h ((z32_eq0 hz).mpr h1)) p e s m args below meth c H locs lsA F hZ hS hV hL)

theorem wp_if_ne {x off : Int} {tgt : Nat} (hd : mi.2.2.2.2[t]? = some (pc, .ifCond .ne off, 3)) (ht : (pc : Int) + off = (tgt : Int)) (hz : zin x) (kt : ¬ x = 0 → WP G mi d mc ms k q tgt ls st n I R Q) (kf : x = 0 → WP G mi d mc ms k q (pc + 3) ls st n I R Q) : WP G mi d mc ms k q pc ls (.inl x :: st) n I R Q := by
  intro p e s m args below meth c H locs lsA F hZ hS hV hL
  obtain ⟨hx, hb, hml, hown, hts, hr, hlk, hnm, hK, hok⟩ := id F
  exact lv_if_ne hx hb (ztok_at hok hd) ht (fun h => kt (fun h1 => h ((z32_eq0 hz).mpr h1)) p e s m args below meth c H locs lsA F hZ hS hV hL) (fun h => kf ((z32_eq0 hz).mp h) p e s m args below meth c H locs lsA F hZ hS hV hL)

theorem wp_if_lt {x off : Int} {tgt : Nat} (hd : mi.2.2.2.2[t]? = some (pc, .ifCond .lt off, 3)) (ht : (pc : Int) + off = (tgt : Int)) (hz : zin x) (kt : x < 0 → WP G mi d mc ms k q tgt ls st n I R Q) (kf : ¬ x < 0 → WP G mi d mc ms k q (pc + 3) ls st n I R Q) : WP G mi d mc ms k q pc ls (.inl x :: st) n I R Q := by
  intro p e s m args below meth c H locs lsA F hZ hS hV hL
  obtain ⟨hx, hb, hml, hown, hts, hr, hlk, hnm, hK, hok⟩ := id F
  exact lv_if_lt hx hb (ztok_at hok hd) ht (fun h => kt ((z32_lt0 hz).mp h) p e s m args below meth c H locs lsA F hZ hS hV hL) (fun h => kf (fun h1 => h ((z32_lt0 hz).mpr h1)) p e s m args below meth c H locs lsA F hZ hS hV hL)

theorem wp_if_ge {x off : Int} {tgt : Nat} (hd : mi.2.2.2.2[t]? = some (pc, .ifCond .ge off, 3)) (ht : (pc : Int) + off = (tgt : Int)) (hz : zin x) (kt : 0 ≤ x → WP G mi d mc ms k q tgt ls st n I R Q) (kf : ¬ 0 ≤ x → WP G mi d mc ms k q (pc + 3) ls st n I R Q) : WP G mi d mc ms k q pc ls (.inl x :: st) n I R Q := by
  intro p e s m args below meth c H locs lsA F hZ hS hV hL
  obtain ⟨hx, hb, hml, hown, hts, hr, hlk, hnm, hK, hok⟩ := id F
  exact lv_if_ge hx hb (ztok_at hok hd) ht (fun h => kt ((z32_ge0 hz).mp h) p e s m args below meth c H locs lsA F hZ hS hV hL) (fun h => kf (fun h1 => h ((z32_ge0 hz).mpr h1)) p e s m args below meth c H locs lsA F hZ hS hV hL)

theorem wp_if_gt {x off : Int} {tgt : Nat} (hd : mi.2.2.2.2[t]? = some (pc, .ifCond .gt off, 3)) (ht : (pc : Int) + off = (tgt : Int)) (hz : zin x) (kt : 0 < x → WP G mi d mc ms k q tgt ls st n I R Q) (kf : ¬ 0 < x → WP G mi d mc ms k q (pc + 3) ls st n I R Q) : WP G mi d mc ms k q pc ls (.inl x :: st) n I R Q := by
  intro p e s m args below meth c H locs lsA F hZ hS hV hL
  obtain ⟨hx, hb, hml, hown, hts, hr, hlk, hnm, hK, hok⟩ := id F
  exact lv_if_gt hx hb (ztok_at hok hd) ht (fun h => kt ((z32_gt0 hz).mp h) p e s m args below meth c H locs lsA F hZ hS hV hL) (fun h => kf (fun h1 => h ((z32_gt0 hz).mpr h1)) p e s m args below meth c H locs lsA F hZ hS hV hL)

theorem wp_if_le {x off : Int} {tgt : Nat} (hd : mi.2.2.2.2[t]? = some (pc, .ifCond .le off, 3)) (ht : (pc : Int) + off = (tgt : Int)) (hz : zin x) (kt : x ≤ 0 → WP G mi d mc ms k q tgt ls st n I R Q) (kf : ¬ x ≤ 0 → WP G mi d mc ms k q (pc + 3) ls st n I R Q) : WP G mi d mc ms k q pc ls (.inl x :: st) n I R Q := by
  intro p e s m args below meth c H locs lsA F hZ hS hV hL
  obtain ⟨hx, hb, hml, hown, hts, hr, hlk, hnm, hK, hok⟩ := id F
  exact lv_if_le hx hb (ztok_at hok hd) ht (fun h => kt ((z32_le0 hz).mp h) p e s m args below meth c H locs lsA F hZ hS hV hL) (fun h => kf (fun h1 => h ((z32_le0 hz).mpr h1)) p e s m args below meth c H locs lsA F hZ hS hV hL)

theorem wp_icmp_eq {x y off : Int} {tgt : Nat} (hd : mi.2.2.2.2[t]? = some (pc, .if_icmp .eq off, 3)) (ht : (pc : Int) + off = (tgt : Int)) (hz : zin x) (hw : zin y) (kt : x = y → WP G mi d mc ms k q tgt ls st n I R Q) (kf : ¬ (x = y) → WP G mi d mc ms k q (pc + 3) ls st n I R Q) : WP G mi d mc ms k q pc ls (.inl y :: .inl x :: st) n I R Q := by
  intro p e s m args below meth c H locs lsA F hZ hS hV hL
  obtain ⟨hx, hb, hml, hown, hts, hr, hlk, hnm, hK, hok⟩ := id F
  exact lv_icmp_eq hx hb (ztok_at hok hd) ht (fun h => kt ((z32_eq hz hw).mp h) p e s m args below meth c H locs lsA F hZ hS hV hL) (fun h => kf (fun h1 => h ((z32_eq hz hw).mpr h1)) p e s m args below meth c H locs lsA F hZ hS hV hL)

theorem wp_icmp_ne {x y off : Int} {tgt : Nat} (hd : mi.2.2.2.2[t]? = some (pc, .if_icmp .ne off, 3)) (ht : (pc : Int) + off = (tgt : Int)) (hz : zin x) (hw : zin y) (kt : ¬ (x = y) → WP G mi d mc ms k q tgt ls st n I R Q) (kf : x = y → WP G mi d mc ms k q (pc + 3) ls st n I R Q) : WP G mi d mc ms k q pc ls (.inl y :: .inl x :: st) n I R Q := by
  intro p e s m args below meth c H locs lsA F hZ hS hV hL
  obtain ⟨hx, hb, hml, hown, hts, hr, hlk, hnm, hK, hok⟩ := id F
  exact lv_icmp_ne hx hb (ztok_at hok hd) ht (fun h => kt (fun h1 => h ((z32_eq hz hw).mpr h1)) p e s m args below meth c H locs lsA F hZ hS hV hL) (fun h => kf ((z32_eq hz hw).mp h) p e s m args below meth c H locs lsA F hZ hS hV hL)

theorem wp_icmp_lt {x y off : Int} {tgt : Nat} (hd : mi.2.2.2.2[t]? = some (pc, .if_icmp .lt off, 3)) (ht : (pc : Int) + off = (tgt : Int)) (hz : zin x) (hw : zin y) (kt : x < y → WP G mi d mc ms k q tgt ls st n I R Q) (kf : ¬ (x < y) → WP G mi d mc ms k q (pc + 3) ls st n I R Q) : WP G mi d mc ms k q pc ls (.inl y :: .inl x :: st) n I R Q := by
  intro p e s m args below meth c H locs lsA F hZ hS hV hL
  obtain ⟨hx, hb, hml, hown, hts, hr, hlk, hnm, hK, hok⟩ := id F
  exact lv_icmp_lt hx hb (ztok_at hok hd) ht (fun h => kt ((z32_lt hz hw).mp h) p e s m args below meth c H locs lsA F hZ hS hV hL) (fun h => kf (fun h1 => h ((z32_lt hz hw).mpr h1)) p e s m args below meth c H locs lsA F hZ hS hV hL)

theorem wp_icmp_ge {x y off : Int} {tgt : Nat} (hd : mi.2.2.2.2[t]? = some (pc, .if_icmp .ge off, 3)) (ht : (pc : Int) + off = (tgt : Int)) (hz : zin x) (hw : zin y) (kt : y ≤ x → WP G mi d mc ms k q tgt ls st n I R Q) (kf : ¬ (y ≤ x) → WP G mi d mc ms k q (pc + 3) ls st n I R Q) : WP G mi d mc ms k q pc ls (.inl y :: .inl x :: st) n I R Q := by
  intro p e s m args below meth c H locs lsA F hZ hS hV hL
  obtain ⟨hx, hb, hml, hown, hts, hr, hlk, hnm, hK, hok⟩ := id F
  exact lv_icmp_ge hx hb (ztok_at hok hd) ht (fun h => kt ((z32_le hw hz).mp h) p e s m args below meth c H locs lsA F hZ hS hV hL) (fun h => kf (fun h1 => h ((z32_le hw hz).mpr h1)) p e s m args below meth c H locs lsA F hZ hS hV hL)

theorem wp_icmp_gt {x y off : Int} {tgt : Nat} (hd : mi.2.2.2.2[t]? = some (pc, .if_icmp .gt off, 3)) (ht : (pc : Int) + off = (tgt : Int)) (hz : zin x) (hw : zin y) (kt : y < x → WP G mi d mc ms k q tgt ls st n I R Q) (kf : ¬ (y < x) → WP G mi d mc ms k q (pc + 3) ls st n I R Q) : WP G mi d mc ms k q pc ls (.inl y :: .inl x :: st) n I R Q := by
  intro p e s m args below meth c H locs lsA F hZ hS hV hL
  obtain ⟨hx, hb, hml, hown, hts, hr, hlk, hnm, hK, hok⟩ := id F
  exact lv_icmp_gt hx hb (ztok_at hok hd) ht (fun h => kt ((z32_lt hw hz).mp h) p e s m args below meth c H locs lsA F hZ hS hV hL) (fun h => kf (fun h1 => h ((z32_lt hw hz).mpr h1)) p e s m args below meth c H locs lsA F hZ hS hV hL)

theorem wp_icmp_le {x y off : Int} {tgt : Nat} (hd : mi.2.2.2.2[t]? = some (pc, .if_icmp .le off, 3)) (ht : (pc : Int) + off = (tgt : Int)) (hz : zin x) (hw : zin y) (kt : x ≤ y → WP G mi d mc ms k q tgt ls st n I R Q) (kf : ¬ (x ≤ y) → WP G mi d mc ms k q (pc + 3) ls st n I R Q) : WP G mi d mc ms k q pc ls (.inl y :: .inl x :: st) n I R Q := by
  intro p e s m args below meth c H locs lsA F hZ hS hV hL
  obtain ⟨hx, hb, hml, hown, hts, hr, hlk, hnm, hK, hok⟩ := id F
  exact lv_icmp_le hx hb (ztok_at hok hd) ht (fun h => kt ((z32_le hz hw).mp h) p e s m args below meth c H locs lsA F hZ hS hV hL) (fun h => kf (fun h1 => h ((z32_le hz hw).mpr h1)) p e s m args below meth c H locs lsA F hZ hS hV hL)

theorem wp_ireturn {x : Int} (hd : mi.2.2.2.2[t]? = some (pc, .ireturn, 1)) (hr0 : mi.2.2.2.1 = some .int) (hq : Q (some x) I R) : WP G mi d k q k q pc ls [.inl x] n I R Q := by
  intro p e s m args below meth c H locs lsA F hZ hS hV hL
  obtain ⟨hx, hb, hml, hown, hts, hr, hlk, hnm, hK, hok⟩ := id F
  exact W.iret (v := Int32.ofInt x) hx hb (hr.trans hr0) (fun t ht hW => ⟨⟨some x, I, R, rfl, by rw [ht, Nat.sub_self]; exact hS, hK.moved hW.alike, hq⟩, hV.F ht⟩) hV.2.2 (ztok_at hok hd) hlk

theorem wp_zreturn {x : Int} (hd : mi.2.2.2.2[t]? = some (pc, .ireturn, 1)) (hr0 : mi.2.2.2.1 = some .boolean) (h01 : x = 0 ∨ x = 1) (hq : Q (some x) I R) : WP G mi d k q k q pc ls [.inl x] n I R Q := by
  intro p e s m args below meth c H locs lsA F hZ hS hV hL
  obtain ⟨hx, hb, hml, hown, hts, hr, hlk, hnm, hK, hok⟩ := id F
  exact W.zret (v := Int32.ofInt x) (ty := .boolean) hx hb (hr.trans hr0) (by rcases h01 with rfl | rfl <;> decide) (fun t ht hW => ⟨⟨some x, I, R, rfl, by rw [ht, Nat.sub_self]; exact hS, hK.moved hW.alike, hq⟩, hV.F ht⟩) hV.2.2 (ztok_at hok hd) hlk

theorem wp_return (hd : mi.2.2.2.2[t]? = some (pc, .return_, 1)) (hr0 : mi.2.2.2.1 = none) (hq : Q none I R) : WP G mi d k q k q pc ls [] n I R Q := by
  intro p e s m args below meth c H locs lsA F hZ hS hV hL
  obtain ⟨hx, hb, hml, hown, hts, hr, hlk, hnm, hK, hok⟩ := id F
  exact W.vret hx hb (hr.trans hr0) (fun t ht hW => ⟨⟨none, I, R, rfl, by rw [ht, Nat.sub_self]; exact hS, hK.moved hW.alike, hq⟩, hV.F ht⟩) hV.2.2 (ztok_at hok hd) hlk

theorem wp_canon (kk : (∀ a i, zin (I a i)) → WP G mi d mc ms k q pc ls st n I R Q) : WP G mi d mc ms k q pc ls st n I R Q := fun p e s m args below meth c H locs lsA F hZ hS hV hL => kk hS.2 p e s m args below meth c H locs lsA F hZ hS hV hL

end ZR
end
section
theorem zmaxS : Cond.static Lib.Math.max.name ∈ wsL_law := wsL_law_r6_l (List.mem_of_getElem? (i := 0) rfl)
theorem zmathI : Cond.initialized "java/lang/Math" ∈ wsL_law := wsL_law_r6_l (List.mem_of_getElem? (i := 1) rfl)
theorem zmaxC : Cond.code Lib.Math.max.name Lib.Math.max.code 2 (some .int) ∈ wsL_law := wsL_law_r6_l (List.mem_of_getElem? (i := 2) rfl)
theorem zminS : Cond.static Lib.Math.min.name ∈ wsL_law := wsL_law_r33_l (List.mem_of_getElem? (i := 17) rfl)
theorem zminC : Cond.code Lib.Math.min.name Lib.Math.min.code 2 (some .int) ∈ wsL_law := wsL_law_r33_l (List.mem_of_getElem? (i := 18) rfl)
theorem zcopyN : Cond.native arraycopyName ∈ wsL_law := wsL_law_r26_l (List.mem_of_getElem? (i := 3) rfl)
theorem zcopyS : Cond.static arraycopyName ∈ wsL_law := wsL_law_r26_l (List.mem_of_getElem? (i := 4) rfl)
theorem zcopyI : Cond.initialized "java/lang/System" ∈ wsL_law := wsL_law_r26_l (List.mem_of_getElem? (i := 5) rfl)
/-! fields, arrays, calls -/
def zFd (own : String) (x ci j : Nat) : Prop := ∃ (C : String) (T : u_T) (N : Nat), vwCl[ci]? = some (C, T, N) ∧ j < N ∧ (∀ w ∈ u_ws C T N, w ∈ wsL_law) ∧ Cond.fieldLink own x (T j).1 (T j).2.1 (T j).2.2.1 ∈ wsL_law
/-- what a store needs beside -/
def zFp (ci j : Nat) (b : Bool) (ty : FieldType) : Prop := ∀ (C : String) (T : u_T) (N : Nat), vwCl[ci]? = some (C, T, N) → (∃ ty0 : Nat → FieldType, ∀ k, k < N → parseFieldDescriptor (T k).2.2.1 = some (ty0 k)) ∧ (∀ a, a < N → ∀ b, b < N → a ≠ b → (T a).2.1 ≠ (T b).2.1) ∧ (T j).2.2.2 = b ∧ parseFieldDescriptor (T j).2.2.1 = some ty
theorem zcell_o {B cI cJ ci N : Nat} {C : String} {T : u_T} {g : Nat × Nat} {f : Int → Int} {r : Int → Option Nat} (hg : g.1 = ci) (hc : vwCl[ci]? = some (C, T, N)) :
    zcell B cI cJ g f r = .inr (ci, (List.range N).map (fun j => if zfr ci j then va_rf ((r j).map (B + ·)) else .int (Int32.ofInt (f j)))) := by
  have hlt : ci < 11 := (List.getElem?_eq_some_iff.mp hc).1
  have hn : zfn ci = N := by
    unfold zfn
    rw [List.getD_eq_getElem?_getD, hc]
    rfl
  unfold zcell
  rw [hg, if_neg (by omega), if_neg (by omega), hn]
theorem zcell_a {B cI cJ len : Nat} {g : Nat × Nat} {f : Int → Int} {r : Int → Option Nat} (hg : g = (20, len)) : zcell B cI cJ g f r = .inl (cI, len, .inl (fun j => Int32.ofInt (f j))) := by
  subst hg
  rfl
theorem zcell_A {B cI cJ len : Nat} {g : Nat × Nat} {f : Int → Int} {r : Int → Option Nat} (hg : g = (21, len)) : zcell B cI cJ g f r = .inl (cJ, len, .inr (.inr (.inr (.inr (fun j => (r j).map (B + ·)))))) := by
  subst hg
  rfl
theorem zfs_get {N j : Nat} {F : Nat → Value} (h : j < N) : ((List.range N).map F)[j]? = some (F j) := by
  rw [List.getElem?_map, List.getElem?_range h]
  rfl
theorem zfs_set {N j : Nat} {F F' : Nat → Value} {v : Value} (hv : v = F' j) (h : ∀ k, k ≠ j → F' k = F k) : ((List.range N).map F).set j v = (List.range N).map F' := by
  apply List.ext_getElem?
  intro k
  rw [List.getElem?_set]
  by_cases hk : j = k
  · subst hk
    rw [if_pos rfl]
    by_cases hn : j < N
    · rw [if_pos (by simpa using hn), zfs_get hn, hv]
    · rw [if_neg (by simpa using hn), List.getElem?_eq_none (by simpa using hn)]
  · rw [if_neg hk]
    by_cases hn : k < N
    · rw [zfs_get hn, zfs_get hn, h k (fun q => hk q.symm)]
    · rw [List.getElem?_eq_none (by simpa using hn), List.getElem?_eq_none (by simpa using hn)]
theorem zu_ne {I : zMem} {a b : Nat} {i v : Int} (h : b ≠ a) : zu I a i v b = I b := by
  funext j
  unfold zu
  rw [if_neg (fun q => h q.1)]
theorem zur_ne {R : zRef} {a b : Nat} {i : Int} {v : Option Nat} (h : b ≠ a) : zur R a i v b = R b := by
  funext j
  unfold zur
  rw [if_neg (fun q => h q.1)]
theorem zu_canon {I : zMem} {a : Nat} {i v : Int} (hI : ∀ a i, zin (I a i)) (hv : zin v) : ∀ b j, zin (zu I a i v b j) := by
  intro b j
  unfold zu
  split
  · exact hv
  · exact hI b j
theorem z32_nat {i : Int} (h0 : 0 ≤ i) (h1 : i < 2147483648) : (Int32.ofInt i).toNatClampNeg = i.toNat := Int32.toNatClampNeg_ofInt_of_le (by omega) (by omega)
theorem zvp_in {i : Int} {len : Nat} (h0 : 0 ≤ i) (h1 : i < len) (hl : len < 2147483648) : vp_in (Int32.ofInt i) len := by
  rw [vp_in_iff, z32 (by unfold zin; omega)]
  exact ⟨h0, h1⟩
section ZM
variable {G : zG} {mi : zM} {d mc ms k q pc t : Nat} {ls : List (Option zV)} {st : List zV} {n : Nat} {I : zMem} {R : zRef} {Q : zPo}
theorem wp_getI {x ci j o : Nat} {ji : Int} (hd : mi.2.2.2.2[t]? = some (pc, .getfield x, 3)) (hf : zFd mi.1.cls x ci j) (hfr : zfr ci j = false) (hji : ((j : Nat) : Int) = ji) (ho : o < n) (hk : (zlay o).1 = ci) (kk : WP G mi d mc ms k q (pc + 3) ls (.inl (I o ji) :: st) n I R Q) : WP G mi d mc ms k q pc ls (zR o :: st) n I R Q := by
  intro p e s m args below meth c H locs lsA F hZ hS hV hL
  obtain ⟨hx, hb, hml, hown, hts, hr, hlk, hnm, hK, hok⟩ := id F
  obtain ⟨C, T, N, hc, hj, hin, hw⟩ := hf
  subst hji
  exact va_get (ref := (T j).1) hx hb hts hin hown hK.1 hS.1 o (by rw [zW_get ho, zcell_o hk hc]) hc j hj (hts _ hw) (fun _ h => h) (v := .int (Int32.ofInt (I o j))) (by rw [zfs_get hj, hfr]; rfl) (ztok_at hok hd) (kk p e s m args below meth c H locs lsA F hZ hS hV hL)
theorem wp_getR {x ci j o r : Nat} {ji : Int} (hd : mi.2.2.2.2[t]? = some (pc, .getfield x, 3)) (hf : zFd mi.1.cls x ci j) (hfr : zfr ci j = true) (hji : ((j : Nat) : Int) = ji) (ho : o < n) (hk : (zlay o).1 = ci) (hR : R o ji = some r) (kk : WP G mi d mc ms k q (pc + 3) ls (zR r :: st) n I R Q) : WP G mi d mc ms k q pc ls (zR o :: st) n I R Q := by
  intro p e s m args below meth c H locs lsA F hZ hS hV hL
  obtain ⟨hx, hb, hml, hown, hts, hr, hlk, hnm, hK, hok⟩ := id F
  obtain ⟨C, T, N, hc, hj, hin, hw⟩ := hf
  subst hji
  exact va_get (ref := (T j).1) hx hb hts hin hown hK.1 hS.1 o (by rw [zW_get ho, zcell_o hk hc]) hc j hj (hts _ hw) (fun _ h => h) (v := .ref (G.2.1 + r)) (by rw [zfs_get hj, hfr, hR]; rfl) (ztok_at hok hd) (kk p e s m args below meth c H locs lsA F hZ hS hV hL)
theorem wp_putI {x ci j o : Nat} {ji v : Int} (hd : mi.2.2.2.2[t]? = some (pc, .putfield x, 3)) (hf : zFd mi.1.cls x ci j) (hp : zFp ci j false .int) (hfr : zfr ci j = false) (hji : ((j : Nat) : Int) = ji) (ho : o < n) (hk : (zlay o).1 = ci) (hv : zin v) (kk : WP G mi d mc ms k q (pc + 3) ls st n (zu I o ji v) R Q) : WP G mi d mc ms k q pc ls (.inl v :: zR o :: st) n I R Q := by
  intro p e s m args below meth c H locs lsA F hZ hS hV hL
  obtain ⟨hx, hb, hml, hown, hts, hr, hlk, hnm, hK, hok⟩ := id F
  obtain ⟨C, T, N, hc, hj, hin, hw⟩ := hf
  obtain ⟨⟨ty0, hty⟩, hnmT, hfin, hpd⟩ := hp C T N hc
  subst hji
  refine va_put (ref := (T j).1) hx hb hts hin ty0 hty hnmT hown hK.1 hS.1 zW_D hV o (by rw [zW_get ho, zcell_o hk hc]) hc j hj (hts _ hw) (fun _ h => h) hfin hpd rfl rfl (by simpa using hj) (ztok_at hok hd) (fun H1 locs1 hP1 hD1 hV1 => ?_)
  rw [zW_set (I' := zu I o j v) (R' := R) ho (by
    rw [zcell_o hk hc]
    refine congrArg (fun z => (Sum.inr (ci, z) : va_E)) (zfs_set (by rw [hfr]; show Value.int _ = Value.int _; unfold zu; rw [if_pos ⟨rfl, rfl⟩]) (fun k9 hk9 => ?_))
    show (if zfr ci k9 = true then _ else Value.int (Int32.ofInt (zu I o j v o k9))) = _
    rw [show zu I o j v o k9 = I o k9 from if_neg (fun q9 => hk9 (by have := q9.2; omega))]) (fun _ h => zu_ne h) (fun _ _ => rfl)] at hP1
  exact kk p e s m args below meth c H1 locs1 lsA F hZ ⟨hP1, zu_canon hS.2 hv⟩ hV1 hL
theorem wp_iaload {a len : Nat} {i : Int} (hd : mi.2.2.2.2[t]? = some (pc, .iaload, 1)) (ha : a < n) (hk : zlay a = (20, len)) (h0 : 0 ≤ i) (h1 : i < len) (hl : len < 2147483648) (kk : WP G mi d mc ms k q (pc + 1) ls (.inl (I a i) :: st) n I R Q) : WP G mi d mc ms k q pc ls (.inl i :: zR a :: st) n I R Q := by
  intro p e s m args below meth c H locs lsA F hZ hS hV hL
  obtain ⟨hx, hb, hml, hown, hts, hr, hlk, hnm, hK, hok⟩ := id F
  have h := kk p e s m args below meth c H locs lsA F hZ hS hV hL
  refine va_iald hx hb hK.1 hS.1 a 0 (by rw [zW_get ha, zcell_a hk]) rfl (zvp_in h0 h1 hl) (ztok_at hok hd) ?_
  show W p G.1 e (zrm d mc ms) s m args below meth c H locs k q _ (F0 m (pc + 1) lsA (.int (Int32.ofInt (I a ((Int32.ofInt i).toNatClampNeg : Nat))) :: st.map (zc G.2.1)))
  rw [z32_nat h0 (by omega), Int.toNat_of_nonneg h0]
  exact h
theorem wp_iastore {a len : Nat} {i v : Int} (hd : mi.2.2.2.2[t]? = some (pc, .iastore, 1)) (ha : a < n) (hk : zlay a = (20, len)) (h0 : 0 ≤ i) (h1 : i < len) (hl : len < 2147483648) (hv : zin v) (kk : WP G mi d mc ms k q (pc + 1) ls st n (zu I a i v) R Q) : WP G mi d mc ms k q pc ls (.inl v :: .inl i :: zR a :: st) n I R Q := by
  intro p e s m args below meth c H locs lsA F hZ hS hV hL
  obtain ⟨hx, hb, hml, hown, hts, hr, hlk, hnm, hK, hok⟩ := id F
  refine va_iast hx hb hK.1 hS.1 zW_D hV a 0 (by rw [zW_get ha, zcell_a hk]) rfl (zvp_in h0 h1 hl) (ztok_at hok hd) (fun H1 locs1 hP1 hD1 hV1 => ?_)
  rw [zW_set (I' := zu I a i v) (R' := R) ha (by
    rw [zcell_a hk]
    refine congrArg (fun z => (Sum.inl (G.2.2.2.1, len, Sum.inl z) : va_E)) (funext fun j => ?_)
    rw [z32_nat h0 (by omega)]
    unfold upd zu
    by_cases hj : j = i.toNat
    · rw [if_pos hj, if_pos ⟨rfl, by omega⟩]
    · rw [if_neg hj, if_neg (fun q9 => hj (by have := q9.2; omega))]) (fun _ h => zu_ne h) (fun _ _ => rfl)] at hP1
  exact kk p e s m args below meth c H1 locs1 lsA F hZ ⟨hP1, zu_canon hS.2 hv⟩ hV1 hL
theorem wp_alen {a g len : Nat} {v : Int} (hd : mi.2.2.2.2[t]? = some (pc, .arraylength, 1)) (ha : a < n) (hg : g = 20 ∨ g = 21) (hk : zlay a = (g, len)) (hv : (len : Int) = v) (kk : WP G mi d mc ms k q (pc + 1) ls (.inl v :: st) n I R Q) : WP G mi d mc ms k q pc ls (zR a :: st) n I R Q := by
  intro p e s m args below meth c H locs lsA F hZ hS hV hL
  obtain ⟨hx, hb, hml, hown, hts, hr, hlk, hnm, hK, hok⟩ := id F
  subst hv
  have h := kk p e s m args below meth c H locs lsA F hZ hS hV hL
  rcases hg with rfl | rfl
  · exact va_alen (v := Int32.ofInt len) hx hb hK.1 hS.1 a 0 (by rw [zW_get ha, zcell_a hk]) rfl (Int32.ofInt_eq_ofNat).symm (ztok_at hok hd) h
  · exact va_alen (v := Int32.ofInt len) hx hb hK.1 hS.1 a 1 (by rw [zW_get ha, zcell_A hk]) rfl (Int32.ofInt_eq_ofNat).symm (ztok_at hok hd) h
theorem wp_aaload {a len r : Nat} {i : Int} (hd : mi.2.2.2.2[t]? = some (pc, .aaload, 1)) (ha : a < n) (hk : zlay a = (21, len)) (h0 : 0 ≤ i) (h1 : i < len) (hl : len < 2147483648) (hR : R a i = some r) (kk : WP G mi d mc ms k q (pc + 1) ls (zR r :: st) n I R Q) : WP G mi d mc ms k q pc ls (.inl i :: zR a :: st) n I R Q := by
  intro p e s m args below meth c H locs lsA F hZ hS hV hL
  obtain ⟨hx, hb, hml, hown, hts, hr, hlk, hnm, hK, hok⟩ := id F
  have h := kk p e s m args below meth c H locs lsA F hZ hS hV hL
  have hin := zvp_in h0 h1 hl
  have hlt : (Int32.ofInt i).toNatClampNeg < len := Nat.not_le.mp fun q => hin (Or.inr q)
  have he : (zW G.2.1 G.2.2.2.1 G.2.2.2.2 n I R)[a]? = some (G.2.1 + a, .inl (G.2.2.2.2, len, .inr (.inr (.inr (.inr (fun j : Nat => (R a j).map (G.2.1 + ·))))))) := by rw [zW_get ha, zcell_A hk]
  refine W.aald (v := .ref (G.2.1 + r)) (ty := .array .int) hx hb (hS.1 a _ he) ((hK.1.2 1 _ rfl).1 len (fun j : Nat => va_rf ((R a j).map (G.2.1 + ·)))) rfl (fun q => by cases q) (by show ¬ (_ ∨ (arrV _ _ _).slots.size ≤ _); rw [arrV_size]; exact hin) ?_ rfl rfl (ztok_at hok hd) h
  show (arrV _ _ _).slots[_]? = _
  rw [arrV_read _ _ hlt]
  show some (va_rf ((R a ((Int32.ofInt i).toNatClampNeg : Nat)).map (G.2.1 + ·))) = _
  rw [z32_nat h0 (by omega), Int.toNat_of_nonneg h0, hR]
  rfl
-- calls
theorem W_sized {p : Program} {l : Launch} {e : Env} {Rm : Room} {s : State} {m : MethodId} {args : Array Value} {below : List Frame} {meth : Method} {c : Code} {H : Heap} {locs : List Loc} {cells slots : Nat} {Q : State → Prop} {g : JFrame} (kk : H.size ≤ s.heap.size + cells → W p l e Rm s m args below meth c H locs cells slots Q g) : W p l e Rm s m args below meth c H locs cells slots Q g := by
  intro T hT X
  have h1 : T.heap.size ≤ s.heap.size + cells := X.same.2.2.1
  exact kk (by rw [← hT]; exact h1) T hT X
theorem zsize {G : zG} {n k : Nat} {I : zMem} {R : zRef} {s : State} {H : Heap} {locs : List Loc} (hZ : s.heap.size + k = G.2.1 + n ∧ k ≤ n) (hS : zSt G n I R H) (hV : va_S (fun a => G.2.1 ≤ a) s.heap H locs) (h : H.size ≤ s.heap.size + k) : H.size = G.2.1 + n := by
  by_cases hn : n = 0
  · subst hn
    have := hV.1
    omega
  · have h1 : n - 1 < n := by omega
    have := (hS.1 (n - 1) _ (zW_get h1)).lt
    have h2 : G.2.1 + (n - 1) < H.size := this
    omega
theorem zgood {w : Cond} (h : w ∈ wsL_law) : w ∈ wsL_law ∧ ((w.onTables && w.keeps) = true ∨ ∃ ty, w = .arrayClass ty) := ⟨h, good_of_word (List.all_eq_true.mp wsL_law_g w h)⟩
def zLk (own : String) (x : Nat) (m2 : zM) (na : Nat) : Prop := Cond.methodLink own x m2.1 ∈ wsL_law ∧ Cond.instanceMethod m2.1 ∈ wsL_law ∧ Cond.selects m2.1.cls m2.1 m2.1 ∈ wsL_law ∧ Cond.initialized m2.1.cls ∈ wsL_law ∧ Cond.code m2.1 m2.2.1 m2.2.2.1 m2.2.2.2.1 ∈ wsL_law ∧ m2.1.cls ≠ "java/lang/invoke/MethodHandle" ∧ m2.1.cls ≠ "java/lang/invoke/VarHandle" ∧ (parseMethodDescriptor m2.1.desc).map (fun d => d.parameters.length) = some na ∧ m2.2.2.1 ≤ 41
def zLs (own : String) (x : Nat) (m2 : zM) (na : Nat) : Prop := Cond.methodLink own x m2.1 ∈ wsL_law ∧ Cond.static m2.1 ∈ wsL_law ∧ Cond.initialized own ∈ wsL_law ∧ Cond.code m2.1 m2.2.1 m2.2.2.1 m2.2.2.2.1 ∈ wsL_law ∧ m2.1.cls = own ∧ m2.1.cls ≠ "java/lang/invoke/MethodHandle" ∧ m2.1.cls ≠ "java/lang/invoke/VarHandle" ∧ (parseMethodDescriptor m2.1.desc).map (fun d => d.parameters.length) = some na ∧ m2.2.2.1 ≤ 41
theorem zcats {B : Nat} : ∀ (r : List zV), ((r.map (zc B)).map fun v => v.category).sum ≤ 2 * r.length := by
  intro r
  induction r with
  | nil => exact Nat.le_refl _
  | cons a r ih =>
    rw [List.map_cons, List.map_cons, List.sum_cons, List.length_cons]
    have := lv_cat (zc B a)
    omega
/-- behind a call -/
theorem zback {m2 : zM} {mc2 ms2 x na : Nat} {rest : List zV} {av : List zV} {Q2 : zPo} {p : Program} {e : Env} {s : State} {m : MethodId} {args : Array Value} {below : List Frame} {meth : Method} {c : Code} {H : Heap} {locs : List Loc} {lsA : Array Slot} {g : JFrame}
    (F : zFix G mi p s m args meth c) (hZ : s.heap.size + k = G.2.1 + n ∧ k ≤ n) (hV : va_S (fun a => G.2.1 ≤ a) s.heap H locs) (hL : zLo G.2.1 mi.2.2.1 ls lsA) (hcs : k + mc2 ≤ mc) {a : Array Value}
    (hr : va_Run p G.1 e (zrm d mc ms) s m args below meth c H locs k q mc2 ms2 (F0 m pc lsA (st.map (zc G.2.1))) (rest.map (zc G.2.1)) (zQ G (n + mc2) Q2 a) (fun a => G.2.1 ≤ a))
    (kk : ∀ r I' R', Q2 r I' R' → WP G mi d mc ms (k + mc2) (q + ms2) (pc + 3) ls (r.toList.map .inl ++ rest) (n + mc2) I' R' Q) :
    W p G.1 e (zrm d mc ms) s m args below meth c H locs k q (MQ below (zQ G (n + (mc - k)) Q) args s mc ms (fun a => G.2.1 ≤ a)) (F0 m pc lsA (st.map (zc G.2.1))) := by
  intro T hT X
  obtain ⟨v, st₀, t, T', L, h0, X', hL2, e1, e2, ⟨⟨r, I', R', hv, hS', hK', hq⟩, hz, hkp⟩, stp⟩ := hr T hT X
  have hv : v = r.map (fun x => .int (Int32.ofInt x)) := by cases hv; rfl
  subst hv
  rw [h0] at hz hkp
  have hn : n + mc2 + (mc - (k + mc2)) = n + (mc - k) := by omega
  have h := kk r I' R' hq p e s m args below meth c T'.heap (locs ++ L) lsA F ⟨by omega, by omega⟩ (by rw [e1]; exact hS') ⟨Nat.le_trans hV.1 (by rw [e1]; exact hz), fun q h1 h2 => by rw [e1, hkp q (Nat.lt_of_lt_of_le h1 hV.1) h2]; exact hV.2.1 q h1 h2, fun q hq => by
      rcases List.mem_append.mp hq with h | h
      · exact hV.2.2 q h
      · exact hL2 q h⟩ hL
  rw [hn] at h
  obtain ⟨t2, a1, b1⟩ := h T' rfl X'
  refine ⟨t2, stp t2 ?_, b1⟩
  have he : ((r.toList.map (Sum.inl : Int → zV) ++ rest).map (zc G.2.1)) = (r.map (fun x => Value.int (Int32.ofInt x))).toList ++ rest.map (zc G.2.1) := by
    rw [List.map_append]
    cases r <;> rfl
  rw [he] at a1
  exact a1
theorem zpre_blind {av : List zV} : FrameBlind (va_Pc (av.map (zc G.2.1)) (fun U => U.heap.size = G.2.1 + n ∧ zSt G n I R U.heap ∧ zKn G U)) := fun a U g mk h => by
  obtain ⟨h0, h1, h2, h3⟩ := h
  exact ⟨h0, h1, h2, zKn.moved (u := U) (U := U.calling g mk a) h3 (Vm.Alike.refl U.vm)⟩
theorem wp_callV {x o na mc2 ms2 ci : Nat} {m2 : zM} {As rest : List zV} {Q2 : zPo} (hd : mi.2.2.2.2[t]? = some (pc, .invokevirtual x, 3)) (hl : zLk mi.1.cls x m2 na) (hn : As.length = na) (hst : st = As.reverse ++ zR o :: rest) (ho : o < n) (hk : (zlay o).1 = ci) (hci : ∃ T N, vwCl[ci]? = some (m2.1.cls, T, N)) (hr : rest.length ≤ 4) (hcs : k + mc2 ≤ mc ∧ q + ms2 ≤ ms)
    (hM : MT G m2 d mc2 ms2 (zR o :: As) n I R Q2) (kk : ∀ r I' R', Q2 r I' R' → WP G mi (d + 1) mc ms (k + mc2) (q + ms2) (pc + 3) ls (r.toList.map .inl ++ rest) (n + mc2) I' R' Q) : WP G mi (d + 1) mc ms k q pc ls st n I R Q := by
  intro p e s m args below meth c H locs lsA F hZ hS hV hL
  obtain ⟨hx, hb, hml, hown, hts, hr2, hlk, hnm, hK, hok⟩ := id F
  obtain ⟨l1, l2, l3, l4, l5, l6, l7, l8, l9⟩ := hl
  obtain ⟨T, N, hc⟩ := hci
  refine W_sized (fun hsz => ?_)
  have hsz := zsize hZ hS hV hsz
  have hG : GoodIn wsL_law (wsV mi.1.cls x m2.1.cls m2.1 (zws m2)) := by
    intro w hw
    unfold wsV zws at hw
    simp only [List.mem_append, List.mem_cons, List.not_mem_nil, or_false] at hw
    rcases hw with (rfl | rfl | rfl | rfl) | rfl | hw
    · exact zgood l1
    · exact zgood l2
    · exact zgood l3
    · exact zgood l4
    · exact zgood l5
    · exact zgood hw
  refine zback (m2 := m2) (x := x) (na := na) (av := []) (g := F0 m pc lsA []) F hZ hV hL hcs.1 (va_runV (As := As.map (zc G.2.1)) (b := G.2.1 + o) (n := na) (rm := zrm d mc2 ms2) ⟨hx, hb, hml, hown, hts⟩ hM (cwV na hts hG rfl rfl rfl ⟨rfl, l6, l7, l8⟩ ⟨Nat.le_refl _, by show 8 + (m2.2.2.1 + 11) + 60 * d ≤ 60 * (d + 1); omega⟩) ⟨zpre_blind, ?_, fun U hU hW => ⟨rfl, by rw [hU]; exact hsz, by rw [hU]; exact hS, hK.moved hW.alike⟩⟩ rfl (by rw [List.length_map]; exact hn) (hL.1) ?_ (lv_room (Nat.le_trans (zcats rest) (by omega))) (ztok_at hok hd) hcs) kk
  · exact va_recv hK.1 hS.1 (ci := ci) (q0 := o) hc (by rw [zW_get ho, zcell_o hk hc])
  · show st.map (zc G.2.1) = _
    rw [hst, List.map_append, List.map_reverse]
    rfl
theorem wp_callS {x na mc2 ms2 : Nat} {m2 : zM} {As rest : List zV} {Q2 : zPo} (hd : mi.2.2.2.2[t]? = some (pc, .invokestatic x, 3)) (hl : zLs mi.1.cls x m2 na) (hn : As.length = na) (hst : st = As.reverse ++ rest) (hr : rest.length ≤ 4) (hcs : k + mc2 ≤ mc ∧ q + ms2 ≤ ms)
    (hM : MT G m2 d mc2 ms2 As n I R Q2) (kk : ∀ r I' R', Q2 r I' R' → WP G mi (d + 1) mc ms (k + mc2) (q + ms2) (pc + 3) ls (r.toList.map .inl ++ rest) (n + mc2) I' R' Q) : WP G mi (d + 1) mc ms k q pc ls st n I R Q := by
  intro p e s m args below meth c H locs lsA F hZ hS hV hL
  obtain ⟨hx, hb, hml, hown, hts, hr2, hlk, hnm, hK, hok⟩ := id F
  obtain ⟨l1, l2, l4, l5, l3, l6, l7, l8, l9⟩ := hl
  refine W_sized (fun hsz => ?_)
  have hsz := zsize hZ hS hV hsz
  have hG : GoodIn wsL_law (wsS mi.1.cls x m2.1 (zws m2)) := by
    intro w hw
    unfold wsS zws at hw
    simp only [List.mem_append, List.mem_cons, List.not_mem_nil, or_false] at hw
    rcases hw with (rfl | rfl | rfl) | rfl | hw
    · exact zgood l1
    · exact zgood l2
    · exact zgood l4
    · exact zgood l5
    · exact zgood hw
  refine zback (m2 := m2) (x := x) (na := na) (av := []) (g := F0 m pc lsA []) F hZ hV hL hcs.1 (va_runS (As := As.map (zc G.2.1)) (n := na) (rm := zrm d mc2 ms2) ⟨hx, hb, hml, hown, hts⟩ hM (cwS na hts hG rfl rfl rfl ⟨l3, l6, l7, l8⟩ ⟨Nat.le_refl _, by show 8 + (m2.2.2.1 + 11) + 60 * d ≤ 60 * (d + 1); omega⟩) ⟨zpre_blind, fun U hU hW => ⟨rfl, by rw [hU]; exact hsz, by rw [hU]; exact hS, hK.moved hW.alike⟩⟩ rfl (by rw [List.length_map]; exact hn) (hL.1) ?_ (lv_room (Nat.le_trans (zcats rest) (by omega))) (ztok_at hok hd) hcs) kk
  show st.map (zc G.2.1) = _
  rw [hst, List.map_append, List.map_reverse]
-- Math.max, Math.min, System.arraycopy
def zLm (own : String) (x : Nat) (y : MethodName) : Prop := Cond.methodLink own x y ∈ wsL_law
theorem wp_max {x : Nat} {u v : Int} (hd : mi.2.2.2.2[t]? = some (pc, .invokestatic x, 3)) (hl : Cond.methodLink mi.1.cls x Lib.Math.max.name ∈ wsL_law) (hu : zin u) (hv : zin v) (hr : st.length ≤ 4) (hcs : k ≤ mc ∧ q ≤ ms) (kk : WP G mi (d + 1) mc ms k q (pc + 3) ls (.inl (max u v) :: st) n I R Q) : WP G mi (d + 1) mc ms k q pc ls (.inl v :: .inl u :: st) n I R Q := by
  intro p e s m args below meth c H locs lsA F hZ hS hV hL
  obtain ⟨hx, hb, hml, hown, hts, hr2, hlk, hnm, hK, hok⟩ := id F
  have h := kk p e s m args below meth c H locs lsA F hZ hS hV hL
  refine va_mmax hx hb (hml.trans hL.1.symm) hown (hts _ hl) (hts _ zmaxS) (hts _ zmathI) (hts _ zmaxC) (Nat.le_add_left 1 d) ?_ hcs.1 hcs.2 (ztok_at hok hd) ?_
  · have := zcats (B := G.2.1) st
    show _ + 13 ≤ 60 * (d + 1)
    omega
  · rw [show (if Int32.ofInt u < Int32.ofInt v then Int32.ofInt v else Int32.ofInt u) = Int32.ofInt (max u v) by
      by_cases hc : u < v
      · rw [if_pos ((z32_lt hu hv).mpr hc), show max u v = v by omega]
      · rw [if_neg (fun h => hc ((z32_lt hu hv).mp h)), show max u v = u by omega]]
    exact h
theorem wp_min {x : Nat} {u v : Int} (hd : mi.2.2.2.2[t]? = some (pc, .invokestatic x, 3)) (hl : Cond.methodLink mi.1.cls x Lib.Math.min.name ∈ wsL_law) (hu : zin u) (hv : zin v) (hr : st.length ≤ 4) (hcs : k ≤ mc ∧ q ≤ ms) (kk : WP G mi (d + 1) mc ms k q (pc + 3) ls (.inl (min u v) :: st) n I R Q) : WP G mi (d + 1) mc ms k q pc ls (.inl v :: .inl u :: st) n I R Q := by
  intro p e s m args below meth c H locs lsA F hZ hS hV hL
  obtain ⟨hx, hb, hml, hown, hts, hr2, hlk, hnm, hK, hok⟩ := id F
  have h := kk p e s m args below meth c H locs lsA F hZ hS hV hL
  refine va_mmin hx hb (hml.trans hL.1.symm) hown (hts _ hl) (hts _ zminS) (hts _ zmathI) (hts _ zminC) (Nat.le_add_left 1 d) ?_ hcs.1 hcs.2 (ztok_at hok hd) ?_
  · have := zcats (B := G.2.1) st
    show _ + 13 ≤ 60 * (d + 1)
    omega
  · rw [show (if Int32.ofInt v < Int32.ofInt u then Int32.ofInt v else Int32.ofInt u) = Int32.ofInt (min u v) by
      by_cases hc : v < u
      · rw [if_pos ((z32_lt hv hu).mpr hc), show min u v = v by omega]
      · rw [if_neg (fun h => hc ((z32_lt hv hu).mp h)), show min u v = u by omega]]
    exact h
/-- n ints of a from sp on, put into b from dp on -/
def zcp (I : zMem) (a : Nat) (sp : Int) (b : Nat) (dp m : Int) : zMem := fun c j => if c = b ∧ dp ≤ j ∧ j < dp + m then I a (sp + (j - dp)) else I c j
theorem wp_copy {x a b la lb : Nat} {sp dp m : Int} (hd : mi.2.2.2.2[t]? = some (pc, .invokestatic x, 3)) (hl : Cond.methodLink mi.1.cls x arraycopyName ∈ wsL_law) (ha : a < n) (hka : zlay a = (20, la)) (hb9 : b < n) (hkb : zlay b = (20, lb)) (hs0 : 0 ≤ sp) (hd0 : 0 ≤ dp) (hm0 : 0 ≤ m) (hs1 : sp + m ≤ la) (hd1 : dp + m ≤ lb) (hla : la < 2147483648) (hlb : lb < 2147483648) (hr : st.length ≤ 4) (kk : WP G mi (d + 1) mc ms k q (pc + 3) ls st n (zcp I a sp b dp m) R Q) : WP G mi (d + 1) mc ms k q pc ls (.inl m :: .inl dp :: zR b :: .inl sp :: zR a :: st) n I R Q := by
  intro p e s mm args below meth c H locs lsA F hZ hS hV hL
  obtain ⟨hx, hb, hml, hown, hts, hr2, hlk, hnm, hK, hok⟩ := id F
  have es := z32_nat hs0 (by omega)
  have ed := z32_nat hd0 (by omega)
  have em := z32_nat hm0 (by omega)
  have nz : ∀ z : Int, 0 ≤ z → z < 2147483648 → ¬ Int32.ofInt z < 0 := fun z h0 h1 h => by
    have := (z32_lt0 (by unfold zin; omega)).mp h
    omega
  refine va_copyi hx hb (hml.trans hL.1.symm) hown (hts _ hl) (hts _ zcopyN) (hts _ zcopyS) (hts _ zcopyI) hK.1 hS.1 zW_D hV a b 0 0 (by rw [zW_get ha, zcell_a hka]) (by rw [zW_get hb9, zcell_a hkb]) rfl rfl rfl (nz sp hs0 (by omega)) (nz dp hd0 (by omega)) (nz m hm0 (by omega)) (by rw [es, em]; omega) (by rw [ed, em]; omega) (fun _ _ => rfl) (Nat.le_add_left 1 d) ?_ (ztok_at hok hd) (fun H1 locs1 hP1 hD1 hV1 => ?_)
  · have := zcats (B := G.2.1) st
    have e9 : nativeFrameWords "java/lang/System" "arraycopy" 5 + 11 ≤ 40 := by decide
    show _ + _ ≤ 60 * (d + 1)
    omega
  rw [zW_set (I' := zcp I a sp b dp m) (R' := R) hb9 (by
    rw [zcell_a hkb]
    refine congrArg (fun z => (Sum.inl (G.2.2.2.1, lb, Sum.inl z) : va_E)) (funext fun j => ?_)
    rw [es, ed, em]
    unfold va_cpy zcp
    by_cases hj : dp.toNat ≤ j ∧ j < dp.toNat + m.toNat
    · rw [if_pos hj, if_pos ⟨rfl, by omega, by omega⟩]
      show Int32.ofInt (I a ((sp.toNat + (j - dp.toNat) : Nat) : Int)) = _
      rw [show ((sp.toNat + (j - dp.toNat) : Nat) : Int) = sp + ((j : Int) - dp) by omega]
    · rw [if_neg hj, if_neg (fun q9 => hj ⟨by omega, by omega⟩)]) (fun _ h => by
      funext j
      unfold zcp
      rw [if_neg (fun q9 => h q9.1)]) (fun _ _ => rfl)] at hP1
  exact kk p e s mm args below meth c H1 locs1 lsA F hZ ⟨hP1, fun c9 j => by
    unfold zcp
    split
    · exact hS.2 _ _
    · exact hS.2 _ _⟩ hV1 hL
end ZM
end
section
def mX9_init : zM := (yX9_init, cX9_init, 2, none, tX9_init)
def mX8_init : zM := (yX8_init, cX8_init, 1, none, tX8_init)
def mX4_init : zM := (yX4_init, cX4_init, 2, none, tX4_init)
def mX2_init : zM := (yX2_init, cX2_init, 1, none, tX2_init)
def mX3_init : zM := (yX3_init, cX3_init, 2, none, tX3_init)
def mX0_init : zM := (yX0_init, cX0_init, 2, none, tX0_init)
def mX5_init : zM := (yX5_init, cX5_init, 2, none, tX5_init)
def mX6_init : zM := (yX6_init, cX6_init, 2, none, tX6_init)
def mX1_init : zM := (yX1_init, cX1_init, 1, none, tX1_init)
def mX7_init : zM := (yX7_init, cX7_init, 2, none, tX7_init)
def mX8_add : zM := (yX8_add, cX8_add, 2, none, tX8_add)
def mX9_layText : zM := (yX9_layText, cX9_layText, 2, (some .int), tX9_layText)
def mX4_firstFault : zM := (yX4_firstFault, cX4_firstFault, 4, (some .int), tX4_firstFault)
def mX2_clear : zM := (yX2_clear, cX2_clear, 1, none, tX2_clear)
def mX4_readItem : zM := (yX4_readItem, cX4_readItem, 4, (some .boolean), tX4_readItem)
def mX8_letterAt : zM := (yX8_letterAt, cX8_letterAt, 2, (some .int), tX8_letterAt)
def mX4_readLines : zM := (yX4_readLines, cX4_readLines, 3, (some .boolean), tX4_readLines)
def mX4_number : zM := (yX4_number, cX4_number, 6, (some .int), tX4_number)
def mX8_figureAt : zM := (yX8_figureAt, cX8_figureAt, 3, (some .int), tX8_figureAt)
def mX4_readPower : zM := (yX4_readPower, cX4_readPower, 3, (some .boolean), tX4_readPower)
def mX4_readCore : zM := (yX4_readCore, cX4_readCore, 7, (some .boolean), tX4_readCore)
def mX4_row : zM := (yX4_row, cX4_row, 4, (some .int), tX4_row)
def mX4_readRule : zM := (yX4_readRule, cX4_readRule, 5, (some .boolean), tX4_readRule)
def mX2_layChains : zM := (yX2_layChains, cX2_layChains, 3, none, tX2_layChains)
def mX2_orderChains : zM := (yX2_orderChains, cX2_orderChains, 4, none, tX2_orderChains)
def mX2_layAt : zM := (yX2_layAt, cX2_layAt, 7, none, tX2_layAt)
def mX2_clearLoads : zM := (yX2_clearLoads, cX2_clearLoads, 2, none, tX2_clearLoads)
def mX2_leastLoaded : zM := (yX2_leastLoaded, cX2_leastLoaded, 4, (some .int), tX2_leastLoaded)
def mX3_startOver : zM := (yX3_startOver, cX3_startOver, 3, none, tX3_startOver)
def mX3_takeOff : zM := (yX3_takeOff, cX3_takeOff, 2, none, tX3_takeOff)
def mX5_forgetAll : zM := (yX5_forgetAll, cX5_forgetAll, 2, none, tX5_forgetAll)
def mX6_clear : zM := (yX6_clear, cX6_clear, 1, none, tX6_clear)
def mX1_clear : zM := (yX1_clear, cX1_clear, 1, none, tX1_clear)
def mX7_clear : zM := (yX7_clear, cX7_clear, 1, none, tX7_clear)
def mX8_clear : zM := (yX8_clear, cX8_clear, 1, none, tX8_clear)
def mX10_init : zM := (yX10_init, cX10_init, 1, none, tX10_init)
def mX10_tell : zM := (yX10_tell, cX10_tell, 11, none, tX10_tell)
def mX10_takeCores : zM := (yX10_takeCores, cX10_takeCores, 3, none, tX10_takeCores)
def mX9_write : zM := (yX9_write, cX9_write, 2, (some .int), tX9_write)
def mX10_write : zM := (yX10_write, cX10_write, 2, (some .int), tX10_write)
def mX10_in : zM := (yX10_in, cX10_in, 6, (some .boolean), tX10_in)
def mX9_wipe : zM := (yX9_wipe, cX9_wipe, 2, (some .int), tX9_wipe)
def mX10_wipe : zM := (yX10_wipe, cX10_wipe, 2, (some .int), tX10_wipe)
def mX9_fault : zM := (yX9_fault, cX9_fault, 1, (some .int), tX9_fault)
def mX10_fault : zM := (yX10_fault, cX10_fault, 2, (some .int), tX10_fault)
def mX10_takesItem : zM := (yX10_takesItem, cX10_takesItem, 3, (some .boolean), tX10_takesItem)
def mX10_letter : zM := (yX10_letter, cX10_letter, 1, (some .int), tX10_letter)
def mX10_takesNumber : zM := (yX10_takesNumber, cX10_takesNumber, 4, (some .boolean), tX10_takesNumber)
def mX10_isSign : zM := (yX10_isSign, cX10_isSign, 3, (some .boolean), tX10_isSign)
def mX10_takesCore : zM := (yX10_takesCore, cX10_takesCore, 2, (some .boolean), tX10_takesCore)
def mX10_takesRow : zM := (yX10_takesRow, cX10_takesRow, 3, (some .boolean), tX10_takesRow)
def mX10_takesRule : zM := (yX10_takesRule, cX10_takesRule, 1, (some .boolean), tX10_takesRule)
def mX9_lay : zM := (yX9_lay, cX9_lay, 1, (some .int), tX9_lay)
def mX10_lay : zM := (yX10_lay, cX10_lay, 2, (some .int), tX10_lay)
def mX9_core : zM := (yX9_core, cX9_core, 3, (some .int), tX9_core)
def mX9_isCore : zM := (yX9_isCore, cX9_isCore, 2, (some .boolean), tX9_isCore)
def mX3_isPut : zM := (yX3_isPut, cX3_isPut, 2, (some .boolean), tX3_isPut)
def mX3_stairs : zM := (yX3_stairs, cX3_stairs, 5, (some .int), tX3_stairs)
def mX3_takes : zM := (yX3_takes, cX3_takes, 3, (some .int), tX3_takes)
def mX2_takes : zM := (yX2_takes, cX2_takes, 8, (some .int), tX2_takes)
def mX10_core : zM := (yX10_core, cX10_core, 3, (some .int), tX10_core)
def mX10_isCore : zM := (yX10_isCore, cX10_isCore, 2, (some .boolean), tX10_isCore)
def mX10_isPut : zM := (yX10_isPut, cX10_isPut, 2, (some .boolean), tX10_isPut)
def mX10_stairsOf : zM := (yX10_stairsOf, cX10_stairsOf, 5, (some .int), tX10_stairsOf)
def mX10_layTakes : zM := (yX10_layTakes, cX10_layTakes, 3, none, tX10_layTakes)
def mX10_takesBy : zM := (yX10_takesBy, cX10_takesBy, 8, (some .int), tX10_takesBy)
def mX10_wrapOf : zM := (yX10_wrapOf, cX10_wrapOf, 8, (some .int), tX10_wrapOf)
def mX9_chain : zM := (yX9_chain, cX9_chain, 3, (some .int), tX9_chain)
def mX10_chain : zM := (yX10_chain, cX10_chain, 3, (some .int), tX10_chain)
def mX9_wrap : zM := (yX9_wrap, cX9_wrap, 4, (some .int), tX9_wrap)
def mX9_isWidth : zM := (yX9_isWidth, cX9_isWidth, 2, (some .boolean), tX9_isWidth)
def mX2_idealLoad : zM := (yX2_idealLoad, cX2_idealLoad, 3, (some .int), tX2_idealLoad)
def mX2_leastLoad : zM := (yX2_leastLoad, cX2_leastLoad, 10, (some .int), tX2_leastLoad)
def mX10_wrap : zM := (yX10_wrap, cX10_wrap, 4, (some .int), tX10_wrap)
def mX10_isWidth : zM := (yX10_isWidth, cX10_isWidth, 2, (some .boolean), tX10_isWidth)
def mX10_idealOf : zM := (yX10_idealOf, cX10_idealOf, 12, (some .int), tX10_idealOf)
def mX9_line : zM := (yX9_line, cX9_line, 4, (some .int), tX9_line)
def mX10_line : zM := (yX10_line, cX10_line, 5, (some .int), tX10_line)
def mX9_put : zM := (yX9_put, cX9_put, 5, (some .int), tX9_put)
def mX9_isCycle : zM := (yX9_isCycle, cX9_isCycle, 1, (some .boolean), tX9_isCycle)
def mX3_reason : zM := (yX3_reason, cX3_reason, 5, (some .int), tX3_reason)
def mX3_notDoneAhead : zM := (yX3_notDoneAhead, cX3_notDoneAhead, 4, (some .int), tX3_notDoneAhead)
def mX3_begunBehind : zM := (yX3_begunBehind, cX3_begunBehind, 4, (some .int), tX3_begunBehind)
def mX3_firstOver : zM := (yX3_firstOver, cX3_firstOver, 9, (some .int), tX3_firstOver)
def mX3_used : zM := (yX3_used, cX3_used, 5, (some .int), tX3_used)
def mX3_toldBy : zM := (yX3_toldBy, cX3_toldBy, 6, (some .int), tX3_toldBy)
def mX1_ofPut : zM := (yX1_ofPut, cX1_ofPut, 4, none, tX1_ofPut)
def mX1_addThree : zM := (yX1_addThree, cX1_addThree, 4, none, tX1_addThree)
def mX9_remember : zM := (yX9_remember, cX9_remember, 1, none, tX9_remember)
def mX3_writeTo : zM := (yX3_writeTo, cX3_writeTo, 2, none, tX3_writeTo)
def mX6_push : zM := (yX6_push, cX6_push, 4, none, tX6_push)
def mX3_place : zM := (yX3_place, cX3_place, 4, none, tX3_place)
def mX3_length : zM := (yX3_length, cX3_length, 3, (some .int), tX3_length)
def mX10_put : zM := (yX10_put, cX10_put, 4, (some .int), tX10_put)
def mX10_judge : zM := (yX10_judge, cX10_judge, 7, (some .int), tX10_judge)
def mX10_isAhead : zM := (yX10_isAhead, cX10_isAhead, 6, (some .boolean), tX10_isAhead)
def mX10_endOf : zM := (yX10_endOf, cX10_endOf, 2, (some .int), tX10_endOf)
def mX10_isTooMuch : zM := (yX10_isTooMuch, cX10_isTooMuch, 10, (some .boolean), tX10_isTooMuch)
def mX10_runsIn : zM := (yX10_runsIn, cX10_runsIn, 6, (some .int), tX10_runsIn)
def mX10_note : zM := (yX10_note, cX10_note, 2, none, tX10_note)
def mX10_putAt : zM := (yX10_putAt, cX10_putAt, 4, none, tX10_putAt)
def mX10_lengthOf : zM := (yX10_lengthOf, cX10_lengthOf, 3, (some .int), tX10_lengthOf)
def mX9_take : zM := (yX9_take, cX9_take, 2, (some .int), tX9_take)
def mX10_take : zM := (yX10_take, cX10_take, 2, (some .int), tX10_take)
def mX9_fill : zM := (yX9_fill, cX9_fill, 3, (some .int), tX9_fill)
def mX3_placeDoneFirst : zM := (yX3_placeDoneFirst, cX3_placeDoneFirst, 10, (some .boolean), tX3_placeDoneFirst)
def mX3_firstNotRefused : zM := (yX3_firstNotRefused, cX3_firstNotRefused, 8, (some .int), tX3_firstNotRefused)
def mX9_stuck : zM := (yX9_stuck, cX9_stuck, 5, none, tX9_stuck)
def mX1_ofFill : zM := (yX1_ofFill, cX1_ofFill, 5, none, tX1_ofFill)
def mX3_readFrom : zM := (yX3_readFrom, cX3_readFrom, 2, none, tX3_readFrom)
def mX10_fill : zM := (yX10_fill, cX10_fill, 3, (some .int), tX10_fill)
def mX10_putAside : zM := (yX10_putAside, cX10_putAside, 3, none, tX10_putAside)
def mX10_nextCore : zM := (yX10_nextCore, cX10_nextCore, 4, (some .int), tX10_nextCore)
def mX10_fills : zM := (yX10_fills, cX10_fills, 8, (some .boolean), tX10_fills)
def mX10_soonestOf : zM := (yX10_soonestOf, cX10_soonestOf, 7, (some .int), tX10_soonestOf)
def mX10_keepFilled : zM := (yX10_keepFilled, cX10_keepFilled, 2, none, tX10_keepFilled)
def mX9_rename : zM := (yX9_rename, cX9_rename, 4, (some .int), tX9_rename)
def mX10_rename : zM := (yX10_rename, cX10_rename, 4, (some .int), tX10_rename)
def mX9_undo : zM := (yX9_undo, cX9_undo, 1, (some .int), tX9_undo)
def mX6_popInto : zM := (yX6_popInto, cX6_popInto, 2, (some .boolean), tX6_popInto)
def mX10_undo : zM := (yX10_undo, cX10_undo, 2, (some .int), tX10_undo)
def mX9_why : zM := (yX9_why, cX9_why, 2, (some .int), tX9_why)
def mX1_number : zM := (yX1_number, cX1_number, 2, (some .int), tX1_number)
def mX10_why : zM := (yX10_why, cX10_why, 2, (some .int), tX10_why)
def mX9_soonest : zM := (yX9_soonest, cX9_soonest, 3, (some .int), tX9_soonest)
def mX10_soonest : zM := (yX10_soonest, cX10_soonest, 3, (some .int), tX10_soonest)
def mX9_runs : zM := (yX9_runs, cX9_runs, 3, (some .int), tX9_runs)
def mX10_runs : zM := (yX10_runs, cX10_runs, 3, (some .int), tX10_runs)
def mX9_bound : zM := (yX9_bound, cX9_bound, 2, (some .int), tX9_bound)
def mX0_area : zM := (yX0_area, cX0_area, 6, (some .int), tX0_area)
def mX0_upward : zM := (yX0_upward, cX0_upward, 2, (some .int), tX0_upward)
def mX0_path : zM := (yX0_path, cX0_path, 6, (some .int), tX0_path)
def mX3_leastTaken : zM := (yX3_leastTaken, cX3_leastTaken, 4, (some .int), tX3_leastTaken)
def mX0_drawn : zM := (yX0_drawn, cX0_drawn, 4, (some .int), tX0_drawn)
def mX0_greatest : zM := (yX0_greatest, cX0_greatest, 2, (some .int), tX0_greatest)
def mX10_bound : zM := (yX10_bound, cX10_bound, 6, (some .int), tX10_bound)
def mX10_areaOf : zM := (yX10_areaOf, cX10_areaOf, 6, (some .int), tX10_areaOf)
def mX10_upward : zM := (yX10_upward, cX10_upward, 2, (some .int), tX10_upward)
def mX10_pathOf : zM := (yX10_pathOf, cX10_pathOf, 5, (some .int), tX10_pathOf)
def mX10_leastTakes : zM := (yX10_leastTakes, cX10_leastTakes, 4, (some .int), tX10_leastTakes)
def mX10_drawnOf : zM := (yX10_drawnOf, cX10_drawnOf, 3, (some .int), tX10_drawnOf)
def mX9_best : zM := (yX9_best, cX9_best, 3, (some .int), tX9_best)
def mX5_leastLength : zM := (yX5_leastLength, cX5_leastLength, 5, (some .int), tX5_leastLength)
def mX5_tryAll : zM := (yX5_tryAll, cX5_tryAll, 5, none, tX5_tryAll)
def mX5_placedAt : zM := (yX5_placedAt, cX5_placedAt, 2, (some .int), tX5_placedAt)
def mX10_best : zM := (yX10_best, cX10_best, 3, (some .int), tX10_best)
def mX10_bestBy : zM := (yX10_bestBy, cX10_bestBy, 5, (some .int), tX10_bestBy)
def mX10_goOrder : zM := (yX10_goOrder, cX10_goOrder, 3, (some .int), tX10_goOrder)
def mX10_nextOrder : zM := (yX10_nextOrder, cX10_nextOrder, 5, (some .boolean), tX10_nextOrder)
def mX10_swap : zM := (yX10_swap, cX10_swap, 4, none, tX10_swap)
def mX9_costs : zM := (yX9_costs, cX9_costs, 4, (some .int), tX9_costs)
def mX10_costs : zM := (yX10_costs, cX10_costs, 3, (some .int), tX10_costs)
def mX9_seen : zM := (yX9_seen, cX9_seen, 4, (some .int), tX9_seen)
def mX7_add : zM := (yX7_add, cX7_add, 4, none, tX7_add)
def mX10_seen : zM := (yX10_seen, cX10_seen, 4, (some .int), tX10_seen)
def mX9_forget : zM := (yX9_forget, cX9_forget, 2, (some .int), tX9_forget)
def mX10_forget : zM := (yX10_forget, cX10_forget, 2, (some .int), tX10_forget)
def mX9_kinds : zM := (yX9_kinds, cX9_kinds, 2, (some .int), tX9_kinds)
def mX7_kindsOf : zM := (yX7_kindsOf, cX7_kindsOf, 4, (some .int), tX7_kindsOf)
def mX7_agree : zM := (yX7_agree, cX7_agree, 4, (some .boolean), tX7_agree)
def mX10_kinds : zM := (yX10_kinds, cX10_kinds, 6, (some .int), tX10_kinds)
def mX9_keep : zM := (yX9_keep, cX9_keep, 1, (some .int), tX9_keep)
def mX10_keep : zM := (yX10_keep, cX10_keep, 2, (some .int), tX10_keep)
def mX9_back : zM := (yX9_back, cX9_back, 1, (some .int), tX9_back)
def mX10_back : zM := (yX10_back, cX10_back, 2, (some .int), tX10_back)
def mX9_count : zM := (yX9_count, cX9_count, 2, (some .int), tX9_count)
def mX3_manyPut : zM := (yX3_manyPut, cX3_manyPut, 3, (some .int), tX3_manyPut)
def mX10_count : zM := (yX10_count, cX10_count, 2, (some .int), tX10_count)
def mX10_putMany : zM := (yX10_putMany, cX10_putMany, 3, (some .int), tX10_putMany)
def mX10_lengthNow : zM := (yX10_lengthNow, cX10_lengthNow, 1, (some .int), tX10_lengthNow)
theorem fX9_12 : zFd RX9 12 9 0 := ⟨RX9, TX9, 12, rfl, by decide, inlX9, wsL_law_r1_l (List.mem_of_getElem? (i := 15) rfl)⟩
theorem fX9_21 : zFd RX9 21 9 1 := ⟨RX9, TX9, 12, rfl, by decide, inlX9, wsL_law_r1_l (List.mem_of_getElem? (i := 19) rfl)⟩
theorem fX9_28 : zFd RX9 28 9 2 := ⟨RX9, TX9, 12, rfl, by decide, inlX9, wsL_law_r1_l (List.mem_of_getElem? (i := 23) rfl)⟩
theorem fX9_32 : zFd RX9 32 9 3 := ⟨RX9, TX9, 12, rfl, by decide, inlX9, wsL_law_r2_l (List.mem_of_getElem? (i := 0) rfl)⟩
theorem fX9_40 : zFd RX9 40 9 4 := ⟨RX9, TX9, 12, rfl, by decide, inlX9, wsL_law_r2_l (List.mem_of_getElem? (i := 4) rfl)⟩
theorem fX9_47 : zFd RX9 47 9 5 := ⟨RX9, TX9, 12, rfl, by decide, inlX9, wsL_law_r2_l (List.mem_of_getElem? (i := 8) rfl)⟩
theorem fX9_54 : zFd RX9 54 9 6 := ⟨RX9, TX9, 12, rfl, by decide, inlX9, wsL_law_r2_l (List.mem_of_getElem? (i := 12) rfl)⟩
theorem fX9_58 : zFd RX9 58 9 7 := ⟨RX9, TX9, 12, rfl, by decide, inlX9, wsL_law_r2_l (List.mem_of_getElem? (i := 14) rfl)⟩
theorem fX9_67 : zFd RX9 67 9 8 := ⟨RX9, TX9, 12, rfl, by decide, inlX9, wsL_law_r2_l (List.mem_of_getElem? (i := 18) rfl)⟩
theorem fX9_71 : zFd RX9 71 9 9 := ⟨RX9, TX9, 12, rfl, by decide, inlX9, wsL_law_r2_l (List.mem_of_getElem? (i := 19) rfl)⟩
theorem fX9_77 : zFd RX9 77 9 10 := ⟨RX9, TX9, 12, rfl, by decide, inlX9, wsL_law_r2_l (List.mem_of_getElem? (i := 23) rfl)⟩
theorem fX9_84 : zFd RX9 84 9 11 := ⟨RX9, TX9, 12, rfl, by decide, inlX9, wsL_law_r3_l (List.mem_of_getElem? (i := 3) rfl)⟩
theorem fX8_9 : zFd RX8 9 8 0 := ⟨RX8, TX8, 2, rfl, by decide, inlX8, wsL_law_r3_l (List.mem_of_getElem? (i := 7) rfl)⟩
theorem fX8_15 : zFd RX8 15 8 1 := ⟨RX8, TX8, 2, rfl, by decide, inlX8, wsL_law_r3_l (List.mem_of_getElem? (i := 8) rfl)⟩
theorem fX4_9 : zFd RX4 9 4 1 := ⟨RX4, TX4, 2, rfl, by decide, inlX4, wsL_law_r3_l (List.mem_of_getElem? (i := 13) rfl)⟩
theorem fX4_15 : zFd RX4 15 4 0 := ⟨RX4, TX4, 2, rfl, by decide, inlX4, wsL_law_r3_l (List.mem_of_getElem? (i := 14) rfl)⟩
theorem fX2_9 : zFd RX2 9 2 4 := ⟨RX2, TX2, 15, rfl, by decide, inlX2, wsL_law_r3_l (List.mem_of_getElem? (i := 18) rfl)⟩
theorem fX2_15 : zFd RX2 15 2 5 := ⟨RX2, TX2, 15, rfl, by decide, inlX2, wsL_law_r3_l (List.mem_of_getElem? (i := 19) rfl)⟩
theorem fX2_18 : zFd RX2 18 2 6 := ⟨RX2, TX2, 15, rfl, by decide, inlX2, wsL_law_r3_l (List.mem_of_getElem? (i := 20) rfl)⟩
theorem fX2_21 : zFd RX2 21 2 7 := ⟨RX2, TX2, 15, rfl, by decide, inlX2, wsL_law_r3_l (List.mem_of_getElem? (i := 21) rfl)⟩
theorem fX2_26 : zFd RX2 26 2 8 := ⟨RX2, TX2, 15, rfl, by decide, inlX2, wsL_law_r3_l (List.mem_of_getElem? (i := 23) rfl)⟩
theorem fX2_29 : zFd RX2 29 2 9 := ⟨RX2, TX2, 15, rfl, by decide, inlX2, wsL_law_r4_l (List.mem_of_getElem? (i := 0) rfl)⟩
theorem fX2_32 : zFd RX2 32 2 10 := ⟨RX2, TX2, 15, rfl, by decide, inlX2, wsL_law_r4_l (List.mem_of_getElem? (i := 1) rfl)⟩
theorem fX2_35 : zFd RX2 35 2 11 := ⟨RX2, TX2, 15, rfl, by decide, inlX2, wsL_law_r4_l (List.mem_of_getElem? (i := 2) rfl)⟩
theorem fX2_38 : zFd RX2 38 2 12 := ⟨RX2, TX2, 15, rfl, by decide, inlX2, wsL_law_r4_l (List.mem_of_getElem? (i := 3) rfl)⟩
theorem fX2_41 : zFd RX2 41 2 13 := ⟨RX2, TX2, 15, rfl, by decide, inlX2, wsL_law_r4_l (List.mem_of_getElem? (i := 4) rfl)⟩
theorem fX2_44 : zFd RX2 44 2 14 := ⟨RX2, TX2, 15, rfl, by decide, inlX2, wsL_law_r4_l (List.mem_of_getElem? (i := 5) rfl)⟩
theorem fX3_9 : zFd RX3 9 3 1 := ⟨RX3, TX3, 6, rfl, by decide, inlX3, wsL_law_r4_l (List.mem_of_getElem? (i := 10) rfl)⟩
theorem fX3_15 : zFd RX3 15 3 2 := ⟨RX3, TX3, 6, rfl, by decide, inlX3, wsL_law_r4_l (List.mem_of_getElem? (i := 11) rfl)⟩
theorem fX3_18 : zFd RX3 18 3 3 := ⟨RX3, TX3, 6, rfl, by decide, inlX3, wsL_law_r4_l (List.mem_of_getElem? (i := 12) rfl)⟩
theorem fX3_21 : zFd RX3 21 3 4 := ⟨RX3, TX3, 6, rfl, by decide, inlX3, wsL_law_r4_l (List.mem_of_getElem? (i := 13) rfl)⟩
theorem fX3_24 : zFd RX3 24 3 5 := ⟨RX3, TX3, 6, rfl, by decide, inlX3, wsL_law_r4_l (List.mem_of_getElem? (i := 14) rfl)⟩
theorem fX3_27 : zFd RX3 27 3 0 := ⟨RX3, TX3, 6, rfl, by decide, inlX3, wsL_law_r4_l (List.mem_of_getElem? (i := 15) rfl)⟩
theorem fX0_9 : zFd RX0 9 0 1 := ⟨RX0, TX0, 2, rfl, by decide, inlX0, wsL_law_r4_l (List.mem_of_getElem? (i := 20) rfl)⟩
theorem fX0_15 : zFd RX0 15 0 0 := ⟨RX0, TX0, 2, rfl, by decide, inlX0, wsL_law_r4_l (List.mem_of_getElem? (i := 21) rfl)⟩
theorem fX5_9 : zFd RX5 9 5 3 := ⟨RX5, TX5, 10, rfl, by decide, inlX5, wsL_law_r5_l (List.mem_of_getElem? (i := 2) rfl)⟩
theorem fX5_17 : zFd RX5 17 5 4 := ⟨RX5, TX5, 10, rfl, by decide, inlX5, wsL_law_r5_l (List.mem_of_getElem? (i := 4) rfl)⟩
theorem fX5_20 : zFd RX5 20 5 5 := ⟨RX5, TX5, 10, rfl, by decide, inlX5, wsL_law_r5_l (List.mem_of_getElem? (i := 5) rfl)⟩
theorem fX5_23 : zFd RX5 23 5 6 := ⟨RX5, TX5, 10, rfl, by decide, inlX5, wsL_law_r5_l (List.mem_of_getElem? (i := 6) rfl)⟩
theorem fX5_26 : zFd RX5 26 5 7 := ⟨RX5, TX5, 10, rfl, by decide, inlX5, wsL_law_r5_l (List.mem_of_getElem? (i := 7) rfl)⟩
theorem fX5_31 : zFd RX5 31 5 8 := ⟨RX5, TX5, 10, rfl, by decide, inlX5, wsL_law_r5_l (List.mem_of_getElem? (i := 9) rfl)⟩
theorem fX5_34 : zFd RX5 34 5 9 := ⟨RX5, TX5, 10, rfl, by decide, inlX5, wsL_law_r5_l (List.mem_of_getElem? (i := 10) rfl)⟩
theorem fX5_37 : zFd RX5 37 5 0 := ⟨RX5, TX5, 10, rfl, by decide, inlX5, wsL_law_r5_l (List.mem_of_getElem? (i := 11) rfl)⟩
theorem fX5_46 : zFd RX5 46 5 1 := ⟨RX5, TX5, 10, rfl, by decide, inlX5, wsL_law_r5_l (List.mem_of_getElem? (i := 13) rfl)⟩
theorem fX5_53 : zFd RX5 53 5 2 := ⟨RX5, TX5, 10, rfl, by decide, inlX5, wsL_law_r5_l (List.mem_of_getElem? (i := 15) rfl)⟩
theorem fX6_9 : zFd RX6 9 6 1 := ⟨RX6, TX6, 2, rfl, by decide, inlX6, wsL_law_r5_l (List.mem_of_getElem? (i := 22) rfl)⟩
theorem fX6_23 : zFd RX6 23 6 0 := ⟨RX6, TX6, 2, rfl, by decide, inlX6, wsL_law_r6_l (List.mem_of_getElem? (i := 4) rfl)⟩
theorem fX1_9 : zFd RX1 9 1 0 := ⟨RX1, TX1, 2, rfl, by decide, inlX1, wsL_law_r6_l (List.mem_of_getElem? (i := 8) rfl)⟩
theorem fX1_15 : zFd RX1 15 1 1 := ⟨RX1, TX1, 2, rfl, by decide, inlX1, wsL_law_r6_l (List.mem_of_getElem? (i := 9) rfl)⟩
theorem fX7_9 : zFd RX7 9 7 1 := ⟨RX7, TX7, 5, rfl, by decide, inlX7, wsL_law_r6_l (List.mem_of_getElem? (i := 14) rfl)⟩
theorem fX7_15 : zFd RX7 15 7 2 := ⟨RX7, TX7, 5, rfl, by decide, inlX7, wsL_law_r6_l (List.mem_of_getElem? (i := 15) rfl)⟩
theorem fX7_18 : zFd RX7 18 7 3 := ⟨RX7, TX7, 5, rfl, by decide, inlX7, wsL_law_r6_l (List.mem_of_getElem? (i := 16) rfl)⟩
theorem fX7_21 : zFd RX7 21 7 4 := ⟨RX7, TX7, 5, rfl, by decide, inlX7, wsL_law_r6_l (List.mem_of_getElem? (i := 17) rfl)⟩
theorem fX7_25 : zFd RX7 25 7 0 := ⟨RX7, TX7, 5, rfl, by decide, inlX7, wsL_law_r6_l (List.mem_of_getElem? (i := 18) rfl)⟩
theorem fX9_194 : zFd RX9 194 2 2 := ⟨RX2, TX2, 15, rfl, by decide, inlX2, wsL_law_r9_l (List.mem_of_getElem? (i := 4) rfl)⟩
theorem fX9_120 : zFd RX9 120 3 1 := ⟨RX3, TX3, 6, rfl, by decide, inlX3, wsL_law_r9_l (List.mem_of_getElem? (i := 5) rfl)⟩
theorem fX9_276 : zFd RX9 276 2 4 := ⟨RX2, TX2, 15, rfl, by decide, inlX2, wsL_law_r9_l (List.mem_of_getElem? (i := 6) rfl)⟩
theorem fX4_24 : zFd RX4 24 8 1 := ⟨RX8, TX8, 2, rfl, by decide, inlX8, wsL_law_r9_l (List.mem_of_getElem? (i := 11) rfl)⟩
theorem fX2_47 : zFd RX2 47 2 0 := ⟨RX2, TX2, 15, rfl, by decide, inlX2, wsL_law_r9_l (List.mem_of_getElem? (i := 16) rfl)⟩
theorem fX2_51 : zFd RX2 51 2 1 := ⟨RX2, TX2, 15, rfl, by decide, inlX2, wsL_law_r9_l (List.mem_of_getElem? (i := 17) rfl)⟩
theorem fX2_54 : zFd RX2 54 2 2 := ⟨RX2, TX2, 15, rfl, by decide, inlX2, wsL_law_r9_l (List.mem_of_getElem? (i := 18) rfl)⟩
theorem fX2_57 : zFd RX2 57 2 3 := ⟨RX2, TX2, 15, rfl, by decide, inlX2, wsL_law_r9_l (List.mem_of_getElem? (i := 19) rfl)⟩
theorem fX4_53 : zFd RX4 53 2 0 := ⟨RX2, TX2, 15, rfl, by decide, inlX2, wsL_law_r10_l (List.mem_of_getElem? (i := 8) rfl)⟩
theorem fX4_56 : zFd RX4 56 2 1 := ⟨RX2, TX2, 15, rfl, by decide, inlX2, wsL_law_r10_l (List.mem_of_getElem? (i := 21) rfl)⟩
theorem fX4_59 : zFd RX4 59 2 2 := ⟨RX2, TX2, 15, rfl, by decide, inlX2, wsL_law_r11_l (List.mem_of_getElem? (i := 2) rfl)⟩
theorem fX4_62 : zFd RX4 62 2 8 := ⟨RX2, TX2, 15, rfl, by decide, inlX2, wsL_law_r11_l (List.mem_of_getElem? (i := 3) rfl)⟩
theorem fX4_70 : zFd RX4 70 2 4 := ⟨RX2, TX2, 15, rfl, by decide, inlX2, wsL_law_r11_l (List.mem_of_getElem? (i := 4) rfl)⟩
theorem fX4_74 : zFd RX4 74 2 5 := ⟨RX2, TX2, 15, rfl, by decide, inlX2, wsL_law_r11_l (List.mem_of_getElem? (i := 5) rfl)⟩
theorem fX4_77 : zFd RX4 77 2 6 := ⟨RX2, TX2, 15, rfl, by decide, inlX2, wsL_law_r11_l (List.mem_of_getElem? (i := 6) rfl)⟩
theorem fX4_80 : zFd RX4 80 2 7 := ⟨RX2, TX2, 15, rfl, by decide, inlX2, wsL_law_r11_l (List.mem_of_getElem? (i := 7) rfl)⟩
theorem fX4_83 : zFd RX4 83 2 3 := ⟨RX2, TX2, 15, rfl, by decide, inlX2, wsL_law_r11_l (List.mem_of_getElem? (i := 16) rfl)⟩
theorem fX4_86 : zFd RX4 86 2 9 := ⟨RX2, TX2, 15, rfl, by decide, inlX2, wsL_law_r11_l (List.mem_of_getElem? (i := 17) rfl)⟩
theorem fX4_89 : zFd RX4 89 2 10 := ⟨RX2, TX2, 15, rfl, by decide, inlX2, wsL_law_r11_l (List.mem_of_getElem? (i := 18) rfl)⟩
theorem fX3_35 : zFd RX3 35 2 3 := ⟨RX2, TX2, 15, rfl, by decide, inlX2, wsL_law_r12_l (List.mem_of_getElem? (i := 20) rfl)⟩
theorem fX3_41 : zFd RX3 41 2 10 := ⟨RX2, TX2, 15, rfl, by decide, inlX2, wsL_law_r12_l (List.mem_of_getElem? (i := 21) rfl)⟩
theorem fX3_44 : zFd RX3 44 2 9 := ⟨RX2, TX2, 15, rfl, by decide, inlX2, wsL_law_r12_l (List.mem_of_getElem? (i := 22) rfl)⟩
theorem fX10_7 : zFd RX10 7 10 4 := ⟨RX10, TX10, 44, rfl, by decide, inlX10, wsL_law_r14_l (List.mem_of_getElem? (i := 3) rfl)⟩
theorem fX10_13 : zFd RX10 13 10 5 := ⟨RX10, TX10, 44, rfl, by decide, inlX10, wsL_law_r14_l (List.mem_of_getElem? (i := 4) rfl)⟩
theorem fX10_16 : zFd RX10 16 10 6 := ⟨RX10, TX10, 44, rfl, by decide, inlX10, wsL_law_r14_l (List.mem_of_getElem? (i := 5) rfl)⟩
theorem fX10_19 : zFd RX10 19 10 7 := ⟨RX10, TX10, 44, rfl, by decide, inlX10, wsL_law_r14_l (List.mem_of_getElem? (i := 6) rfl)⟩
theorem fX10_22 : zFd RX10 22 10 8 := ⟨RX10, TX10, 44, rfl, by decide, inlX10, wsL_law_r14_l (List.mem_of_getElem? (i := 7) rfl)⟩
theorem fX10_25 : zFd RX10 25 10 9 := ⟨RX10, TX10, 44, rfl, by decide, inlX10, wsL_law_r14_l (List.mem_of_getElem? (i := 8) rfl)⟩
theorem fX10_28 : zFd RX10 28 10 10 := ⟨RX10, TX10, 44, rfl, by decide, inlX10, wsL_law_r14_l (List.mem_of_getElem? (i := 9) rfl)⟩
theorem fX10_31 : zFd RX10 31 10 11 := ⟨RX10, TX10, 44, rfl, by decide, inlX10, wsL_law_r14_l (List.mem_of_getElem? (i := 10) rfl)⟩
theorem fX10_34 : zFd RX10 34 10 13 := ⟨RX10, TX10, 44, rfl, by decide, inlX10, wsL_law_r14_l (List.mem_of_getElem? (i := 11) rfl)⟩
theorem fX10_37 : zFd RX10 37 10 15 := ⟨RX10, TX10, 44, rfl, by decide, inlX10, wsL_law_r14_l (List.mem_of_getElem? (i := 12) rfl)⟩
theorem fX10_40 : zFd RX10 40 10 17 := ⟨RX10, TX10, 44, rfl, by decide, inlX10, wsL_law_r14_l (List.mem_of_getElem? (i := 13) rfl)⟩
theorem fX10_43 : zFd RX10 43 10 19 := ⟨RX10, TX10, 44, rfl, by decide, inlX10, wsL_law_r14_l (List.mem_of_getElem? (i := 14) rfl)⟩
theorem fX10_46 : zFd RX10 46 10 27 := ⟨RX10, TX10, 44, rfl, by decide, inlX10, wsL_law_r14_l (List.mem_of_getElem? (i := 15) rfl)⟩
theorem fX10_49 : zFd RX10 49 10 28 := ⟨RX10, TX10, 44, rfl, by decide, inlX10, wsL_law_r14_l (List.mem_of_getElem? (i := 16) rfl)⟩
theorem fX10_52 : zFd RX10 52 10 29 := ⟨RX10, TX10, 44, rfl, by decide, inlX10, wsL_law_r14_l (List.mem_of_getElem? (i := 17) rfl)⟩
theorem fX10_55 : zFd RX10 55 10 30 := ⟨RX10, TX10, 44, rfl, by decide, inlX10, wsL_law_r14_l (List.mem_of_getElem? (i := 18) rfl)⟩
theorem fX10_58 : zFd RX10 58 10 31 := ⟨RX10, TX10, 44, rfl, by decide, inlX10, wsL_law_r14_l (List.mem_of_getElem? (i := 19) rfl)⟩
theorem fX10_61 : zFd RX10 61 10 32 := ⟨RX10, TX10, 44, rfl, by decide, inlX10, wsL_law_r14_l (List.mem_of_getElem? (i := 20) rfl)⟩
theorem fX10_64 : zFd RX10 64 10 33 := ⟨RX10, TX10, 44, rfl, by decide, inlX10, wsL_law_r14_l (List.mem_of_getElem? (i := 21) rfl)⟩
theorem fX10_67 : zFd RX10 67 10 34 := ⟨RX10, TX10, 44, rfl, by decide, inlX10, wsL_law_r14_l (List.mem_of_getElem? (i := 22) rfl)⟩
theorem fX10_70 : zFd RX10 70 10 35 := ⟨RX10, TX10, 44, rfl, by decide, inlX10, wsL_law_r14_l (List.mem_of_getElem? (i := 23) rfl)⟩
theorem fX10_73 : zFd RX10 73 10 36 := ⟨RX10, TX10, 44, rfl, by decide, inlX10, wsL_law_r15_l (List.mem_of_getElem? (i := 0) rfl)⟩
theorem fX10_76 : zFd RX10 76 10 39 := ⟨RX10, TX10, 44, rfl, by decide, inlX10, wsL_law_r15_l (List.mem_of_getElem? (i := 1) rfl)⟩
theorem fX10_79 : zFd RX10 79 10 40 := ⟨RX10, TX10, 44, rfl, by decide, inlX10, wsL_law_r15_l (List.mem_of_getElem? (i := 2) rfl)⟩
theorem fX10_82 : zFd RX10 82 10 41 := ⟨RX10, TX10, 44, rfl, by decide, inlX10, wsL_law_r15_l (List.mem_of_getElem? (i := 3) rfl)⟩
theorem fX10_85 : zFd RX10 85 10 42 := ⟨RX10, TX10, 44, rfl, by decide, inlX10, wsL_law_r15_l (List.mem_of_getElem? (i := 4) rfl)⟩
theorem fX10_88 : zFd RX10 88 10 43 := ⟨RX10, TX10, 44, rfl, by decide, inlX10, wsL_law_r15_l (List.mem_of_getElem? (i := 5) rfl)⟩
theorem fX10_91 : zFd RX10 91 10 0 := ⟨RX10, TX10, 44, rfl, by decide, inlX10, wsL_law_r15_l (List.mem_of_getElem? (i := 6) rfl)⟩
theorem fX10_95 : zFd RX10 95 10 1 := ⟨RX10, TX10, 44, rfl, by decide, inlX10, wsL_law_r15_l (List.mem_of_getElem? (i := 7) rfl)⟩
theorem fX10_112 : zFd RX10 112 10 25 := ⟨RX10, TX10, 44, rfl, by decide, inlX10, wsL_law_r15_l (List.mem_of_getElem? (i := 13) rfl)⟩
theorem fX10_115 : zFd RX10 115 10 2 := ⟨RX10, TX10, 44, rfl, by decide, inlX10, wsL_law_r15_l (List.mem_of_getElem? (i := 14) rfl)⟩
theorem fX10_121 : zFd RX10 121 10 3 := ⟨RX10, TX10, 44, rfl, by decide, inlX10, wsL_law_r15_l (List.mem_of_getElem? (i := 15) rfl)⟩
theorem fX9_109 : zFd RX9 109 8 1 := ⟨RX8, TX8, 2, rfl, by decide, inlX8, wsL_law_r16_l (List.mem_of_getElem? (i := 5) rfl)⟩
theorem fX10_134 : zFd RX10 134 10 20 := ⟨RX10, TX10, 44, rfl, by decide, inlX10, wsL_law_r16_l (List.mem_of_getElem? (i := 12) rfl)⟩
theorem fX10_137 : zFd RX10 137 10 21 := ⟨RX10, TX10, 44, rfl, by decide, inlX10, wsL_law_r17_l (List.mem_of_getElem? (i := 8) rfl)⟩
theorem fX10_169 : zFd RX10 169 10 23 := ⟨RX10, TX10, 44, rfl, by decide, inlX10, wsL_law_r17_l (List.mem_of_getElem? (i := 9) rfl)⟩
theorem fX10_172 : zFd RX10 172 10 24 := ⟨RX10, TX10, 44, rfl, by decide, inlX10, wsL_law_r17_l (List.mem_of_getElem? (i := 10) rfl)⟩
theorem fX10_166 : zFd RX10 166 10 26 := ⟨RX10, TX10, 44, rfl, by decide, inlX10, wsL_law_r17_l (List.mem_of_getElem? (i := 11) rfl)⟩
theorem fX10_144 : zFd RX10 144 10 22 := ⟨RX10, TX10, 44, rfl, by decide, inlX10, wsL_law_r17_l (List.mem_of_getElem? (i := 16) rfl)⟩
theorem fX10_188 : zFd RX10 188 10 12 := ⟨RX10, TX10, 44, rfl, by decide, inlX10, wsL_law_r19_l (List.mem_of_getElem? (i := 5) rfl)⟩
theorem fX10_191 : zFd RX10 191 10 14 := ⟨RX10, TX10, 44, rfl, by decide, inlX10, wsL_law_r19_l (List.mem_of_getElem? (i := 6) rfl)⟩
theorem fX10_194 : zFd RX10 194 10 16 := ⟨RX10, TX10, 44, rfl, by decide, inlX10, wsL_law_r19_l (List.mem_of_getElem? (i := 7) rfl)⟩
theorem fX10_197 : zFd RX10 197 10 18 := ⟨RX10, TX10, 44, rfl, by decide, inlX10, wsL_law_r19_l (List.mem_of_getElem? (i := 8) rfl)⟩
theorem fX9_123 : zFd RX9 123 2 5 := ⟨RX2, TX2, 15, rfl, by decide, inlX2, wsL_law_r19_l (List.mem_of_getElem? (i := 14) rfl)⟩
theorem fX9_126 : zFd RX9 126 2 6 := ⟨RX2, TX2, 15, rfl, by decide, inlX2, wsL_law_r19_l (List.mem_of_getElem? (i := 15) rfl)⟩
theorem fX9_129 : zFd RX9 129 2 7 := ⟨RX2, TX2, 15, rfl, by decide, inlX2, wsL_law_r19_l (List.mem_of_getElem? (i := 16) rfl)⟩
theorem fX9_135 : zFd RX9 135 3 2 := ⟨RX3, TX3, 6, rfl, by decide, inlX3, wsL_law_r19_l (List.mem_of_getElem? (i := 17) rfl)⟩
theorem fX9_138 : zFd RX9 138 3 3 := ⟨RX3, TX3, 6, rfl, by decide, inlX3, wsL_law_r19_l (List.mem_of_getElem? (i := 18) rfl)⟩
theorem fX3_55 : zFd RX3 55 2 0 := ⟨RX2, TX2, 15, rfl, by decide, inlX2, wsL_law_r20_l (List.mem_of_getElem? (i := 8) rfl)⟩
theorem fX9_145 : zFd RX9 145 2 8 := ⟨RX2, TX2, 15, rfl, by decide, inlX2, wsL_law_r22_l (List.mem_of_getElem? (i := 2) rfl)⟩
theorem fX9_152 : zFd RX9 152 2 11 := ⟨RX2, TX2, 15, rfl, by decide, inlX2, wsL_law_r22_l (List.mem_of_getElem? (i := 11) rfl)⟩
theorem fX9_260 : zFd RX9 260 2 0 := ⟨RX2, TX2, 15, rfl, by decide, inlX2, wsL_law_r22_l (List.mem_of_getElem? (i := 16) rfl)⟩
theorem fX9_162 : zFd RX9 162 2 12 := ⟨RX2, TX2, 15, rfl, by decide, inlX2, wsL_law_r23_l (List.mem_of_getElem? (i := 17) rfl)⟩
theorem fX3_86 : zFd RX3 86 2 1 := ⟨RX2, TX2, 15, rfl, by decide, inlX2, wsL_law_r24_l (List.mem_of_getElem? (i := 10) rfl)⟩
theorem fX3_73 : zFd RX3 73 2 6 := ⟨RX2, TX2, 15, rfl, by decide, inlX2, wsL_law_r24_l (List.mem_of_getElem? (i := 11) rfl)⟩
theorem fX3_63 : zFd RX3 63 2 2 := ⟨RX2, TX2, 15, rfl, by decide, inlX2, wsL_law_r24_l (List.mem_of_getElem? (i := 16) rfl)⟩
theorem fX10_251 : zFd RX10 251 10 37 := ⟨RX10, TX10, 44, rfl, by decide, inlX10, wsL_law_r27_l (List.mem_of_getElem? (i := 2) rfl)⟩
theorem fX10_234 : zFd RX10 234 10 38 := ⟨RX10, TX10, 44, rfl, by decide, inlX10, wsL_law_r27_l (List.mem_of_getElem? (i := 3) rfl)⟩
theorem fX9_213 : zFd RX9 213 6 1 := ⟨RX6, TX6, 2, rfl, by decide, inlX6, wsL_law_r31_l (List.mem_of_getElem? (i := 12) rfl)⟩
theorem fX9_216 : zFd RX9 216 1 1 := ⟨RX1, TX1, 2, rfl, by decide, inlX1, wsL_law_r32_l (List.mem_of_getElem? (i := 2) rfl)⟩
theorem fX0_19 : zFd RX0 19 2 2 := ⟨RX2, TX2, 15, rfl, by decide, inlX2, wsL_law_r33_l (List.mem_of_getElem? (i := 13) rfl)⟩
theorem fX0_26 : zFd RX0 26 2 0 := ⟨RX2, TX2, 15, rfl, by decide, inlX2, wsL_law_r33_l (List.mem_of_getElem? (i := 15) rfl)⟩
theorem fX0_43 : zFd RX0 43 3 5 := ⟨RX3, TX3, 6, rfl, by decide, inlX3, wsL_law_r34_l (List.mem_of_getElem? (i := 3) rfl)⟩
theorem fX0_53 : zFd RX0 53 2 6 := ⟨RX2, TX2, 15, rfl, by decide, inlX2, wsL_law_r34_l (List.mem_of_getElem? (i := 14) rfl)⟩
theorem fX0_56 : zFd RX0 56 2 1 := ⟨RX2, TX2, 15, rfl, by decide, inlX2, wsL_law_r34_l (List.mem_of_getElem? (i := 15) rfl)⟩
theorem fX5_57 : zFd RX5 57 2 2 := ⟨RX2, TX2, 15, rfl, by decide, inlX2, wsL_law_r36_l (List.mem_of_getElem? (i := 6) rfl)⟩
theorem fX5_62 : zFd RX5 62 2 6 := ⟨RX2, TX2, 15, rfl, by decide, inlX2, wsL_law_r36_l (List.mem_of_getElem? (i := 7) rfl)⟩
theorem fX5_65 : zFd RX5 65 2 1 := ⟨RX2, TX2, 15, rfl, by decide, inlX2, wsL_law_r36_l (List.mem_of_getElem? (i := 8) rfl)⟩
theorem fX5_68 : zFd RX5 68 3 1 := ⟨RX3, TX3, 6, rfl, by decide, inlX3, wsL_law_r36_l (List.mem_of_getElem? (i := 9) rfl)⟩
theorem fX5_89 : zFd RX5 89 3 5 := ⟨RX3, TX3, 6, rfl, by decide, inlX3, wsL_law_r36_l (List.mem_of_getElem? (i := 16) rfl)⟩
theorem fX5_96 : zFd RX5 96 3 4 := ⟨RX3, TX3, 6, rfl, by decide, inlX3, wsL_law_r36_l (List.mem_of_getElem? (i := 17) rfl)⟩
theorem fX9_248 : zFd RX9 248 2 3 := ⟨RX2, TX2, 15, rfl, by decide, inlX2, wsL_law_r38_l (List.mem_of_getElem? (i := 2) rfl)⟩
theorem fX9_252 : zFd RX9 252 7 4 := ⟨RX7, TX7, 5, rfl, by decide, inlX7, wsL_law_r38_l (List.mem_of_getElem? (i := 12) rfl)⟩
theorem fX9_263 : zFd RX9 263 2 1 := ⟨RX2, TX2, 15, rfl, by decide, inlX2, wsL_law_r40_l (List.mem_of_getElem? (i := 19) rfl)⟩
theorem kX9_100 : zLk RX9 100 mX8_add 1 := ⟨wsL_law_r8_l (List.mem_of_getElem? (i := 20) rfl), wsL_law_r8_l (List.mem_of_getElem? (i := 21) rfl), wsL_law_r8_l (List.mem_of_getElem? (i := 22) rfl), wsL_law_r1_l (List.mem_of_getElem? (i := 14) rfl), wsL_law_r8_l (List.mem_of_getElem? (i := 23) rfl), by decide +kernel, by decide +kernel, by decide +kernel, by decide +kernel⟩
theorem kX9_103 : zLk RX9 103 mX9_layText 0 := ⟨wsL_law_r9_l (List.mem_of_getElem? (i := 0) rfl), wsL_law_r9_l (List.mem_of_getElem? (i := 1) rfl), wsL_law_r9_l (List.mem_of_getElem? (i := 2) rfl), wsL_law_r1_l (List.mem_of_getElem? (i := 2) rfl), wsL_law_r9_l (List.mem_of_getElem? (i := 3) rfl), by decide +kernel, by decide +kernel, by decide +kernel, by decide +kernel⟩
theorem kX9_112 : zLk RX9 112 mX4_firstFault 1 := ⟨wsL_law_r9_l (List.mem_of_getElem? (i := 7) rfl), wsL_law_r9_l (List.mem_of_getElem? (i := 8) rfl), wsL_law_r9_l (List.mem_of_getElem? (i := 9) rfl), wsL_law_r1_l (List.mem_of_getElem? (i := 18) rfl), wsL_law_r9_l (List.mem_of_getElem? (i := 10) rfl), by decide +kernel, by decide +kernel, by decide +kernel, by decide +kernel⟩
theorem kX4_19 : zLk RX4 19 mX2_clear 0 := ⟨wsL_law_r9_l (List.mem_of_getElem? (i := 12) rfl), wsL_law_r9_l (List.mem_of_getElem? (i := 13) rfl), wsL_law_r9_l (List.mem_of_getElem? (i := 14) rfl), wsL_law_r1_l (List.mem_of_getElem? (i := 22) rfl), wsL_law_r9_l (List.mem_of_getElem? (i := 15) rfl), by decide +kernel, by decide +kernel, by decide +kernel, by decide +kernel⟩
theorem kX4_29 : zLk RX4 29 mX4_readItem 1 := ⟨wsL_law_r9_l (List.mem_of_getElem? (i := 20) rfl), wsL_law_r9_l (List.mem_of_getElem? (i := 21) rfl), wsL_law_r9_l (List.mem_of_getElem? (i := 22) rfl), wsL_law_r1_l (List.mem_of_getElem? (i := 18) rfl), wsL_law_r9_l (List.mem_of_getElem? (i := 23) rfl), by decide +kernel, by decide +kernel, by decide +kernel, by decide +kernel⟩
theorem kX4_33 : zLk RX4 33 mX8_letterAt 1 := ⟨wsL_law_r10_l (List.mem_of_getElem? (i := 0) rfl), wsL_law_r10_l (List.mem_of_getElem? (i := 1) rfl), wsL_law_r10_l (List.mem_of_getElem? (i := 2) rfl), wsL_law_r1_l (List.mem_of_getElem? (i := 14) rfl), wsL_law_r10_l (List.mem_of_getElem? (i := 3) rfl), by decide +kernel, by decide +kernel, by decide +kernel, by decide +kernel⟩
theorem kX4_37 : zLk RX4 37 mX4_readLines 1 := ⟨wsL_law_r10_l (List.mem_of_getElem? (i := 4) rfl), wsL_law_r10_l (List.mem_of_getElem? (i := 5) rfl), wsL_law_r10_l (List.mem_of_getElem? (i := 6) rfl), wsL_law_r1_l (List.mem_of_getElem? (i := 18) rfl), wsL_law_r10_l (List.mem_of_getElem? (i := 7) rfl), by decide +kernel, by decide +kernel, by decide +kernel, by decide +kernel⟩
theorem kX4_49 : zLk RX4 49 mX4_number 3 := ⟨wsL_law_r10_l (List.mem_of_getElem? (i := 9) rfl), wsL_law_r10_l (List.mem_of_getElem? (i := 10) rfl), wsL_law_r10_l (List.mem_of_getElem? (i := 11) rfl), wsL_law_r1_l (List.mem_of_getElem? (i := 18) rfl), wsL_law_r10_l (List.mem_of_getElem? (i := 12) rfl), by decide +kernel, by decide +kernel, by decide +kernel, by decide +kernel⟩
theorem kX4_92 : zLk RX4 92 mX8_figureAt 1 := ⟨wsL_law_r10_l (List.mem_of_getElem? (i := 13) rfl), wsL_law_r10_l (List.mem_of_getElem? (i := 14) rfl), wsL_law_r10_l (List.mem_of_getElem? (i := 15) rfl), wsL_law_r1_l (List.mem_of_getElem? (i := 14) rfl), wsL_law_r10_l (List.mem_of_getElem? (i := 16) rfl), by decide +kernel, by decide +kernel, by decide +kernel, by decide +kernel⟩
theorem kX4_40 : zLk RX4 40 mX4_readPower 1 := ⟨wsL_law_r10_l (List.mem_of_getElem? (i := 17) rfl), wsL_law_r10_l (List.mem_of_getElem? (i := 18) rfl), wsL_law_r10_l (List.mem_of_getElem? (i := 19) rfl), wsL_law_r1_l (List.mem_of_getElem? (i := 18) rfl), wsL_law_r10_l (List.mem_of_getElem? (i := 20) rfl), by decide +kernel, by decide +kernel, by decide +kernel, by decide +kernel⟩
theorem kX4_43 : zLk RX4 43 mX4_readCore 1 := ⟨wsL_law_r10_l (List.mem_of_getElem? (i := 22) rfl), wsL_law_r10_l (List.mem_of_getElem? (i := 23) rfl), wsL_law_r11_l (List.mem_of_getElem? (i := 0) rfl), wsL_law_r1_l (List.mem_of_getElem? (i := 18) rfl), wsL_law_r11_l (List.mem_of_getElem? (i := 1) rfl), by decide +kernel, by decide +kernel, by decide +kernel, by decide +kernel⟩
theorem kX4_66 : zLk RX4 66 mX4_row 1 := ⟨wsL_law_r11_l (List.mem_of_getElem? (i := 8) rfl), wsL_law_r11_l (List.mem_of_getElem? (i := 9) rfl), wsL_law_r11_l (List.mem_of_getElem? (i := 10) rfl), wsL_law_r1_l (List.mem_of_getElem? (i := 18) rfl), wsL_law_r11_l (List.mem_of_getElem? (i := 11) rfl), by decide +kernel, by decide +kernel, by decide +kernel, by decide +kernel⟩
theorem kX4_46 : zLk RX4 46 mX4_readRule 1 := ⟨wsL_law_r11_l (List.mem_of_getElem? (i := 12) rfl), wsL_law_r11_l (List.mem_of_getElem? (i := 13) rfl), wsL_law_r11_l (List.mem_of_getElem? (i := 14) rfl), wsL_law_r1_l (List.mem_of_getElem? (i := 18) rfl), wsL_law_r11_l (List.mem_of_getElem? (i := 15) rfl), by decide +kernel, by decide +kernel, by decide +kernel, by decide +kernel⟩
theorem kX9_270 : zLk RX9 270 mX2_layChains 0 := ⟨wsL_law_r11_l (List.mem_of_getElem? (i := 19) rfl), wsL_law_r11_l (List.mem_of_getElem? (i := 20) rfl), wsL_law_r11_l (List.mem_of_getElem? (i := 21) rfl), wsL_law_r1_l (List.mem_of_getElem? (i := 22) rfl), wsL_law_r11_l (List.mem_of_getElem? (i := 22) rfl), by decide +kernel, by decide +kernel, by decide +kernel, by decide +kernel⟩
theorem kX2_60 : zLk RX2 60 mX2_orderChains 1 := ⟨wsL_law_r11_l (List.mem_of_getElem? (i := 23) rfl), wsL_law_r12_l (List.mem_of_getElem? (i := 0) rfl), wsL_law_r12_l (List.mem_of_getElem? (i := 1) rfl), wsL_law_r1_l (List.mem_of_getElem? (i := 22) rfl), wsL_law_r12_l (List.mem_of_getElem? (i := 2) rfl), by decide +kernel, by decide +kernel, by decide +kernel, by decide +kernel⟩
theorem kX2_64 : zLk RX2 64 mX2_layAt 2 := ⟨wsL_law_r12_l (List.mem_of_getElem? (i := 3) rfl), wsL_law_r12_l (List.mem_of_getElem? (i := 4) rfl), wsL_law_r12_l (List.mem_of_getElem? (i := 5) rfl), wsL_law_r1_l (List.mem_of_getElem? (i := 22) rfl), wsL_law_r12_l (List.mem_of_getElem? (i := 6) rfl), by decide +kernel, by decide +kernel, by decide +kernel, by decide +kernel⟩
theorem kX2_68 : zLk RX2 68 mX2_clearLoads 0 := ⟨wsL_law_r12_l (List.mem_of_getElem? (i := 8) rfl), wsL_law_r12_l (List.mem_of_getElem? (i := 9) rfl), wsL_law_r12_l (List.mem_of_getElem? (i := 10) rfl), wsL_law_r1_l (List.mem_of_getElem? (i := 22) rfl), wsL_law_r12_l (List.mem_of_getElem? (i := 11) rfl), by decide +kernel, by decide +kernel, by decide +kernel, by decide +kernel⟩
theorem kX2_71 : zLk RX2 71 mX2_leastLoaded 1 := ⟨wsL_law_r12_l (List.mem_of_getElem? (i := 12) rfl), wsL_law_r12_l (List.mem_of_getElem? (i := 13) rfl), wsL_law_r12_l (List.mem_of_getElem? (i := 14) rfl), wsL_law_r1_l (List.mem_of_getElem? (i := 22) rfl), wsL_law_r12_l (List.mem_of_getElem? (i := 15) rfl), by decide +kernel, by decide +kernel, by decide +kernel, by decide +kernel⟩
theorem kX9_273 : zLk RX9 273 mX3_startOver 1 := ⟨wsL_law_r12_l (List.mem_of_getElem? (i := 16) rfl), wsL_law_r12_l (List.mem_of_getElem? (i := 17) rfl), wsL_law_r12_l (List.mem_of_getElem? (i := 18) rfl), wsL_law_r2_l (List.mem_of_getElem? (i := 3) rfl), wsL_law_r12_l (List.mem_of_getElem? (i := 19) rfl), by decide +kernel, by decide +kernel, by decide +kernel, by decide +kernel⟩
theorem kX3_31 : zLk RX3 31 mX3_takeOff 1 := ⟨wsL_law_r12_l (List.mem_of_getElem? (i := 23) rfl), wsL_law_r13_l (List.mem_of_getElem? (i := 0) rfl), wsL_law_r13_l (List.mem_of_getElem? (i := 1) rfl), wsL_law_r2_l (List.mem_of_getElem? (i := 3) rfl), wsL_law_r13_l (List.mem_of_getElem? (i := 2) rfl), by decide +kernel, by decide +kernel, by decide +kernel, by decide +kernel⟩
theorem kX9_277 : zLk RX9 277 mX5_forgetAll 0 := ⟨wsL_law_r13_l (List.mem_of_getElem? (i := 3) rfl), wsL_law_r13_l (List.mem_of_getElem? (i := 4) rfl), wsL_law_r13_l (List.mem_of_getElem? (i := 5) rfl), wsL_law_r2_l (List.mem_of_getElem? (i := 11) rfl), wsL_law_r13_l (List.mem_of_getElem? (i := 6) rfl), by decide +kernel, by decide +kernel, by decide +kernel, by decide +kernel⟩
theorem kX9_259 : zLk RX9 259 mX6_clear 0 := ⟨wsL_law_r13_l (List.mem_of_getElem? (i := 7) rfl), wsL_law_r13_l (List.mem_of_getElem? (i := 8) rfl), wsL_law_r13_l (List.mem_of_getElem? (i := 9) rfl), wsL_law_r2_l (List.mem_of_getElem? (i := 17) rfl), wsL_law_r13_l (List.mem_of_getElem? (i := 10) rfl), by decide +kernel, by decide +kernel, by decide +kernel, by decide +kernel⟩
theorem kX9_280 : zLk RX9 280 mX1_clear 0 := ⟨wsL_law_r13_l (List.mem_of_getElem? (i := 11) rfl), wsL_law_r13_l (List.mem_of_getElem? (i := 12) rfl), wsL_law_r13_l (List.mem_of_getElem? (i := 13) rfl), wsL_law_r2_l (List.mem_of_getElem? (i := 22) rfl), wsL_law_r13_l (List.mem_of_getElem? (i := 14) rfl), by decide +kernel, by decide +kernel, by decide +kernel, by decide +kernel⟩
theorem kX9_255 : zLk RX9 255 mX7_clear 0 := ⟨wsL_law_r13_l (List.mem_of_getElem? (i := 15) rfl), wsL_law_r13_l (List.mem_of_getElem? (i := 16) rfl), wsL_law_r13_l (List.mem_of_getElem? (i := 17) rfl), wsL_law_r3_l (List.mem_of_getElem? (i := 2) rfl), wsL_law_r13_l (List.mem_of_getElem? (i := 18) rfl), by decide +kernel, by decide +kernel, by decide +kernel, by decide +kernel⟩
theorem kX9_106 : zLk RX9 106 mX8_clear 0 := ⟨wsL_law_r13_l (List.mem_of_getElem? (i := 19) rfl), wsL_law_r13_l (List.mem_of_getElem? (i := 20) rfl), wsL_law_r13_l (List.mem_of_getElem? (i := 21) rfl), wsL_law_r1_l (List.mem_of_getElem? (i := 14) rfl), wsL_law_r13_l (List.mem_of_getElem? (i := 22) rfl), by decide +kernel, by decide +kernel, by decide +kernel, by decide +kernel⟩
theorem kX10_100 : zLk RX10 100 mX10_tell 4 := ⟨wsL_law_r15_l (List.mem_of_getElem? (i := 16) rfl), wsL_law_r15_l (List.mem_of_getElem? (i := 17) rfl), wsL_law_r15_l (List.mem_of_getElem? (i := 18) rfl), wsL_law_r1_l (List.mem_of_getElem? (i := 5) rfl), wsL_law_r15_l (List.mem_of_getElem? (i := 19) rfl), by decide +kernel, by decide +kernel, by decide +kernel, by decide +kernel⟩
theorem kX10_118 : zLk RX10 118 mX10_takeCores 0 := ⟨wsL_law_r15_l (List.mem_of_getElem? (i := 21) rfl), wsL_law_r15_l (List.mem_of_getElem? (i := 22) rfl), wsL_law_r15_l (List.mem_of_getElem? (i := 23) rfl), wsL_law_r1_l (List.mem_of_getElem? (i := 5) rfl), wsL_law_r16_l (List.mem_of_getElem? (i := 0) rfl), by decide +kernel, by decide +kernel, by decide +kernel, by decide +kernel⟩
theorem kL_13 : zLk RL 13 mX9_write 1 := ⟨wsL_law_r16_l (List.mem_of_getElem? (i := 1) rfl), wsL_law_r16_l (List.mem_of_getElem? (i := 2) rfl), wsL_law_r16_l (List.mem_of_getElem? (i := 3) rfl), wsL_law_r1_l (List.mem_of_getElem? (i := 2) rfl), wsL_law_r16_l (List.mem_of_getElem? (i := 4) rfl), by decide +kernel, by decide +kernel, by decide +kernel, by decide +kernel⟩
theorem kL_17 : zLk RL 17 mX10_write 1 := ⟨wsL_law_r16_l (List.mem_of_getElem? (i := 6) rfl), wsL_law_r16_l (List.mem_of_getElem? (i := 7) rfl), wsL_law_r16_l (List.mem_of_getElem? (i := 8) rfl), wsL_law_r1_l (List.mem_of_getElem? (i := 5) rfl), wsL_law_r16_l (List.mem_of_getElem? (i := 9) rfl), by decide +kernel, by decide +kernel, by decide +kernel, by decide +kernel⟩
theorem kX10_124 : zLs RX10 124 mX10_in 3 := ⟨wsL_law_r16_l (List.mem_of_getElem? (i := 13) rfl), wsL_law_r16_l (List.mem_of_getElem? (i := 14) rfl), wsL_law_r1_l (List.mem_of_getElem? (i := 5) rfl), wsL_law_r16_l (List.mem_of_getElem? (i := 15) rfl), rfl, by decide +kernel, by decide +kernel, by decide +kernel, by decide +kernel⟩
theorem kL_18 : zLk RL 18 mX9_wipe 0 := ⟨wsL_law_r16_l (List.mem_of_getElem? (i := 16) rfl), wsL_law_r16_l (List.mem_of_getElem? (i := 17) rfl), wsL_law_r16_l (List.mem_of_getElem? (i := 18) rfl), wsL_law_r1_l (List.mem_of_getElem? (i := 2) rfl), wsL_law_r16_l (List.mem_of_getElem? (i := 19) rfl), by decide +kernel, by decide +kernel, by decide +kernel, by decide +kernel⟩
theorem kL_22 : zLk RL 22 mX10_wipe 0 := ⟨wsL_law_r16_l (List.mem_of_getElem? (i := 20) rfl), wsL_law_r16_l (List.mem_of_getElem? (i := 21) rfl), wsL_law_r16_l (List.mem_of_getElem? (i := 22) rfl), wsL_law_r1_l (List.mem_of_getElem? (i := 5) rfl), wsL_law_r16_l (List.mem_of_getElem? (i := 23) rfl), by decide +kernel, by decide +kernel, by decide +kernel, by decide +kernel⟩
theorem kL_23 : zLk RL 23 mX9_fault 0 := ⟨wsL_law_r17_l (List.mem_of_getElem? (i := 0) rfl), wsL_law_r17_l (List.mem_of_getElem? (i := 1) rfl), wsL_law_r17_l (List.mem_of_getElem? (i := 2) rfl), wsL_law_r1_l (List.mem_of_getElem? (i := 2) rfl), wsL_law_r17_l (List.mem_of_getElem? (i := 3) rfl), by decide +kernel, by decide +kernel, by decide +kernel, by decide +kernel⟩
theorem kL_26 : zLk RL 26 mX10_fault 0 := ⟨wsL_law_r17_l (List.mem_of_getElem? (i := 4) rfl), wsL_law_r17_l (List.mem_of_getElem? (i := 5) rfl), wsL_law_r17_l (List.mem_of_getElem? (i := 6) rfl), wsL_law_r1_l (List.mem_of_getElem? (i := 5) rfl), wsL_law_r17_l (List.mem_of_getElem? (i := 7) rfl), by decide +kernel, by decide +kernel, by decide +kernel, by decide +kernel⟩
theorem kX10_182 : zLk RX10 182 mX10_takesItem 0 := ⟨wsL_law_r17_l (List.mem_of_getElem? (i := 12) rfl), wsL_law_r17_l (List.mem_of_getElem? (i := 13) rfl), wsL_law_r17_l (List.mem_of_getElem? (i := 14) rfl), wsL_law_r1_l (List.mem_of_getElem? (i := 5) rfl), wsL_law_r17_l (List.mem_of_getElem? (i := 15) rfl), by decide +kernel, by decide +kernel, by decide +kernel, by decide +kernel⟩
theorem kX10_140 : zLk RX10 140 mX10_letter 0 := ⟨wsL_law_r17_l (List.mem_of_getElem? (i := 17) rfl), wsL_law_r17_l (List.mem_of_getElem? (i := 18) rfl), wsL_law_r17_l (List.mem_of_getElem? (i := 19) rfl), wsL_law_r1_l (List.mem_of_getElem? (i := 5) rfl), wsL_law_r17_l (List.mem_of_getElem? (i := 20) rfl), by decide +kernel, by decide +kernel, by decide +kernel, by decide +kernel⟩
theorem kX10_155 : zLk RX10 155 mX10_takesNumber 2 := ⟨wsL_law_r17_l (List.mem_of_getElem? (i := 21) rfl), wsL_law_r17_l (List.mem_of_getElem? (i := 22) rfl), wsL_law_r17_l (List.mem_of_getElem? (i := 23) rfl), wsL_law_r1_l (List.mem_of_getElem? (i := 5) rfl), wsL_law_r18_l (List.mem_of_getElem? (i := 0) rfl), by decide +kernel, by decide +kernel, by decide +kernel, by decide +kernel⟩
theorem kX10_159 : zLk RX10 159 mX10_isSign 1 := ⟨wsL_law_r18_l (List.mem_of_getElem? (i := 4) rfl), wsL_law_r18_l (List.mem_of_getElem? (i := 5) rfl), wsL_law_r18_l (List.mem_of_getElem? (i := 6) rfl), wsL_law_r1_l (List.mem_of_getElem? (i := 5) rfl), wsL_law_r18_l (List.mem_of_getElem? (i := 7) rfl), by decide +kernel, by decide +kernel, by decide +kernel, by decide +kernel⟩
theorem kX10_175 : zLk RX10 175 mX10_takesCore 0 := ⟨wsL_law_r18_l (List.mem_of_getElem? (i := 8) rfl), wsL_law_r18_l (List.mem_of_getElem? (i := 9) rfl), wsL_law_r18_l (List.mem_of_getElem? (i := 10) rfl), wsL_law_r1_l (List.mem_of_getElem? (i := 5) rfl), wsL_law_r18_l (List.mem_of_getElem? (i := 11) rfl), by decide +kernel, by decide +kernel, by decide +kernel, by decide +kernel⟩
theorem kX10_163 : zLk RX10 163 mX10_takesRow 1 := ⟨wsL_law_r18_l (List.mem_of_getElem? (i := 12) rfl), wsL_law_r18_l (List.mem_of_getElem? (i := 13) rfl), wsL_law_r18_l (List.mem_of_getElem? (i := 14) rfl), wsL_law_r1_l (List.mem_of_getElem? (i := 5) rfl), wsL_law_r18_l (List.mem_of_getElem? (i := 15) rfl), by decide +kernel, by decide +kernel, by decide +kernel, by decide +kernel⟩
theorem kX10_179 : zLk RX10 179 mX10_takesRule 0 := ⟨wsL_law_r18_l (List.mem_of_getElem? (i := 17) rfl), wsL_law_r18_l (List.mem_of_getElem? (i := 18) rfl), wsL_law_r18_l (List.mem_of_getElem? (i := 19) rfl), wsL_law_r1_l (List.mem_of_getElem? (i := 5) rfl), wsL_law_r18_l (List.mem_of_getElem? (i := 20) rfl), by decide +kernel, by decide +kernel, by decide +kernel, by decide +kernel⟩
theorem kL_27 : zLk RL 27 mX9_lay 0 := ⟨wsL_law_r18_l (List.mem_of_getElem? (i := 21) rfl), wsL_law_r18_l (List.mem_of_getElem? (i := 22) rfl), wsL_law_r18_l (List.mem_of_getElem? (i := 23) rfl), wsL_law_r1_l (List.mem_of_getElem? (i := 2) rfl), wsL_law_r19_l (List.mem_of_getElem? (i := 0) rfl), by decide +kernel, by decide +kernel, by decide +kernel, by decide +kernel⟩
theorem kL_30 : zLk RL 30 mX10_lay 0 := ⟨wsL_law_r19_l (List.mem_of_getElem? (i := 1) rfl), wsL_law_r19_l (List.mem_of_getElem? (i := 2) rfl), wsL_law_r19_l (List.mem_of_getElem? (i := 3) rfl), wsL_law_r1_l (List.mem_of_getElem? (i := 5) rfl), wsL_law_r19_l (List.mem_of_getElem? (i := 4) rfl), by decide +kernel, by decide +kernel, by decide +kernel, by decide +kernel⟩
theorem kX10_185 : zLk RX10 185 mX10_fault 0 := ⟨wsL_law_r19_l (List.mem_of_getElem? (i := 9) rfl), wsL_law_r17_l (List.mem_of_getElem? (i := 5) rfl), wsL_law_r17_l (List.mem_of_getElem? (i := 6) rfl), wsL_law_r1_l (List.mem_of_getElem? (i := 5) rfl), wsL_law_r17_l (List.mem_of_getElem? (i := 7) rfl), by decide +kernel, by decide +kernel, by decide +kernel, by decide +kernel⟩
theorem kL_31 : zLk RL 31 mX9_core 2 := ⟨wsL_law_r19_l (List.mem_of_getElem? (i := 10) rfl), wsL_law_r19_l (List.mem_of_getElem? (i := 11) rfl), wsL_law_r19_l (List.mem_of_getElem? (i := 12) rfl), wsL_law_r1_l (List.mem_of_getElem? (i := 2) rfl), wsL_law_r19_l (List.mem_of_getElem? (i := 13) rfl), by decide +kernel, by decide +kernel, by decide +kernel, by decide +kernel⟩
theorem kX9_116 : zLk RX9 116 mX9_isCore 1 := ⟨wsL_law_r19_l (List.mem_of_getElem? (i := 19) rfl), wsL_law_r19_l (List.mem_of_getElem? (i := 20) rfl), wsL_law_r19_l (List.mem_of_getElem? (i := 21) rfl), wsL_law_r1_l (List.mem_of_getElem? (i := 2) rfl), wsL_law_r19_l (List.mem_of_getElem? (i := 22) rfl), by decide +kernel, by decide +kernel, by decide +kernel, by decide +kernel⟩
theorem kX9_132 : zLk RX9 132 mX3_isPut 1 := ⟨wsL_law_r19_l (List.mem_of_getElem? (i := 23) rfl), wsL_law_r20_l (List.mem_of_getElem? (i := 0) rfl), wsL_law_r20_l (List.mem_of_getElem? (i := 1) rfl), wsL_law_r2_l (List.mem_of_getElem? (i := 3) rfl), wsL_law_r20_l (List.mem_of_getElem? (i := 2) rfl), by decide +kernel, by decide +kernel, by decide +kernel, by decide +kernel⟩
theorem kX9_141 : zLk RX9 141 mX3_stairs 1 := ⟨wsL_law_r20_l (List.mem_of_getElem? (i := 3) rfl), wsL_law_r20_l (List.mem_of_getElem? (i := 4) rfl), wsL_law_r20_l (List.mem_of_getElem? (i := 5) rfl), wsL_law_r2_l (List.mem_of_getElem? (i := 3) rfl), wsL_law_r20_l (List.mem_of_getElem? (i := 6) rfl), by decide +kernel, by decide +kernel, by decide +kernel, by decide +kernel⟩
theorem kX3_47 : zLk RX3 47 mX3_takes 2 := ⟨wsL_law_r20_l (List.mem_of_getElem? (i := 9) rfl), wsL_law_r20_l (List.mem_of_getElem? (i := 10) rfl), wsL_law_r20_l (List.mem_of_getElem? (i := 11) rfl), wsL_law_r2_l (List.mem_of_getElem? (i := 3) rfl), wsL_law_r20_l (List.mem_of_getElem? (i := 12) rfl), by decide +kernel, by decide +kernel, by decide +kernel, by decide +kernel⟩
theorem kX3_51 : zLk RX3 51 mX2_takes 3 := ⟨wsL_law_r20_l (List.mem_of_getElem? (i := 13) rfl), wsL_law_r20_l (List.mem_of_getElem? (i := 14) rfl), wsL_law_r20_l (List.mem_of_getElem? (i := 15) rfl), wsL_law_r1_l (List.mem_of_getElem? (i := 22) rfl), wsL_law_r20_l (List.mem_of_getElem? (i := 16) rfl), by decide +kernel, by decide +kernel, by decide +kernel, by decide +kernel⟩
theorem kL_35 : zLk RL 35 mX10_core 2 := ⟨wsL_law_r20_l (List.mem_of_getElem? (i := 17) rfl), wsL_law_r20_l (List.mem_of_getElem? (i := 18) rfl), wsL_law_r20_l (List.mem_of_getElem? (i := 19) rfl), wsL_law_r1_l (List.mem_of_getElem? (i := 5) rfl), wsL_law_r20_l (List.mem_of_getElem? (i := 20) rfl), by decide +kernel, by decide +kernel, by decide +kernel, by decide +kernel⟩
theorem kX10_212 : zLk RX10 212 mX10_isCore 1 := ⟨wsL_law_r20_l (List.mem_of_getElem? (i := 21) rfl), wsL_law_r20_l (List.mem_of_getElem? (i := 22) rfl), wsL_law_r20_l (List.mem_of_getElem? (i := 23) rfl), wsL_law_r1_l (List.mem_of_getElem? (i := 5) rfl), wsL_law_r21_l (List.mem_of_getElem? (i := 0) rfl), by decide +kernel, by decide +kernel, by decide +kernel, by decide +kernel⟩
theorem kX10_215 : zLk RX10 215 mX10_isPut 1 := ⟨wsL_law_r21_l (List.mem_of_getElem? (i := 1) rfl), wsL_law_r21_l (List.mem_of_getElem? (i := 2) rfl), wsL_law_r21_l (List.mem_of_getElem? (i := 3) rfl), wsL_law_r1_l (List.mem_of_getElem? (i := 5) rfl), wsL_law_r21_l (List.mem_of_getElem? (i := 4) rfl), by decide +kernel, by decide +kernel, by decide +kernel, by decide +kernel⟩
theorem kX10_218 : zLk RX10 218 mX10_stairsOf 1 := ⟨wsL_law_r21_l (List.mem_of_getElem? (i := 5) rfl), wsL_law_r21_l (List.mem_of_getElem? (i := 6) rfl), wsL_law_r21_l (List.mem_of_getElem? (i := 7) rfl), wsL_law_r1_l (List.mem_of_getElem? (i := 5) rfl), wsL_law_r21_l (List.mem_of_getElem? (i := 8) rfl), by decide +kernel, by decide +kernel, by decide +kernel, by decide +kernel⟩
theorem kX10_209 : zLk RX10 209 mX10_layTakes 0 := ⟨wsL_law_r21_l (List.mem_of_getElem? (i := 10) rfl), wsL_law_r21_l (List.mem_of_getElem? (i := 11) rfl), wsL_law_r21_l (List.mem_of_getElem? (i := 12) rfl), wsL_law_r1_l (List.mem_of_getElem? (i := 5) rfl), wsL_law_r21_l (List.mem_of_getElem? (i := 13) rfl), by decide +kernel, by decide +kernel, by decide +kernel, by decide +kernel⟩
theorem kX10_205 : zLk RX10 205 mX10_takesBy 3 := ⟨wsL_law_r21_l (List.mem_of_getElem? (i := 14) rfl), wsL_law_r21_l (List.mem_of_getElem? (i := 15) rfl), wsL_law_r21_l (List.mem_of_getElem? (i := 16) rfl), wsL_law_r1_l (List.mem_of_getElem? (i := 5) rfl), wsL_law_r21_l (List.mem_of_getElem? (i := 17) rfl), by decide +kernel, by decide +kernel, by decide +kernel, by decide +kernel⟩
theorem kX10_201 : zLk RX10 201 mX10_wrapOf 2 := ⟨wsL_law_r21_l (List.mem_of_getElem? (i := 18) rfl), wsL_law_r21_l (List.mem_of_getElem? (i := 19) rfl), wsL_law_r21_l (List.mem_of_getElem? (i := 20) rfl), wsL_law_r1_l (List.mem_of_getElem? (i := 5) rfl), wsL_law_r21_l (List.mem_of_getElem? (i := 21) rfl), by decide +kernel, by decide +kernel, by decide +kernel, by decide +kernel⟩
theorem kL_36 : zLk RL 36 mX9_chain 2 := ⟨wsL_law_r21_l (List.mem_of_getElem? (i := 22) rfl), wsL_law_r21_l (List.mem_of_getElem? (i := 23) rfl), wsL_law_r22_l (List.mem_of_getElem? (i := 0) rfl), wsL_law_r1_l (List.mem_of_getElem? (i := 2) rfl), wsL_law_r22_l (List.mem_of_getElem? (i := 1) rfl), by decide +kernel, by decide +kernel, by decide +kernel, by decide +kernel⟩
theorem kL_39 : zLk RL 39 mX10_chain 2 := ⟨wsL_law_r22_l (List.mem_of_getElem? (i := 3) rfl), wsL_law_r22_l (List.mem_of_getElem? (i := 4) rfl), wsL_law_r22_l (List.mem_of_getElem? (i := 5) rfl), wsL_law_r1_l (List.mem_of_getElem? (i := 5) rfl), wsL_law_r22_l (List.mem_of_getElem? (i := 6) rfl), by decide +kernel, by decide +kernel, by decide +kernel, by decide +kernel⟩
theorem kL_40 : zLk RL 40 mX9_wrap 3 := ⟨wsL_law_r22_l (List.mem_of_getElem? (i := 7) rfl), wsL_law_r22_l (List.mem_of_getElem? (i := 8) rfl), wsL_law_r22_l (List.mem_of_getElem? (i := 9) rfl), wsL_law_r1_l (List.mem_of_getElem? (i := 2) rfl), wsL_law_r22_l (List.mem_of_getElem? (i := 10) rfl), by decide +kernel, by decide +kernel, by decide +kernel, by decide +kernel⟩
theorem kX9_149 : zLk RX9 149 mX9_isWidth 1 := ⟨wsL_law_r22_l (List.mem_of_getElem? (i := 12) rfl), wsL_law_r22_l (List.mem_of_getElem? (i := 13) rfl), wsL_law_r22_l (List.mem_of_getElem? (i := 14) rfl), wsL_law_r1_l (List.mem_of_getElem? (i := 2) rfl), wsL_law_r22_l (List.mem_of_getElem? (i := 15) rfl), by decide +kernel, by decide +kernel, by decide +kernel, by decide +kernel⟩
theorem kX9_155 : zLk RX9 155 mX2_idealLoad 2 := ⟨wsL_law_r22_l (List.mem_of_getElem? (i := 17) rfl), wsL_law_r22_l (List.mem_of_getElem? (i := 18) rfl), wsL_law_r22_l (List.mem_of_getElem? (i := 19) rfl), wsL_law_r1_l (List.mem_of_getElem? (i := 22) rfl), wsL_law_r22_l (List.mem_of_getElem? (i := 20) rfl), by decide +kernel, by decide +kernel, by decide +kernel, by decide +kernel⟩
theorem kX2_81 : zLs RX2 81 mX2_leastLoad 6 := ⟨wsL_law_r22_l (List.mem_of_getElem? (i := 21) rfl), wsL_law_r22_l (List.mem_of_getElem? (i := 22) rfl), wsL_law_r1_l (List.mem_of_getElem? (i := 22) rfl), wsL_law_r22_l (List.mem_of_getElem? (i := 23) rfl), rfl, by decide +kernel, by decide +kernel, by decide +kernel, by decide +kernel⟩
theorem kX9_159 : zLk RX9 159 mX3_takes 2 := ⟨wsL_law_r23_l (List.mem_of_getElem? (i := 0) rfl), wsL_law_r20_l (List.mem_of_getElem? (i := 10) rfl), wsL_law_r20_l (List.mem_of_getElem? (i := 11) rfl), wsL_law_r2_l (List.mem_of_getElem? (i := 3) rfl), wsL_law_r20_l (List.mem_of_getElem? (i := 12) rfl), by decide +kernel, by decide +kernel, by decide +kernel, by decide +kernel⟩
theorem kL_44 : zLk RL 44 mX10_wrap 3 := ⟨wsL_law_r23_l (List.mem_of_getElem? (i := 1) rfl), wsL_law_r23_l (List.mem_of_getElem? (i := 2) rfl), wsL_law_r23_l (List.mem_of_getElem? (i := 3) rfl), wsL_law_r1_l (List.mem_of_getElem? (i := 5) rfl), wsL_law_r23_l (List.mem_of_getElem? (i := 4) rfl), by decide +kernel, by decide +kernel, by decide +kernel, by decide +kernel⟩
theorem kX10_222 : zLk RX10 222 mX10_isWidth 1 := ⟨wsL_law_r23_l (List.mem_of_getElem? (i := 5) rfl), wsL_law_r23_l (List.mem_of_getElem? (i := 6) rfl), wsL_law_r23_l (List.mem_of_getElem? (i := 7) rfl), wsL_law_r1_l (List.mem_of_getElem? (i := 5) rfl), wsL_law_r23_l (List.mem_of_getElem? (i := 8) rfl), by decide +kernel, by decide +kernel, by decide +kernel, by decide +kernel⟩
theorem kX10_225 : zLk RX10 225 mX10_idealOf 2 := ⟨wsL_law_r23_l (List.mem_of_getElem? (i := 9) rfl), wsL_law_r23_l (List.mem_of_getElem? (i := 10) rfl), wsL_law_r23_l (List.mem_of_getElem? (i := 11) rfl), wsL_law_r1_l (List.mem_of_getElem? (i := 5) rfl), wsL_law_r23_l (List.mem_of_getElem? (i := 12) rfl), by decide +kernel, by decide +kernel, by decide +kernel, by decide +kernel⟩
theorem kL_45 : zLk RL 45 mX9_line 3 := ⟨wsL_law_r23_l (List.mem_of_getElem? (i := 13) rfl), wsL_law_r23_l (List.mem_of_getElem? (i := 14) rfl), wsL_law_r23_l (List.mem_of_getElem? (i := 15) rfl), wsL_law_r1_l (List.mem_of_getElem? (i := 2) rfl), wsL_law_r23_l (List.mem_of_getElem? (i := 16) rfl), by decide +kernel, by decide +kernel, by decide +kernel, by decide +kernel⟩
theorem kL_48 : zLk RL 48 mX10_line 3 := ⟨wsL_law_r23_l (List.mem_of_getElem? (i := 18) rfl), wsL_law_r23_l (List.mem_of_getElem? (i := 19) rfl), wsL_law_r23_l (List.mem_of_getElem? (i := 20) rfl), wsL_law_r1_l (List.mem_of_getElem? (i := 5) rfl), wsL_law_r23_l (List.mem_of_getElem? (i := 21) rfl), by decide +kernel, by decide +kernel, by decide +kernel, by decide +kernel⟩
theorem kL_49 : zLk RL 49 mX9_put 3 := ⟨wsL_law_r23_l (List.mem_of_getElem? (i := 22) rfl), wsL_law_r23_l (List.mem_of_getElem? (i := 23) rfl), wsL_law_r24_l (List.mem_of_getElem? (i := 0) rfl), wsL_law_r1_l (List.mem_of_getElem? (i := 2) rfl), wsL_law_r24_l (List.mem_of_getElem? (i := 1) rfl), by decide +kernel, by decide +kernel, by decide +kernel, by decide +kernel⟩
theorem kX9_165 : zLs RX9 165 mX9_isCycle 1 := ⟨wsL_law_r24_l (List.mem_of_getElem? (i := 2) rfl), wsL_law_r24_l (List.mem_of_getElem? (i := 3) rfl), wsL_law_r1_l (List.mem_of_getElem? (i := 2) rfl), wsL_law_r24_l (List.mem_of_getElem? (i := 4) rfl), rfl, by decide +kernel, by decide +kernel, by decide +kernel, by decide +kernel⟩
theorem kX9_168 : zLk RX9 168 mX3_reason 3 := ⟨wsL_law_r24_l (List.mem_of_getElem? (i := 6) rfl), wsL_law_r24_l (List.mem_of_getElem? (i := 7) rfl), wsL_law_r24_l (List.mem_of_getElem? (i := 8) rfl), wsL_law_r2_l (List.mem_of_getElem? (i := 3) rfl), wsL_law_r24_l (List.mem_of_getElem? (i := 9) rfl), by decide +kernel, by decide +kernel, by decide +kernel, by decide +kernel⟩
theorem kX3_76 : zLk RX3 76 mX3_notDoneAhead 2 := ⟨wsL_law_r24_l (List.mem_of_getElem? (i := 12) rfl), wsL_law_r24_l (List.mem_of_getElem? (i := 13) rfl), wsL_law_r24_l (List.mem_of_getElem? (i := 14) rfl), wsL_law_r2_l (List.mem_of_getElem? (i := 3) rfl), wsL_law_r24_l (List.mem_of_getElem? (i := 15) rfl), by decide +kernel, by decide +kernel, by decide +kernel, by decide +kernel⟩
theorem kX3_79 : zLk RX3 79 mX3_begunBehind 2 := ⟨wsL_law_r24_l (List.mem_of_getElem? (i := 17) rfl), wsL_law_r24_l (List.mem_of_getElem? (i := 18) rfl), wsL_law_r24_l (List.mem_of_getElem? (i := 19) rfl), wsL_law_r2_l (List.mem_of_getElem? (i := 3) rfl), wsL_law_r24_l (List.mem_of_getElem? (i := 20) rfl), by decide +kernel, by decide +kernel, by decide +kernel, by decide +kernel⟩
theorem kX3_82 : zLk RX3 82 mX3_firstOver 4 := ⟨wsL_law_r24_l (List.mem_of_getElem? (i := 21) rfl), wsL_law_r24_l (List.mem_of_getElem? (i := 22) rfl), wsL_law_r24_l (List.mem_of_getElem? (i := 23) rfl), wsL_law_r2_l (List.mem_of_getElem? (i := 3) rfl), wsL_law_r25_l (List.mem_of_getElem? (i := 0) rfl), by decide +kernel, by decide +kernel, by decide +kernel, by decide +kernel⟩
theorem kX3_89 : zLk RX3 89 mX3_used 2 := ⟨wsL_law_r25_l (List.mem_of_getElem? (i := 1) rfl), wsL_law_r25_l (List.mem_of_getElem? (i := 2) rfl), wsL_law_r25_l (List.mem_of_getElem? (i := 3) rfl), wsL_law_r2_l (List.mem_of_getElem? (i := 3) rfl), wsL_law_r25_l (List.mem_of_getElem? (i := 4) rfl), by decide +kernel, by decide +kernel, by decide +kernel, by decide +kernel⟩
theorem kX9_172 : zLk RX9 172 mX3_toldBy 4 := ⟨wsL_law_r25_l (List.mem_of_getElem? (i := 5) rfl), wsL_law_r25_l (List.mem_of_getElem? (i := 6) rfl), wsL_law_r25_l (List.mem_of_getElem? (i := 7) rfl), wsL_law_r2_l (List.mem_of_getElem? (i := 3) rfl), wsL_law_r25_l (List.mem_of_getElem? (i := 8) rfl), by decide +kernel, by decide +kernel, by decide +kernel, by decide +kernel⟩
theorem kX9_176 : zLk RX9 176 mX1_ofPut 3 := ⟨wsL_law_r25_l (List.mem_of_getElem? (i := 9) rfl), wsL_law_r25_l (List.mem_of_getElem? (i := 10) rfl), wsL_law_r25_l (List.mem_of_getElem? (i := 11) rfl), wsL_law_r2_l (List.mem_of_getElem? (i := 22) rfl), wsL_law_r25_l (List.mem_of_getElem? (i := 12) rfl), by decide +kernel, by decide +kernel, by decide +kernel, by decide +kernel⟩
theorem kX1_19 : zLk RX1 19 mX1_clear 0 := ⟨wsL_law_r25_l (List.mem_of_getElem? (i := 13) rfl), wsL_law_r13_l (List.mem_of_getElem? (i := 12) rfl), wsL_law_r13_l (List.mem_of_getElem? (i := 13) rfl), wsL_law_r2_l (List.mem_of_getElem? (i := 22) rfl), wsL_law_r13_l (List.mem_of_getElem? (i := 14) rfl), by decide +kernel, by decide +kernel, by decide +kernel, by decide +kernel⟩
theorem kX1_22 : zLk RX1 22 mX1_addThree 3 := ⟨wsL_law_r25_l (List.mem_of_getElem? (i := 14) rfl), wsL_law_r25_l (List.mem_of_getElem? (i := 15) rfl), wsL_law_r25_l (List.mem_of_getElem? (i := 16) rfl), wsL_law_r2_l (List.mem_of_getElem? (i := 22) rfl), wsL_law_r25_l (List.mem_of_getElem? (i := 17) rfl), by decide +kernel, by decide +kernel, by decide +kernel, by decide +kernel⟩
theorem kX9_180 : zLk RX9 180 mX9_remember 0 := ⟨wsL_law_r25_l (List.mem_of_getElem? (i := 18) rfl), wsL_law_r25_l (List.mem_of_getElem? (i := 19) rfl), wsL_law_r25_l (List.mem_of_getElem? (i := 20) rfl), wsL_law_r1_l (List.mem_of_getElem? (i := 2) rfl), wsL_law_r25_l (List.mem_of_getElem? (i := 21) rfl), by decide +kernel, by decide +kernel, by decide +kernel, by decide +kernel⟩
theorem kX9_190 : zLk RX9 190 mX3_writeTo 1 := ⟨wsL_law_r25_l (List.mem_of_getElem? (i := 22) rfl), wsL_law_r25_l (List.mem_of_getElem? (i := 23) rfl), wsL_law_r26_l (List.mem_of_getElem? (i := 0) rfl), wsL_law_r2_l (List.mem_of_getElem? (i := 3) rfl), wsL_law_r26_l (List.mem_of_getElem? (i := 1) rfl), by decide +kernel, by decide +kernel, by decide +kernel, by decide +kernel⟩
theorem kX9_206 : zLk RX9 206 mX6_push 1 := ⟨wsL_law_r26_l (List.mem_of_getElem? (i := 6) rfl), wsL_law_r26_l (List.mem_of_getElem? (i := 7) rfl), wsL_law_r26_l (List.mem_of_getElem? (i := 8) rfl), wsL_law_r2_l (List.mem_of_getElem? (i := 17) rfl), wsL_law_r26_l (List.mem_of_getElem? (i := 9) rfl), by decide +kernel, by decide +kernel, by decide +kernel, by decide +kernel⟩
theorem kX9_183 : zLk RX9 183 mX3_place 3 := ⟨wsL_law_r26_l (List.mem_of_getElem? (i := 11) rfl), wsL_law_r26_l (List.mem_of_getElem? (i := 12) rfl), wsL_law_r26_l (List.mem_of_getElem? (i := 13) rfl), wsL_law_r2_l (List.mem_of_getElem? (i := 3) rfl), wsL_law_r26_l (List.mem_of_getElem? (i := 14) rfl), by decide +kernel, by decide +kernel, by decide +kernel, by decide +kernel⟩
theorem kX9_186 : zLk RX9 186 mX3_length 0 := ⟨wsL_law_r26_l (List.mem_of_getElem? (i := 15) rfl), wsL_law_r26_l (List.mem_of_getElem? (i := 16) rfl), wsL_law_r26_l (List.mem_of_getElem? (i := 17) rfl), wsL_law_r2_l (List.mem_of_getElem? (i := 3) rfl), wsL_law_r26_l (List.mem_of_getElem? (i := 18) rfl), by decide +kernel, by decide +kernel, by decide +kernel, by decide +kernel⟩
theorem kX3_66 : zLk RX3 66 mX3_isPut 1 := ⟨wsL_law_r26_l (List.mem_of_getElem? (i := 20) rfl), wsL_law_r20_l (List.mem_of_getElem? (i := 0) rfl), wsL_law_r20_l (List.mem_of_getElem? (i := 1) rfl), wsL_law_r2_l (List.mem_of_getElem? (i := 3) rfl), wsL_law_r20_l (List.mem_of_getElem? (i := 2) rfl), by decide +kernel, by decide +kernel, by decide +kernel, by decide +kernel⟩
theorem kL_52 : zLk RL 52 mX10_put 3 := ⟨wsL_law_r26_l (List.mem_of_getElem? (i := 21) rfl), wsL_law_r26_l (List.mem_of_getElem? (i := 22) rfl), wsL_law_r26_l (List.mem_of_getElem? (i := 23) rfl), wsL_law_r1_l (List.mem_of_getElem? (i := 5) rfl), wsL_law_r27_l (List.mem_of_getElem? (i := 0) rfl), by decide +kernel, by decide +kernel, by decide +kernel, by decide +kernel⟩
theorem kX10_245 : zLk RX10 245 mX10_judge 4 := ⟨wsL_law_r27_l (List.mem_of_getElem? (i := 4) rfl), wsL_law_r27_l (List.mem_of_getElem? (i := 5) rfl), wsL_law_r27_l (List.mem_of_getElem? (i := 6) rfl), wsL_law_r1_l (List.mem_of_getElem? (i := 5) rfl), wsL_law_r27_l (List.mem_of_getElem? (i := 7) rfl), by decide +kernel, by decide +kernel, by decide +kernel, by decide +kernel⟩
theorem kX10_237 : zLk RX10 237 mX10_isAhead 3 := ⟨wsL_law_r27_l (List.mem_of_getElem? (i := 8) rfl), wsL_law_r27_l (List.mem_of_getElem? (i := 9) rfl), wsL_law_r27_l (List.mem_of_getElem? (i := 10) rfl), wsL_law_r1_l (List.mem_of_getElem? (i := 5) rfl), wsL_law_r27_l (List.mem_of_getElem? (i := 11) rfl), by decide +kernel, by decide +kernel, by decide +kernel, by decide +kernel⟩
theorem kX10_228 : zLk RX10 228 mX10_endOf 1 := ⟨wsL_law_r27_l (List.mem_of_getElem? (i := 12) rfl), wsL_law_r27_l (List.mem_of_getElem? (i := 13) rfl), wsL_law_r27_l (List.mem_of_getElem? (i := 14) rfl), wsL_law_r1_l (List.mem_of_getElem? (i := 5) rfl), wsL_law_r27_l (List.mem_of_getElem? (i := 15) rfl), by decide +kernel, by decide +kernel, by decide +kernel, by decide +kernel⟩
theorem kX10_241 : zLk RX10 241 mX10_isTooMuch 5 := ⟨wsL_law_r27_l (List.mem_of_getElem? (i := 16) rfl), wsL_law_r27_l (List.mem_of_getElem? (i := 17) rfl), wsL_law_r27_l (List.mem_of_getElem? (i := 18) rfl), wsL_law_r1_l (List.mem_of_getElem? (i := 5) rfl), wsL_law_r27_l (List.mem_of_getElem? (i := 19) rfl), by decide +kernel, by decide +kernel, by decide +kernel, by decide +kernel⟩
theorem kX10_231 : zLk RX10 231 mX10_runsIn 2 := ⟨wsL_law_r27_l (List.mem_of_getElem? (i := 20) rfl), wsL_law_r27_l (List.mem_of_getElem? (i := 21) rfl), wsL_law_r27_l (List.mem_of_getElem? (i := 22) rfl), wsL_law_r1_l (List.mem_of_getElem? (i := 5) rfl), wsL_law_r27_l (List.mem_of_getElem? (i := 23) rfl), by decide +kernel, by decide +kernel, by decide +kernel, by decide +kernel⟩
theorem kX10_254 : zLk RX10 254 mX10_note 0 := ⟨wsL_law_r28_l (List.mem_of_getElem? (i := 0) rfl), wsL_law_r28_l (List.mem_of_getElem? (i := 1) rfl), wsL_law_r28_l (List.mem_of_getElem? (i := 2) rfl), wsL_law_r1_l (List.mem_of_getElem? (i := 5) rfl), wsL_law_r28_l (List.mem_of_getElem? (i := 3) rfl), by decide +kernel, by decide +kernel, by decide +kernel, by decide +kernel⟩
theorem kX10_257 : zLk RX10 257 mX10_putAt 3 := ⟨wsL_law_r28_l (List.mem_of_getElem? (i := 4) rfl), wsL_law_r28_l (List.mem_of_getElem? (i := 5) rfl), wsL_law_r28_l (List.mem_of_getElem? (i := 6) rfl), wsL_law_r1_l (List.mem_of_getElem? (i := 5) rfl), wsL_law_r28_l (List.mem_of_getElem? (i := 7) rfl), by decide +kernel, by decide +kernel, by decide +kernel, by decide +kernel⟩
theorem kX10_261 : zLk RX10 261 mX10_lengthOf 0 := ⟨wsL_law_r28_l (List.mem_of_getElem? (i := 8) rfl), wsL_law_r28_l (List.mem_of_getElem? (i := 9) rfl), wsL_law_r28_l (List.mem_of_getElem? (i := 10) rfl), wsL_law_r1_l (List.mem_of_getElem? (i := 5) rfl), wsL_law_r28_l (List.mem_of_getElem? (i := 11) rfl), by decide +kernel, by decide +kernel, by decide +kernel, by decide +kernel⟩
theorem kL_53 : zLk RL 53 mX9_take 1 := ⟨wsL_law_r28_l (List.mem_of_getElem? (i := 12) rfl), wsL_law_r28_l (List.mem_of_getElem? (i := 13) rfl), wsL_law_r28_l (List.mem_of_getElem? (i := 14) rfl), wsL_law_r1_l (List.mem_of_getElem? (i := 2) rfl), wsL_law_r28_l (List.mem_of_getElem? (i := 15) rfl), by decide +kernel, by decide +kernel, by decide +kernel, by decide +kernel⟩
theorem kX9_187 : zLk RX9 187 mX3_takeOff 1 := ⟨wsL_law_r28_l (List.mem_of_getElem? (i := 16) rfl), wsL_law_r13_l (List.mem_of_getElem? (i := 0) rfl), wsL_law_r13_l (List.mem_of_getElem? (i := 1) rfl), wsL_law_r2_l (List.mem_of_getElem? (i := 3) rfl), wsL_law_r13_l (List.mem_of_getElem? (i := 2) rfl), by decide +kernel, by decide +kernel, by decide +kernel, by decide +kernel⟩
theorem kL_56 : zLk RL 56 mX10_take 1 := ⟨wsL_law_r28_l (List.mem_of_getElem? (i := 17) rfl), wsL_law_r28_l (List.mem_of_getElem? (i := 18) rfl), wsL_law_r28_l (List.mem_of_getElem? (i := 19) rfl), wsL_law_r1_l (List.mem_of_getElem? (i := 5) rfl), wsL_law_r28_l (List.mem_of_getElem? (i := 20) rfl), by decide +kernel, by decide +kernel, by decide +kernel, by decide +kernel⟩
theorem kL_57 : zLk RL 57 mX9_fill 0 := ⟨wsL_law_r28_l (List.mem_of_getElem? (i := 21) rfl), wsL_law_r28_l (List.mem_of_getElem? (i := 22) rfl), wsL_law_r28_l (List.mem_of_getElem? (i := 23) rfl), wsL_law_r1_l (List.mem_of_getElem? (i := 2) rfl), wsL_law_r29_l (List.mem_of_getElem? (i := 0) rfl), by decide +kernel, by decide +kernel, by decide +kernel, by decide +kernel⟩
theorem kX9_198 : zLk RX9 198 mX3_placeDoneFirst 2 := ⟨wsL_law_r29_l (List.mem_of_getElem? (i := 2) rfl), wsL_law_r29_l (List.mem_of_getElem? (i := 3) rfl), wsL_law_r29_l (List.mem_of_getElem? (i := 4) rfl), wsL_law_r2_l (List.mem_of_getElem? (i := 3) rfl), wsL_law_r29_l (List.mem_of_getElem? (i := 5) rfl), by decide +kernel, by decide +kernel, by decide +kernel, by decide +kernel⟩
theorem kX3_92 : zLk RX3 92 mX3_firstNotRefused 3 := ⟨wsL_law_r29_l (List.mem_of_getElem? (i := 6) rfl), wsL_law_r29_l (List.mem_of_getElem? (i := 7) rfl), wsL_law_r29_l (List.mem_of_getElem? (i := 8) rfl), wsL_law_r2_l (List.mem_of_getElem? (i := 3) rfl), wsL_law_r29_l (List.mem_of_getElem? (i := 9) rfl), by decide +kernel, by decide +kernel, by decide +kernel, by decide +kernel⟩
theorem kX3_95 : zLk RX3 95 mX3_place 3 := ⟨wsL_law_r29_l (List.mem_of_getElem? (i := 10) rfl), wsL_law_r26_l (List.mem_of_getElem? (i := 12) rfl), wsL_law_r26_l (List.mem_of_getElem? (i := 13) rfl), wsL_law_r2_l (List.mem_of_getElem? (i := 3) rfl), wsL_law_r26_l (List.mem_of_getElem? (i := 14) rfl), by decide +kernel, by decide +kernel, by decide +kernel, by decide +kernel⟩
theorem kX9_202 : zLk RX9 202 mX9_stuck 2 := ⟨wsL_law_r29_l (List.mem_of_getElem? (i := 11) rfl), wsL_law_r29_l (List.mem_of_getElem? (i := 12) rfl), wsL_law_r29_l (List.mem_of_getElem? (i := 13) rfl), wsL_law_r1_l (List.mem_of_getElem? (i := 2) rfl), wsL_law_r29_l (List.mem_of_getElem? (i := 14) rfl), by decide +kernel, by decide +kernel, by decide +kernel, by decide +kernel⟩
theorem kX9_281 : zLk RX9 281 mX1_ofFill 4 := ⟨wsL_law_r29_l (List.mem_of_getElem? (i := 15) rfl), wsL_law_r29_l (List.mem_of_getElem? (i := 16) rfl), wsL_law_r29_l (List.mem_of_getElem? (i := 17) rfl), wsL_law_r2_l (List.mem_of_getElem? (i := 22) rfl), wsL_law_r29_l (List.mem_of_getElem? (i := 18) rfl), by decide +kernel, by decide +kernel, by decide +kernel, by decide +kernel⟩
theorem kX9_285 : zLk RX9 285 mX3_readFrom 1 := ⟨wsL_law_r29_l (List.mem_of_getElem? (i := 19) rfl), wsL_law_r29_l (List.mem_of_getElem? (i := 20) rfl), wsL_law_r29_l (List.mem_of_getElem? (i := 21) rfl), wsL_law_r2_l (List.mem_of_getElem? (i := 3) rfl), wsL_law_r29_l (List.mem_of_getElem? (i := 22) rfl), by decide +kernel, by decide +kernel, by decide +kernel, by decide +kernel⟩
theorem kL_60 : zLk RL 60 mX10_fill 0 := ⟨wsL_law_r29_l (List.mem_of_getElem? (i := 23) rfl), wsL_law_r30_l (List.mem_of_getElem? (i := 0) rfl), wsL_law_r30_l (List.mem_of_getElem? (i := 1) rfl), wsL_law_r1_l (List.mem_of_getElem? (i := 5) rfl), wsL_law_r30_l (List.mem_of_getElem? (i := 2) rfl), by decide +kernel, by decide +kernel, by decide +kernel, by decide +kernel⟩
theorem kX10_267 : zLk RX10 267 mX10_putAside 1 := ⟨wsL_law_r30_l (List.mem_of_getElem? (i := 3) rfl), wsL_law_r30_l (List.mem_of_getElem? (i := 4) rfl), wsL_law_r30_l (List.mem_of_getElem? (i := 5) rfl), wsL_law_r1_l (List.mem_of_getElem? (i := 5) rfl), wsL_law_r30_l (List.mem_of_getElem? (i := 6) rfl), by decide +kernel, by decide +kernel, by decide +kernel, by decide +kernel⟩
theorem kX10_271 : zLk RX10 271 mX10_nextCore 0 := ⟨wsL_law_r30_l (List.mem_of_getElem? (i := 7) rfl), wsL_law_r30_l (List.mem_of_getElem? (i := 8) rfl), wsL_law_r30_l (List.mem_of_getElem? (i := 9) rfl), wsL_law_r1_l (List.mem_of_getElem? (i := 5) rfl), wsL_law_r30_l (List.mem_of_getElem? (i := 10) rfl), by decide +kernel, by decide +kernel, by decide +kernel, by decide +kernel⟩
theorem kX10_274 : zLk RX10 274 mX10_fills 2 := ⟨wsL_law_r30_l (List.mem_of_getElem? (i := 11) rfl), wsL_law_r30_l (List.mem_of_getElem? (i := 12) rfl), wsL_law_r30_l (List.mem_of_getElem? (i := 13) rfl), wsL_law_r1_l (List.mem_of_getElem? (i := 5) rfl), wsL_law_r30_l (List.mem_of_getElem? (i := 14) rfl), by decide +kernel, by decide +kernel, by decide +kernel, by decide +kernel⟩
theorem kX10_264 : zLk RX10 264 mX10_soonestOf 3 := ⟨wsL_law_r30_l (List.mem_of_getElem? (i := 15) rfl), wsL_law_r30_l (List.mem_of_getElem? (i := 16) rfl), wsL_law_r30_l (List.mem_of_getElem? (i := 17) rfl), wsL_law_r1_l (List.mem_of_getElem? (i := 5) rfl), wsL_law_r30_l (List.mem_of_getElem? (i := 18) rfl), by decide +kernel, by decide +kernel, by decide +kernel, by decide +kernel⟩
theorem kX10_277 : zLk RX10 277 mX10_keepFilled 0 := ⟨wsL_law_r30_l (List.mem_of_getElem? (i := 19) rfl), wsL_law_r30_l (List.mem_of_getElem? (i := 20) rfl), wsL_law_r30_l (List.mem_of_getElem? (i := 21) rfl), wsL_law_r1_l (List.mem_of_getElem? (i := 5) rfl), wsL_law_r30_l (List.mem_of_getElem? (i := 22) rfl), by decide +kernel, by decide +kernel, by decide +kernel, by decide +kernel⟩
theorem kL_61 : zLk RL 61 mX9_rename 2 := ⟨wsL_law_r30_l (List.mem_of_getElem? (i := 23) rfl), wsL_law_r31_l (List.mem_of_getElem? (i := 0) rfl), wsL_law_r31_l (List.mem_of_getElem? (i := 1) rfl), wsL_law_r1_l (List.mem_of_getElem? (i := 2) rfl), wsL_law_r31_l (List.mem_of_getElem? (i := 2) rfl), by decide +kernel, by decide +kernel, by decide +kernel, by decide +kernel⟩
theorem kL_64 : zLk RL 64 mX10_rename 2 := ⟨wsL_law_r31_l (List.mem_of_getElem? (i := 3) rfl), wsL_law_r31_l (List.mem_of_getElem? (i := 4) rfl), wsL_law_r31_l (List.mem_of_getElem? (i := 5) rfl), wsL_law_r1_l (List.mem_of_getElem? (i := 5) rfl), wsL_law_r31_l (List.mem_of_getElem? (i := 6) rfl), by decide +kernel, by decide +kernel, by decide +kernel, by decide +kernel⟩
theorem kL_65 : zLk RL 65 mX9_undo 0 := ⟨wsL_law_r31_l (List.mem_of_getElem? (i := 8) rfl), wsL_law_r31_l (List.mem_of_getElem? (i := 9) rfl), wsL_law_r31_l (List.mem_of_getElem? (i := 10) rfl), wsL_law_r1_l (List.mem_of_getElem? (i := 2) rfl), wsL_law_r31_l (List.mem_of_getElem? (i := 11) rfl), by decide +kernel, by decide +kernel, by decide +kernel, by decide +kernel⟩
theorem kX9_209 : zLk RX9 209 mX6_popInto 1 := ⟨wsL_law_r31_l (List.mem_of_getElem? (i := 13) rfl), wsL_law_r31_l (List.mem_of_getElem? (i := 14) rfl), wsL_law_r31_l (List.mem_of_getElem? (i := 15) rfl), wsL_law_r2_l (List.mem_of_getElem? (i := 17) rfl), wsL_law_r31_l (List.mem_of_getElem? (i := 16) rfl), by decide +kernel, by decide +kernel, by decide +kernel, by decide +kernel⟩
theorem kX6_32 : zLk RX6 32 mX3_readFrom 1 := ⟨wsL_law_r31_l (List.mem_of_getElem? (i := 17) rfl), wsL_law_r29_l (List.mem_of_getElem? (i := 20) rfl), wsL_law_r29_l (List.mem_of_getElem? (i := 21) rfl), wsL_law_r2_l (List.mem_of_getElem? (i := 3) rfl), wsL_law_r29_l (List.mem_of_getElem? (i := 22) rfl), by decide +kernel, by decide +kernel, by decide +kernel, by decide +kernel⟩
theorem kL_68 : zLk RL 68 mX10_undo 0 := ⟨wsL_law_r31_l (List.mem_of_getElem? (i := 18) rfl), wsL_law_r31_l (List.mem_of_getElem? (i := 19) rfl), wsL_law_r31_l (List.mem_of_getElem? (i := 20) rfl), wsL_law_r1_l (List.mem_of_getElem? (i := 5) rfl), wsL_law_r31_l (List.mem_of_getElem? (i := 21) rfl), by decide +kernel, by decide +kernel, by decide +kernel, by decide +kernel⟩
theorem kL_69 : zLk RL 69 mX9_why 1 := ⟨wsL_law_r31_l (List.mem_of_getElem? (i := 22) rfl), wsL_law_r31_l (List.mem_of_getElem? (i := 23) rfl), wsL_law_r32_l (List.mem_of_getElem? (i := 0) rfl), wsL_law_r1_l (List.mem_of_getElem? (i := 2) rfl), wsL_law_r32_l (List.mem_of_getElem? (i := 1) rfl), by decide +kernel, by decide +kernel, by decide +kernel, by decide +kernel⟩
theorem kX9_219 : zLk RX9 219 mX1_number 1 := ⟨wsL_law_r32_l (List.mem_of_getElem? (i := 3) rfl), wsL_law_r32_l (List.mem_of_getElem? (i := 4) rfl), wsL_law_r32_l (List.mem_of_getElem? (i := 5) rfl), wsL_law_r2_l (List.mem_of_getElem? (i := 22) rfl), wsL_law_r32_l (List.mem_of_getElem? (i := 6) rfl), by decide +kernel, by decide +kernel, by decide +kernel, by decide +kernel⟩
theorem kL_72 : zLk RL 72 mX10_why 1 := ⟨wsL_law_r32_l (List.mem_of_getElem? (i := 7) rfl), wsL_law_r32_l (List.mem_of_getElem? (i := 8) rfl), wsL_law_r32_l (List.mem_of_getElem? (i := 9) rfl), wsL_law_r1_l (List.mem_of_getElem? (i := 5) rfl), wsL_law_r32_l (List.mem_of_getElem? (i := 10) rfl), by decide +kernel, by decide +kernel, by decide +kernel, by decide +kernel⟩
theorem kL_73 : zLk RL 73 mX9_soonest 2 := ⟨wsL_law_r32_l (List.mem_of_getElem? (i := 11) rfl), wsL_law_r32_l (List.mem_of_getElem? (i := 12) rfl), wsL_law_r32_l (List.mem_of_getElem? (i := 13) rfl), wsL_law_r1_l (List.mem_of_getElem? (i := 2) rfl), wsL_law_r32_l (List.mem_of_getElem? (i := 14) rfl), by decide +kernel, by decide +kernel, by decide +kernel, by decide +kernel⟩
theorem kX9_222 : zLk RX9 222 mX3_firstNotRefused 3 := ⟨wsL_law_r32_l (List.mem_of_getElem? (i := 15) rfl), wsL_law_r29_l (List.mem_of_getElem? (i := 7) rfl), wsL_law_r29_l (List.mem_of_getElem? (i := 8) rfl), wsL_law_r2_l (List.mem_of_getElem? (i := 3) rfl), wsL_law_r29_l (List.mem_of_getElem? (i := 9) rfl), by decide +kernel, by decide +kernel, by decide +kernel, by decide +kernel⟩
theorem kL_76 : zLk RL 76 mX10_soonest 2 := ⟨wsL_law_r32_l (List.mem_of_getElem? (i := 16) rfl), wsL_law_r32_l (List.mem_of_getElem? (i := 17) rfl), wsL_law_r32_l (List.mem_of_getElem? (i := 18) rfl), wsL_law_r1_l (List.mem_of_getElem? (i := 5) rfl), wsL_law_r32_l (List.mem_of_getElem? (i := 19) rfl), by decide +kernel, by decide +kernel, by decide +kernel, by decide +kernel⟩
theorem kL_77 : zLk RL 77 mX9_runs 2 := ⟨wsL_law_r32_l (List.mem_of_getElem? (i := 20) rfl), wsL_law_r32_l (List.mem_of_getElem? (i := 21) rfl), wsL_law_r32_l (List.mem_of_getElem? (i := 22) rfl), wsL_law_r1_l (List.mem_of_getElem? (i := 2) rfl), wsL_law_r32_l (List.mem_of_getElem? (i := 23) rfl), by decide +kernel, by decide +kernel, by decide +kernel, by decide +kernel⟩
theorem kX9_225 : zLk RX9 225 mX3_used 2 := ⟨wsL_law_r33_l (List.mem_of_getElem? (i := 0) rfl), wsL_law_r25_l (List.mem_of_getElem? (i := 2) rfl), wsL_law_r25_l (List.mem_of_getElem? (i := 3) rfl), wsL_law_r2_l (List.mem_of_getElem? (i := 3) rfl), wsL_law_r25_l (List.mem_of_getElem? (i := 4) rfl), by decide +kernel, by decide +kernel, by decide +kernel, by decide +kernel⟩
theorem kL_80 : zLk RL 80 mX10_runs 2 := ⟨wsL_law_r33_l (List.mem_of_getElem? (i := 1) rfl), wsL_law_r33_l (List.mem_of_getElem? (i := 2) rfl), wsL_law_r33_l (List.mem_of_getElem? (i := 3) rfl), wsL_law_r1_l (List.mem_of_getElem? (i := 5) rfl), wsL_law_r33_l (List.mem_of_getElem? (i := 4) rfl), by decide +kernel, by decide +kernel, by decide +kernel, by decide +kernel⟩
theorem kL_81 : zLk RL 81 mX9_bound 1 := ⟨wsL_law_r33_l (List.mem_of_getElem? (i := 5) rfl), wsL_law_r33_l (List.mem_of_getElem? (i := 6) rfl), wsL_law_r33_l (List.mem_of_getElem? (i := 7) rfl), wsL_law_r1_l (List.mem_of_getElem? (i := 2) rfl), wsL_law_r33_l (List.mem_of_getElem? (i := 8) rfl), by decide +kernel, by decide +kernel, by decide +kernel, by decide +kernel⟩
theorem kX9_228 : zLk RX9 228 mX0_area 1 := ⟨wsL_law_r33_l (List.mem_of_getElem? (i := 9) rfl), wsL_law_r33_l (List.mem_of_getElem? (i := 10) rfl), wsL_law_r33_l (List.mem_of_getElem? (i := 11) rfl), wsL_law_r2_l (List.mem_of_getElem? (i := 7) rfl), wsL_law_r33_l (List.mem_of_getElem? (i := 12) rfl), by decide +kernel, by decide +kernel, by decide +kernel, by decide +kernel⟩
theorem kX0_29 : zLk RX0 29 mX3_takes 2 := ⟨wsL_law_r33_l (List.mem_of_getElem? (i := 19) rfl), wsL_law_r20_l (List.mem_of_getElem? (i := 10) rfl), wsL_law_r20_l (List.mem_of_getElem? (i := 11) rfl), wsL_law_r2_l (List.mem_of_getElem? (i := 3) rfl), wsL_law_r20_l (List.mem_of_getElem? (i := 12) rfl), by decide +kernel, by decide +kernel, by decide +kernel, by decide +kernel⟩
theorem kX0_40 : zLs RX0 40 mX0_upward 2 := ⟨wsL_law_r33_l (List.mem_of_getElem? (i := 20) rfl), wsL_law_r33_l (List.mem_of_getElem? (i := 21) rfl), wsL_law_r2_l (List.mem_of_getElem? (i := 7) rfl), wsL_law_r33_l (List.mem_of_getElem? (i := 22) rfl), rfl, by decide +kernel, by decide +kernel, by decide +kernel, by decide +kernel⟩
theorem kX9_232 : zLk RX9 232 mX0_path 1 := ⟨wsL_law_r33_l (List.mem_of_getElem? (i := 23) rfl), wsL_law_r34_l (List.mem_of_getElem? (i := 0) rfl), wsL_law_r34_l (List.mem_of_getElem? (i := 1) rfl), wsL_law_r2_l (List.mem_of_getElem? (i := 7) rfl), wsL_law_r34_l (List.mem_of_getElem? (i := 2) rfl), by decide +kernel, by decide +kernel, by decide +kernel, by decide +kernel⟩
theorem kX0_49 : zLk RX0 49 mX3_leastTaken 1 := ⟨wsL_law_r34_l (List.mem_of_getElem? (i := 5) rfl), wsL_law_r34_l (List.mem_of_getElem? (i := 6) rfl), wsL_law_r34_l (List.mem_of_getElem? (i := 7) rfl), wsL_law_r2_l (List.mem_of_getElem? (i := 3) rfl), wsL_law_r34_l (List.mem_of_getElem? (i := 8) rfl), by decide +kernel, by decide +kernel, by decide +kernel, by decide +kernel⟩
theorem kX9_235 : zLk RX9 235 mX0_drawn 1 := ⟨wsL_law_r34_l (List.mem_of_getElem? (i := 10) rfl), wsL_law_r34_l (List.mem_of_getElem? (i := 11) rfl), wsL_law_r34_l (List.mem_of_getElem? (i := 12) rfl), wsL_law_r2_l (List.mem_of_getElem? (i := 7) rfl), wsL_law_r34_l (List.mem_of_getElem? (i := 13) rfl), by decide +kernel, by decide +kernel, by decide +kernel, by decide +kernel⟩
theorem kX9_238 : zLk RX9 238 mX0_greatest 1 := ⟨wsL_law_r34_l (List.mem_of_getElem? (i := 16) rfl), wsL_law_r34_l (List.mem_of_getElem? (i := 17) rfl), wsL_law_r34_l (List.mem_of_getElem? (i := 18) rfl), wsL_law_r2_l (List.mem_of_getElem? (i := 7) rfl), wsL_law_r34_l (List.mem_of_getElem? (i := 19) rfl), by decide +kernel, by decide +kernel, by decide +kernel, by decide +kernel⟩
theorem kX0_59 : zLk RX0 59 mX0_area 1 := ⟨wsL_law_r34_l (List.mem_of_getElem? (i := 20) rfl), wsL_law_r33_l (List.mem_of_getElem? (i := 10) rfl), wsL_law_r33_l (List.mem_of_getElem? (i := 11) rfl), wsL_law_r2_l (List.mem_of_getElem? (i := 7) rfl), wsL_law_r33_l (List.mem_of_getElem? (i := 12) rfl), by decide +kernel, by decide +kernel, by decide +kernel, by decide +kernel⟩
theorem kX0_63 : zLk RX0 63 mX0_path 1 := ⟨wsL_law_r34_l (List.mem_of_getElem? (i := 21) rfl), wsL_law_r34_l (List.mem_of_getElem? (i := 0) rfl), wsL_law_r34_l (List.mem_of_getElem? (i := 1) rfl), wsL_law_r2_l (List.mem_of_getElem? (i := 7) rfl), wsL_law_r34_l (List.mem_of_getElem? (i := 2) rfl), by decide +kernel, by decide +kernel, by decide +kernel, by decide +kernel⟩
theorem kX0_66 : zLk RX0 66 mX0_drawn 1 := ⟨wsL_law_r34_l (List.mem_of_getElem? (i := 22) rfl), wsL_law_r34_l (List.mem_of_getElem? (i := 11) rfl), wsL_law_r34_l (List.mem_of_getElem? (i := 12) rfl), wsL_law_r2_l (List.mem_of_getElem? (i := 7) rfl), wsL_law_r34_l (List.mem_of_getElem? (i := 13) rfl), by decide +kernel, by decide +kernel, by decide +kernel, by decide +kernel⟩
theorem kL_84 : zLk RL 84 mX10_bound 1 := ⟨wsL_law_r34_l (List.mem_of_getElem? (i := 23) rfl), wsL_law_r35_l (List.mem_of_getElem? (i := 0) rfl), wsL_law_r35_l (List.mem_of_getElem? (i := 1) rfl), wsL_law_r1_l (List.mem_of_getElem? (i := 5) rfl), wsL_law_r35_l (List.mem_of_getElem? (i := 2) rfl), by decide +kernel, by decide +kernel, by decide +kernel, by decide +kernel⟩
theorem kX10_288 : zLk RX10 288 mX10_areaOf 0 := ⟨wsL_law_r35_l (List.mem_of_getElem? (i := 3) rfl), wsL_law_r35_l (List.mem_of_getElem? (i := 4) rfl), wsL_law_r35_l (List.mem_of_getElem? (i := 5) rfl), wsL_law_r1_l (List.mem_of_getElem? (i := 5) rfl), wsL_law_r35_l (List.mem_of_getElem? (i := 6) rfl), by decide +kernel, by decide +kernel, by decide +kernel, by decide +kernel⟩
theorem kX10_282 : zLs RX10 282 mX10_upward 2 := ⟨wsL_law_r35_l (List.mem_of_getElem? (i := 7) rfl), wsL_law_r35_l (List.mem_of_getElem? (i := 8) rfl), wsL_law_r1_l (List.mem_of_getElem? (i := 5) rfl), wsL_law_r35_l (List.mem_of_getElem? (i := 9) rfl), rfl, by decide +kernel, by decide +kernel, by decide +kernel, by decide +kernel⟩
theorem kX10_291 : zLk RX10 291 mX10_pathOf 0 := ⟨wsL_law_r35_l (List.mem_of_getElem? (i := 10) rfl), wsL_law_r35_l (List.mem_of_getElem? (i := 11) rfl), wsL_law_r35_l (List.mem_of_getElem? (i := 12) rfl), wsL_law_r1_l (List.mem_of_getElem? (i := 5) rfl), wsL_law_r35_l (List.mem_of_getElem? (i := 13) rfl), by decide +kernel, by decide +kernel, by decide +kernel, by decide +kernel⟩
theorem kX10_285 : zLk RX10 285 mX10_leastTakes 1 := ⟨wsL_law_r35_l (List.mem_of_getElem? (i := 14) rfl), wsL_law_r35_l (List.mem_of_getElem? (i := 15) rfl), wsL_law_r35_l (List.mem_of_getElem? (i := 16) rfl), wsL_law_r1_l (List.mem_of_getElem? (i := 5) rfl), wsL_law_r35_l (List.mem_of_getElem? (i := 17) rfl), by decide +kernel, by decide +kernel, by decide +kernel, by decide +kernel⟩
theorem kX10_294 : zLk RX10 294 mX10_drawnOf 0 := ⟨wsL_law_r35_l (List.mem_of_getElem? (i := 18) rfl), wsL_law_r35_l (List.mem_of_getElem? (i := 19) rfl), wsL_law_r35_l (List.mem_of_getElem? (i := 20) rfl), wsL_law_r1_l (List.mem_of_getElem? (i := 5) rfl), wsL_law_r35_l (List.mem_of_getElem? (i := 21) rfl), by decide +kernel, by decide +kernel, by decide +kernel, by decide +kernel⟩
theorem kL_85 : zLk RL 85 mX9_best 1 := ⟨wsL_law_r35_l (List.mem_of_getElem? (i := 22) rfl), wsL_law_r35_l (List.mem_of_getElem? (i := 23) rfl), wsL_law_r36_l (List.mem_of_getElem? (i := 0) rfl), wsL_law_r1_l (List.mem_of_getElem? (i := 2) rfl), wsL_law_r36_l (List.mem_of_getElem? (i := 1) rfl), by decide +kernel, by decide +kernel, by decide +kernel, by decide +kernel⟩
theorem kX9_241 : zLk RX9 241 mX5_leastLength 2 := ⟨wsL_law_r36_l (List.mem_of_getElem? (i := 2) rfl), wsL_law_r36_l (List.mem_of_getElem? (i := 3) rfl), wsL_law_r36_l (List.mem_of_getElem? (i := 4) rfl), wsL_law_r2_l (List.mem_of_getElem? (i := 11) rfl), wsL_law_r36_l (List.mem_of_getElem? (i := 5) rfl), by decide +kernel, by decide +kernel, by decide +kernel, by decide +kernel⟩
theorem kX5_71 : zLk RX5 71 mX3_startOver 1 := ⟨wsL_law_r36_l (List.mem_of_getElem? (i := 10) rfl), wsL_law_r12_l (List.mem_of_getElem? (i := 17) rfl), wsL_law_r12_l (List.mem_of_getElem? (i := 18) rfl), wsL_law_r2_l (List.mem_of_getElem? (i := 3) rfl), wsL_law_r12_l (List.mem_of_getElem? (i := 19) rfl), by decide +kernel, by decide +kernel, by decide +kernel, by decide +kernel⟩
theorem kX5_75 : zLk RX5 75 mX0_greatest 1 := ⟨wsL_law_r36_l (List.mem_of_getElem? (i := 11) rfl), wsL_law_r34_l (List.mem_of_getElem? (i := 17) rfl), wsL_law_r34_l (List.mem_of_getElem? (i := 18) rfl), wsL_law_r2_l (List.mem_of_getElem? (i := 7) rfl), wsL_law_r34_l (List.mem_of_getElem? (i := 19) rfl), by decide +kernel, by decide +kernel, by decide +kernel, by decide +kernel⟩
theorem kX5_79 : zLs RX5 79 mX5_tryAll 4 := ⟨wsL_law_r36_l (List.mem_of_getElem? (i := 12) rfl), wsL_law_r36_l (List.mem_of_getElem? (i := 13) rfl), wsL_law_r2_l (List.mem_of_getElem? (i := 11) rfl), wsL_law_r36_l (List.mem_of_getElem? (i := 14) rfl), rfl, by decide +kernel, by decide +kernel, by decide +kernel, by decide +kernel⟩
theorem kX5_92 : zLk RX5 92 mX3_placeDoneFirst 2 := ⟨wsL_law_r36_l (List.mem_of_getElem? (i := 19) rfl), wsL_law_r29_l (List.mem_of_getElem? (i := 3) rfl), wsL_law_r29_l (List.mem_of_getElem? (i := 4) rfl), wsL_law_r2_l (List.mem_of_getElem? (i := 3) rfl), wsL_law_r29_l (List.mem_of_getElem? (i := 5) rfl), by decide +kernel, by decide +kernel, by decide +kernel, by decide +kernel⟩
theorem kX5_105 : zLk RX5 105 mX3_takeOff 1 := ⟨wsL_law_r36_l (List.mem_of_getElem? (i := 20) rfl), wsL_law_r13_l (List.mem_of_getElem? (i := 0) rfl), wsL_law_r13_l (List.mem_of_getElem? (i := 1) rfl), wsL_law_r2_l (List.mem_of_getElem? (i := 3) rfl), wsL_law_r13_l (List.mem_of_getElem? (i := 2) rfl), by decide +kernel, by decide +kernel, by decide +kernel, by decide +kernel⟩
theorem kX9_245 : zLk RX9 245 mX5_placedAt 1 := ⟨wsL_law_r36_l (List.mem_of_getElem? (i := 21) rfl), wsL_law_r36_l (List.mem_of_getElem? (i := 22) rfl), wsL_law_r36_l (List.mem_of_getElem? (i := 23) rfl), wsL_law_r2_l (List.mem_of_getElem? (i := 11) rfl), wsL_law_r37_l (List.mem_of_getElem? (i := 0) rfl), by decide +kernel, by decide +kernel, by decide +kernel, by decide +kernel⟩
theorem kL_88 : zLk RL 88 mX10_best 1 := ⟨wsL_law_r37_l (List.mem_of_getElem? (i := 1) rfl), wsL_law_r37_l (List.mem_of_getElem? (i := 2) rfl), wsL_law_r37_l (List.mem_of_getElem? (i := 3) rfl), wsL_law_r1_l (List.mem_of_getElem? (i := 5) rfl), wsL_law_r37_l (List.mem_of_getElem? (i := 4) rfl), by decide +kernel, by decide +kernel, by decide +kernel, by decide +kernel⟩
theorem kX10_309 : zLk RX10 309 mX10_bestBy 1 := ⟨wsL_law_r37_l (List.mem_of_getElem? (i := 6) rfl), wsL_law_r37_l (List.mem_of_getElem? (i := 7) rfl), wsL_law_r37_l (List.mem_of_getElem? (i := 8) rfl), wsL_law_r1_l (List.mem_of_getElem? (i := 5) rfl), wsL_law_r37_l (List.mem_of_getElem? (i := 9) rfl), by decide +kernel, by decide +kernel, by decide +kernel, by decide +kernel⟩
theorem kX10_301 : zLk RX10 301 mX10_goOrder 1 := ⟨wsL_law_r37_l (List.mem_of_getElem? (i := 10) rfl), wsL_law_r37_l (List.mem_of_getElem? (i := 11) rfl), wsL_law_r37_l (List.mem_of_getElem? (i := 12) rfl), wsL_law_r1_l (List.mem_of_getElem? (i := 5) rfl), wsL_law_r37_l (List.mem_of_getElem? (i := 13) rfl), by decide +kernel, by decide +kernel, by decide +kernel, by decide +kernel⟩
theorem kX10_304 : zLk RX10 304 mX10_nextOrder 0 := ⟨wsL_law_r37_l (List.mem_of_getElem? (i := 14) rfl), wsL_law_r37_l (List.mem_of_getElem? (i := 15) rfl), wsL_law_r37_l (List.mem_of_getElem? (i := 16) rfl), wsL_law_r1_l (List.mem_of_getElem? (i := 5) rfl), wsL_law_r37_l (List.mem_of_getElem? (i := 17) rfl), by decide +kernel, by decide +kernel, by decide +kernel, by decide +kernel⟩
theorem kX10_297 : zLk RX10 297 mX10_swap 2 := ⟨wsL_law_r37_l (List.mem_of_getElem? (i := 18) rfl), wsL_law_r37_l (List.mem_of_getElem? (i := 19) rfl), wsL_law_r37_l (List.mem_of_getElem? (i := 20) rfl), wsL_law_r1_l (List.mem_of_getElem? (i := 5) rfl), wsL_law_r37_l (List.mem_of_getElem? (i := 21) rfl), by decide +kernel, by decide +kernel, by decide +kernel, by decide +kernel⟩
theorem kL_89 : zLk RL 89 mX9_costs 1 := ⟨wsL_law_r37_l (List.mem_of_getElem? (i := 22) rfl), wsL_law_r37_l (List.mem_of_getElem? (i := 23) rfl), wsL_law_r38_l (List.mem_of_getElem? (i := 0) rfl), wsL_law_r1_l (List.mem_of_getElem? (i := 2) rfl), wsL_law_r38_l (List.mem_of_getElem? (i := 1) rfl), by decide +kernel, by decide +kernel, by decide +kernel, by decide +kernel⟩
theorem kL_92 : zLk RL 92 mX10_costs 1 := ⟨wsL_law_r38_l (List.mem_of_getElem? (i := 4) rfl), wsL_law_r38_l (List.mem_of_getElem? (i := 5) rfl), wsL_law_r38_l (List.mem_of_getElem? (i := 6) rfl), wsL_law_r1_l (List.mem_of_getElem? (i := 5) rfl), wsL_law_r38_l (List.mem_of_getElem? (i := 7) rfl), by decide +kernel, by decide +kernel, by decide +kernel, by decide +kernel⟩
theorem kL_93 : zLk RL 93 mX9_seen 3 := ⟨wsL_law_r38_l (List.mem_of_getElem? (i := 8) rfl), wsL_law_r38_l (List.mem_of_getElem? (i := 9) rfl), wsL_law_r38_l (List.mem_of_getElem? (i := 10) rfl), wsL_law_r1_l (List.mem_of_getElem? (i := 2) rfl), wsL_law_r38_l (List.mem_of_getElem? (i := 11) rfl), by decide +kernel, by decide +kernel, by decide +kernel, by decide +kernel⟩
theorem kX9_253 : zLk RX9 253 mX7_add 3 := ⟨wsL_law_r38_l (List.mem_of_getElem? (i := 13) rfl), wsL_law_r38_l (List.mem_of_getElem? (i := 14) rfl), wsL_law_r38_l (List.mem_of_getElem? (i := 15) rfl), wsL_law_r3_l (List.mem_of_getElem? (i := 2) rfl), wsL_law_r38_l (List.mem_of_getElem? (i := 16) rfl), by decide +kernel, by decide +kernel, by decide +kernel, by decide +kernel⟩
theorem kL_96 : zLk RL 96 mX10_seen 3 := ⟨wsL_law_r38_l (List.mem_of_getElem? (i := 17) rfl), wsL_law_r38_l (List.mem_of_getElem? (i := 18) rfl), wsL_law_r38_l (List.mem_of_getElem? (i := 19) rfl), wsL_law_r1_l (List.mem_of_getElem? (i := 5) rfl), wsL_law_r38_l (List.mem_of_getElem? (i := 20) rfl), by decide +kernel, by decide +kernel, by decide +kernel, by decide +kernel⟩
theorem kL_97 : zLk RL 97 mX9_forget 0 := ⟨wsL_law_r38_l (List.mem_of_getElem? (i := 22) rfl), wsL_law_r38_l (List.mem_of_getElem? (i := 23) rfl), wsL_law_r39_l (List.mem_of_getElem? (i := 0) rfl), wsL_law_r1_l (List.mem_of_getElem? (i := 2) rfl), wsL_law_r39_l (List.mem_of_getElem? (i := 1) rfl), by decide +kernel, by decide +kernel, by decide +kernel, by decide +kernel⟩
theorem kL_100 : zLk RL 100 mX10_forget 0 := ⟨wsL_law_r39_l (List.mem_of_getElem? (i := 2) rfl), wsL_law_r39_l (List.mem_of_getElem? (i := 3) rfl), wsL_law_r39_l (List.mem_of_getElem? (i := 4) rfl), wsL_law_r1_l (List.mem_of_getElem? (i := 5) rfl), wsL_law_r39_l (List.mem_of_getElem? (i := 5) rfl), by decide +kernel, by decide +kernel, by decide +kernel, by decide +kernel⟩
theorem kL_101 : zLk RL 101 mX9_kinds 1 := ⟨wsL_law_r39_l (List.mem_of_getElem? (i := 6) rfl), wsL_law_r39_l (List.mem_of_getElem? (i := 7) rfl), wsL_law_r39_l (List.mem_of_getElem? (i := 8) rfl), wsL_law_r1_l (List.mem_of_getElem? (i := 2) rfl), wsL_law_r39_l (List.mem_of_getElem? (i := 9) rfl), by decide +kernel, by decide +kernel, by decide +kernel, by decide +kernel⟩
theorem kX9_256 : zLk RX9 256 mX7_kindsOf 1 := ⟨wsL_law_r39_l (List.mem_of_getElem? (i := 10) rfl), wsL_law_r39_l (List.mem_of_getElem? (i := 11) rfl), wsL_law_r39_l (List.mem_of_getElem? (i := 12) rfl), wsL_law_r3_l (List.mem_of_getElem? (i := 2) rfl), wsL_law_r39_l (List.mem_of_getElem? (i := 13) rfl), by decide +kernel, by decide +kernel, by decide +kernel, by decide +kernel⟩
theorem kX7_29 : zLk RX7 29 mX7_agree 2 := ⟨wsL_law_r39_l (List.mem_of_getElem? (i := 14) rfl), wsL_law_r39_l (List.mem_of_getElem? (i := 15) rfl), wsL_law_r39_l (List.mem_of_getElem? (i := 16) rfl), wsL_law_r3_l (List.mem_of_getElem? (i := 2) rfl), wsL_law_r39_l (List.mem_of_getElem? (i := 17) rfl), by decide +kernel, by decide +kernel, by decide +kernel, by decide +kernel⟩
theorem kX7_33 : zLk RX7 33 mX2_takes 3 := ⟨wsL_law_r39_l (List.mem_of_getElem? (i := 18) rfl), wsL_law_r20_l (List.mem_of_getElem? (i := 14) rfl), wsL_law_r20_l (List.mem_of_getElem? (i := 15) rfl), wsL_law_r1_l (List.mem_of_getElem? (i := 22) rfl), wsL_law_r20_l (List.mem_of_getElem? (i := 16) rfl), by decide +kernel, by decide +kernel, by decide +kernel, by decide +kernel⟩
theorem kL_104 : zLk RL 104 mX10_kinds 1 := ⟨wsL_law_r39_l (List.mem_of_getElem? (i := 19) rfl), wsL_law_r39_l (List.mem_of_getElem? (i := 20) rfl), wsL_law_r39_l (List.mem_of_getElem? (i := 21) rfl), wsL_law_r1_l (List.mem_of_getElem? (i := 5) rfl), wsL_law_r39_l (List.mem_of_getElem? (i := 22) rfl), by decide +kernel, by decide +kernel, by decide +kernel, by decide +kernel⟩
theorem kL_105 : zLk RL 105 mX9_keep 0 := ⟨wsL_law_r39_l (List.mem_of_getElem? (i := 23) rfl), wsL_law_r40_l (List.mem_of_getElem? (i := 0) rfl), wsL_law_r40_l (List.mem_of_getElem? (i := 1) rfl), wsL_law_r1_l (List.mem_of_getElem? (i := 2) rfl), wsL_law_r40_l (List.mem_of_getElem? (i := 2) rfl), by decide +kernel, by decide +kernel, by decide +kernel, by decide +kernel⟩
theorem kL_108 : zLk RL 108 mX10_keep 0 := ⟨wsL_law_r40_l (List.mem_of_getElem? (i := 3) rfl), wsL_law_r40_l (List.mem_of_getElem? (i := 4) rfl), wsL_law_r40_l (List.mem_of_getElem? (i := 5) rfl), wsL_law_r1_l (List.mem_of_getElem? (i := 5) rfl), wsL_law_r40_l (List.mem_of_getElem? (i := 6) rfl), by decide +kernel, by decide +kernel, by decide +kernel, by decide +kernel⟩
theorem kL_109 : zLk RL 109 mX9_back 0 := ⟨wsL_law_r40_l (List.mem_of_getElem? (i := 7) rfl), wsL_law_r40_l (List.mem_of_getElem? (i := 8) rfl), wsL_law_r40_l (List.mem_of_getElem? (i := 9) rfl), wsL_law_r1_l (List.mem_of_getElem? (i := 2) rfl), wsL_law_r40_l (List.mem_of_getElem? (i := 10) rfl), by decide +kernel, by decide +kernel, by decide +kernel, by decide +kernel⟩
theorem kL_112 : zLk RL 112 mX10_back 0 := ⟨wsL_law_r40_l (List.mem_of_getElem? (i := 11) rfl), wsL_law_r40_l (List.mem_of_getElem? (i := 12) rfl), wsL_law_r40_l (List.mem_of_getElem? (i := 13) rfl), wsL_law_r1_l (List.mem_of_getElem? (i := 5) rfl), wsL_law_r40_l (List.mem_of_getElem? (i := 14) rfl), by decide +kernel, by decide +kernel, by decide +kernel, by decide +kernel⟩
theorem kL_113 : zLk RL 113 mX9_count 1 := ⟨wsL_law_r40_l (List.mem_of_getElem? (i := 15) rfl), wsL_law_r40_l (List.mem_of_getElem? (i := 16) rfl), wsL_law_r40_l (List.mem_of_getElem? (i := 17) rfl), wsL_law_r1_l (List.mem_of_getElem? (i := 2) rfl), wsL_law_r40_l (List.mem_of_getElem? (i := 18) rfl), by decide +kernel, by decide +kernel, by decide +kernel, by decide +kernel⟩
theorem kX9_266 : zLk RX9 266 mX3_manyPut 0 := ⟨wsL_law_r40_l (List.mem_of_getElem? (i := 20) rfl), wsL_law_r40_l (List.mem_of_getElem? (i := 21) rfl), wsL_law_r40_l (List.mem_of_getElem? (i := 22) rfl), wsL_law_r2_l (List.mem_of_getElem? (i := 3) rfl), wsL_law_r40_l (List.mem_of_getElem? (i := 23) rfl), by decide +kernel, by decide +kernel, by decide +kernel, by decide +kernel⟩
theorem kL_116 : zLk RL 116 mX10_count 1 := ⟨wsL_law_r41_l (List.mem_of_getElem? (i := 0) rfl), wsL_law_r41_l (List.mem_of_getElem? (i := 1) rfl), wsL_law_r41_l (List.mem_of_getElem? (i := 2) rfl), wsL_law_r1_l (List.mem_of_getElem? (i := 5) rfl), wsL_law_r41_l (List.mem_of_getElem? (i := 3) rfl), by decide +kernel, by decide +kernel, by decide +kernel, by decide +kernel⟩
theorem kX10_314 : zLk RX10 314 mX10_putMany 0 := ⟨wsL_law_r41_l (List.mem_of_getElem? (i := 4) rfl), wsL_law_r41_l (List.mem_of_getElem? (i := 5) rfl), wsL_law_r41_l (List.mem_of_getElem? (i := 6) rfl), wsL_law_r1_l (List.mem_of_getElem? (i := 5) rfl), wsL_law_r41_l (List.mem_of_getElem? (i := 7) rfl), by decide +kernel, by decide +kernel, by decide +kernel, by decide +kernel⟩
theorem kX10_317 : zLk RX10 317 mX10_lengthNow 0 := ⟨wsL_law_r41_l (List.mem_of_getElem? (i := 8) rfl), wsL_law_r41_l (List.mem_of_getElem? (i := 9) rfl), wsL_law_r41_l (List.mem_of_getElem? (i := 10) rfl), wsL_law_r1_l (List.mem_of_getElem? (i := 5) rfl), wsL_law_r41_l (List.mem_of_getElem? (i := 11) rfl), by decide +kernel, by decide +kernel, by decide +kernel, by decide +kernel⟩
theorem p1_1 : zFp 1 1 false .int := fun C T N h => by
  have h2 : (RX1, TX1, 2) = (C, T, N) := Option.some.inj h
  cases h2
  exact ⟨⟨tyX1, tyX1_ok⟩, nmX1, rfl, by decide +kernel⟩
theorem p2_0 : zFp 2 0 false .int := fun C T N h => by
  have h2 : (RX2, TX2, 15) = (C, T, N) := Option.some.inj h
  cases h2
  exact ⟨⟨tyX2, tyX2_ok⟩, nmX2, rfl, by decide +kernel⟩
theorem p2_1 : zFp 2 1 false .int := fun C T N h => by
  have h2 : (RX2, TX2, 15) = (C, T, N) := Option.some.inj h
  cases h2
  exact ⟨⟨tyX2, tyX2_ok⟩, nmX2, rfl, by decide +kernel⟩
theorem p2_2 : zFp 2 2 false .int := fun C T N h => by
  have h2 : (RX2, TX2, 15) = (C, T, N) := Option.some.inj h
  cases h2
  exact ⟨⟨tyX2, tyX2_ok⟩, nmX2, rfl, by decide +kernel⟩
theorem p2_3 : zFp 2 3 false .int := fun C T N h => by
  have h2 : (RX2, TX2, 15) = (C, T, N) := Option.some.inj h
  cases h2
  exact ⟨⟨tyX2, tyX2_ok⟩, nmX2, rfl, by decide +kernel⟩
theorem p4_1 : zFp 4 1 false .int := fun C T N h => by
  have h2 : (RX4, TX4, 2) = (C, T, N) := Option.some.inj h
  cases h2
  exact ⟨⟨tyX4, tyX4_ok⟩, nmX4, rfl, by decide +kernel⟩
theorem p5_7 : zFp 5 7 false .int := fun C T N h => by
  have h2 : (RX5, TX5, 10) = (C, T, N) := Option.some.inj h
  cases h2
  exact ⟨⟨tyX5, tyX5_ok⟩, nmX5, rfl, by decide +kernel⟩
theorem p5_8 : zFp 5 8 false .int := fun C T N h => by
  have h2 : (RX5, TX5, 10) = (C, T, N) := Option.some.inj h
  cases h2
  exact ⟨⟨tyX5, tyX5_ok⟩, nmX5, rfl, by decide +kernel⟩
theorem p5_9 : zFp 5 9 false .int := fun C T N h => by
  have h2 : (RX5, TX5, 10) = (C, T, N) := Option.some.inj h
  cases h2
  exact ⟨⟨tyX5, tyX5_ok⟩, nmX5, rfl, by decide +kernel⟩
theorem p6_1 : zFp 6 1 false .int := fun C T N h => by
  have h2 : (RX6, TX6, 2) = (C, T, N) := Option.some.inj h
  cases h2
  exact ⟨⟨tyX6, tyX6_ok⟩, nmX6, rfl, by decide +kernel⟩
theorem p7_4 : zFp 7 4 false .int := fun C T N h => by
  have h2 : (RX7, TX7, 5) = (C, T, N) := Option.some.inj h
  cases h2
  exact ⟨⟨tyX7, tyX7_ok⟩, nmX7, rfl, by decide +kernel⟩
theorem p8_1 : zFp 8 1 false .int := fun C T N h => by
  have h2 : (RX8, TX8, 2) = (C, T, N) := Option.some.inj h
  cases h2
  exact ⟨⟨tyX8, tyX8_ok⟩, nmX8, rfl, by decide +kernel⟩
theorem p10_0 : zFp 10 0 false .int := fun C T N h => by
  have h2 : (RX10, TX10, 44) = (C, T, N) := Option.some.inj h
  cases h2
  exact ⟨⟨tyX10, tyX10_ok⟩, nmX10, rfl, by decide +kernel⟩
theorem p10_1 : zFp 10 1 false .int := fun C T N h => by
  have h2 : (RX10, TX10, 44) = (C, T, N) := Option.some.inj h
  cases h2
  exact ⟨⟨tyX10, tyX10_ok⟩, nmX10, rfl, by decide +kernel⟩
theorem p10_2 : zFp 10 2 false .int := fun C T N h => by
  have h2 : (RX10, TX10, 44) = (C, T, N) := Option.some.inj h
  cases h2
  exact ⟨⟨tyX10, tyX10_ok⟩, nmX10, rfl, by decide +kernel⟩
theorem p10_3 : zFp 10 3 false .int := fun C T N h => by
  have h2 : (RX10, TX10, 44) = (C, T, N) := Option.some.inj h
  cases h2
  exact ⟨⟨tyX10, tyX10_ok⟩, nmX10, rfl, by decide +kernel⟩
theorem p10_12 : zFp 10 12 false .int := fun C T N h => by
  have h2 : (RX10, TX10, 44) = (C, T, N) := Option.some.inj h
  cases h2
  exact ⟨⟨tyX10, tyX10_ok⟩, nmX10, rfl, by decide +kernel⟩
theorem p10_14 : zFp 10 14 false .int := fun C T N h => by
  have h2 : (RX10, TX10, 44) = (C, T, N) := Option.some.inj h
  cases h2
  exact ⟨⟨tyX10, tyX10_ok⟩, nmX10, rfl, by decide +kernel⟩
theorem p10_16 : zFp 10 16 false .int := fun C T N h => by
  have h2 : (RX10, TX10, 44) = (C, T, N) := Option.some.inj h
  cases h2
  exact ⟨⟨tyX10, tyX10_ok⟩, nmX10, rfl, by decide +kernel⟩
theorem p10_18 : zFp 10 18 false .int := fun C T N h => by
  have h2 : (RX10, TX10, 44) = (C, T, N) := Option.some.inj h
  cases h2
  exact ⟨⟨tyX10, tyX10_ok⟩, nmX10, rfl, by decide +kernel⟩
theorem p10_20 : zFp 10 20 false .int := fun C T N h => by
  have h2 : (RX10, TX10, 44) = (C, T, N) := Option.some.inj h
  cases h2
  exact ⟨⟨tyX10, tyX10_ok⟩, nmX10, rfl, by decide +kernel⟩
theorem p10_21 : zFp 10 21 false .int := fun C T N h => by
  have h2 : (RX10, TX10, 44) = (C, T, N) := Option.some.inj h
  cases h2
  exact ⟨⟨tyX10, tyX10_ok⟩, nmX10, rfl, by decide +kernel⟩
theorem p10_22 : zFp 10 22 false .int := fun C T N h => by
  have h2 : (RX10, TX10, 44) = (C, T, N) := Option.some.inj h
  cases h2
  exact ⟨⟨tyX10, tyX10_ok⟩, nmX10, rfl, by decide +kernel⟩
theorem p10_23 : zFp 10 23 false .int := fun C T N h => by
  have h2 : (RX10, TX10, 44) = (C, T, N) := Option.some.inj h
  cases h2
  exact ⟨⟨tyX10, tyX10_ok⟩, nmX10, rfl, by decide +kernel⟩
theorem p10_24 : zFp 10 24 false .int := fun C T N h => by
  have h2 : (RX10, TX10, 44) = (C, T, N) := Option.some.inj h
  cases h2
  exact ⟨⟨tyX10, tyX10_ok⟩, nmX10, rfl, by decide +kernel⟩
theorem p10_25 : zFp 10 25 false .int := fun C T N h => by
  have h2 : (RX10, TX10, 44) = (C, T, N) := Option.some.inj h
  cases h2
  exact ⟨⟨tyX10, tyX10_ok⟩, nmX10, rfl, by decide +kernel⟩
theorem p10_26 : zFp 10 26 false .int := fun C T N h => by
  have h2 : (RX10, TX10, 44) = (C, T, N) := Option.some.inj h
  cases h2
  exact ⟨⟨tyX10, tyX10_ok⟩, nmX10, rfl, by decide +kernel⟩
theorem p10_37 : zFp 10 37 false .int := fun C T N h => by
  have h2 : (RX10, TX10, 44) = (C, T, N) := Option.some.inj h
  cases h2
  exact ⟨⟨tyX10, tyX10_ok⟩, nmX10, rfl, by decide +kernel⟩
theorem p10_38 : zFp 10 38 false .int := fun C T N h => by
  have h2 : (RX10, TX10, 44) = (C, T, N) := Option.some.inj h
  cases h2
  exact ⟨⟨tyX10, tyX10_ok⟩, nmX10, rfl, by decide +kernel⟩
def zWL : List (List (Option Nat)) := [[some 1, some 3, some 4, some 34, some 64, some 70, some 72, some 94, some 95, some 105, some 109, some 111], [some 2], [], [some 1], [none, none, none, none, some 5, some 6, some 7, some 8, some 9, some 16, some 17, some 18, some 25, some 32, some 33], [], [], [], [], [some 10, some 11, some 12, some 13, some 14, some 15], [], [], [], [], [], [], [], [], [some 19, some 20, some 21, some 22, some 23, some 24], [], [], [], [], [], [], [some 26, some 27, some 28, some 29, some 30, some 31], [], [], [], [], [], [], [], [], [none, none, none, none, some 35, some 36, some 37, some 38, some 39, some 46, some 47, some 48, some 55, some 62, some 63], [], [], [], [], [some 40, some 41, some 42, some 43, some 44, some 45], [], [], [], [], [], [], [], [], [some 49, some 50, some 51, some 52, some 53, some 54], [], [], [], [], [], [], [some 56, some 57, some 58, some 59, some 60, some 61], [], [], [], [], [], [], [], [], [some 34, some 65, some 66, some 67, some 68, some 69], [], [], [], [], [], [some 34, some 71], [], [some 34, some 86, some 92, some 73, some 74, some 84, some 85], [], [some 75, some 76, some 77, some 78, some 79, some 80, some 81, some 82, some 83], [], [], [], [], [], [], [], [], [], [], [], [some 34, some 87, some 88, some 89, some 90, some 91], [], [], [], [], [], [some 34, some 93], [], [], [some 96], [], [], [], [], [], [], [], [], [], [some 106], [], [], [], [some 110], [], [some 34, some 112, some 113, some 114], [], [], [], [none, none, none, none, some 116, some 117, some 118, some 119, some 120, some 121, some 122, some 123, none, some 124, none, some 125, none, some 126, none, some 127, none, none, none, none, none, none, none, some 128, some 129, some 130, some 131, some 132, some 133, some 134, some 135, some 136, some 137, none, none, some 138, some 139, some 140, some 141, some 142]]
def zW0 (a : Nat) (j : Int) : Option Nat := match j with
  | .ofNat k => (zWL.getD a []).getD k none
  | .negSucc _ => none
/-- the references are as the constructors set them (the rows of the two shelves apart) -/
def zWir (N : Nat) (R : zRef) : Prop := ∀ a j r, a < N → zW0 a j = some r → R a j = some r
end
section
/-! calls by what they answer; switches; small tools -/
def zP1 (P : Int → zMem → zRef → Prop) : zPo := fun r I R => ∃ x, r = some x ∧ P x I R
def zP0 (P : zMem → zRef → Prop) : zPo := fun r I R => r = none ∧ P I R
section ZC
variable {G : zG} {mi : zM} {d mc ms k q pc t : Nat} {ls : List (Option zV)} {st : List zV} {n : Nat} {I : zMem} {R : zRef} {Q : zPo}
theorem wp_vi {x o na ci : Nat} {m2 : zM} {As rest : List zV} {P : Int → zMem → zRef → Prop} (hM : MT G m2 d 0 0 (zR o :: As) n I R (zP1 P)) (hd : mi.2.2.2.2[t]? = some (pc, .invokevirtual x, 3)) (hl : zLk mi.1.cls x m2 na) (hn : As.length = na) (hst : st = As.reverse ++ zR o :: rest) (ho : o < n) (hk : (zlay o).1 = ci) (hci : ∃ T N, vwCl[ci]? = some (m2.1.cls, T, N)) (hr : rest.length ≤ 4) (hcs : k ≤ mc ∧ q ≤ ms)
    (kk : ∀ r I' R', P r I' R' → WP G mi (d + 1) mc ms k q (pc + 3) ls (.inl r :: rest) n I' R' Q) : WP G mi (d + 1) mc ms k q pc ls st n I R Q :=
  wp_callV hd hl hn hst ho hk hci hr hcs hM (fun r I' R' h => by
    obtain ⟨y, rfl, h⟩ := h
    exact kk y I' R' h)
theorem wp_vv {x o na ci : Nat} {m2 : zM} {As rest : List zV} {P : zMem → zRef → Prop} (hM : MT G m2 d 0 0 (zR o :: As) n I R (zP0 P)) (hd : mi.2.2.2.2[t]? = some (pc, .invokevirtual x, 3)) (hl : zLk mi.1.cls x m2 na) (hn : As.length = na) (hst : st = As.reverse ++ zR o :: rest) (ho : o < n) (hk : (zlay o).1 = ci) (hci : ∃ T N, vwCl[ci]? = some (m2.1.cls, T, N)) (hr : rest.length ≤ 4) (hcs : k ≤ mc ∧ q ≤ ms)
    (kk : ∀ I' R', P I' R' → WP G mi (d + 1) mc ms k q (pc + 3) ls rest n I' R' Q) : WP G mi (d + 1) mc ms k q pc ls st n I R Q :=
  wp_callV hd hl hn hst ho hk hci hr hcs hM (fun r I' R' h => by
    obtain ⟨rfl, h⟩ := h
    exact kk I' R' h)
theorem wp_si {x na : Nat} {m2 : zM} {As rest : List zV} {P : Int → zMem → zRef → Prop} (hM : MT G m2 d 0 0 As n I R (zP1 P)) (hd : mi.2.2.2.2[t]? = some (pc, .invokestatic x, 3)) (hl : zLs mi.1.cls x m2 na) (hn : As.length = na) (hst : st = As.reverse ++ rest) (hr : rest.length ≤ 4) (hcs : k ≤ mc ∧ q ≤ ms)
    (kk : ∀ r I' R', P r I' R' → WP G mi (d + 1) mc ms k q (pc + 3) ls (.inl r :: rest) n I' R' Q) : WP G mi (d + 1) mc ms k q pc ls st n I R Q :=
  wp_callS hd hl hn hst hr hcs hM (fun r I' R' h => by
    obtain ⟨y, rfl, h⟩ := h
    exact kk y I' R' h)
theorem wp_sv {x na : Nat} {m2 : zM} {As rest : List zV} {P : zMem → zRef → Prop} (hM : MT G m2 d 0 0 As n I R (zP0 P)) (hd : mi.2.2.2.2[t]? = some (pc, .invokestatic x, 3)) (hl : zLs mi.1.cls x m2 na) (hn : As.length = na) (hst : st = As.reverse ++ rest) (hr : rest.length ≤ 4) (hcs : k ≤ mc ∧ q ≤ ms)
    (kk : ∀ I' R', P I' R' → WP G mi (d + 1) mc ms k q (pc + 3) ls rest n I' R' Q) : WP G mi (d + 1) mc ms k q pc ls st n I R Q :=
  wp_callS hd hl hn hst hr hcs hM (fun r I' R' h => by
    obtain ⟨rfl, h⟩ := h
    exact kk I' R' h)
theorem wp_top {x : Int} (kk : ∀ y, y = x → WP G mi d mc ms k q pc ls (.inl y :: st) n I R Q) : WP G mi d mc ms k q pc ls (.inl x :: st) n I R Q := kk x rfl
theorem wp_tin {x : Int} (i : Int) {dflt lo hi off : Int} {offs : Array Int} {len tgt : Nat} (hd : mi.2.2.2.2[t]? = some (pc, .tableswitch dflt lo hi offs, len)) (hxi : x = i) (hz : zin x) (h1 : lo ≤ i) (h2 : i ≤ hi) (ho : offs[(i - lo).toNat]? = some off) (ht : (pc : Int) + off = (tgt : Int)) (kk : WP G mi d mc ms k q tgt ls st n I R Q) : WP G mi d mc ms k q pc ls (.inl x :: st) n I R Q := by
  intro p e s m args below meth c H locs lsA F hZ hS hV hL
  obtain ⟨hx, hb, hml, hown, hts, hr, hlk, hnm, hK, hok⟩ := id F
  subst hxi
  exact lv_tableIn hx hb (ztok_at hok hd) (by rw [z32 hz]; omega) (by rw [z32 hz]; omega) (by rw [z32 hz]; exact ho) ht (kk p e s m args below meth c H locs lsA F hZ hS hV hL)
theorem wp_tout {x : Int} {dflt lo hi : Int} {offs : Array Int} {len tgt : Nat} (hd : mi.2.2.2.2[t]? = some (pc, .tableswitch dflt lo hi offs, len)) (hz : zin x) (h : x < lo ∨ hi < x) (ht : (pc : Int) + dflt = (tgt : Int)) (kk : WP G mi d mc ms k q tgt ls st n I R Q) : WP G mi d mc ms k q pc ls (.inl x :: st) n I R Q := by
  intro p e s m args below meth c H locs lsA F hZ hS hV hL
  obtain ⟨hx, hb, hml, hown, hts, hr, hlk, hnm, hK, hok⟩ := id F
  exact lv_tableOut hx hb (ztok_at hok hd) (by rw [z32 hz]; exact h) ht (kk p e s m args below meth c H locs lsA F hZ hS hV hL)
theorem wp_look {x : Int} {dflt off : Int} {ps : Array (Int × Int)} {len tgt : Nat} (hd : mi.2.2.2.2[t]? = some (pc, .lookupswitch dflt ps, len)) (hz : zin x) (hp : (ps.toList.zip (ps.toList.drop 1)).all (fun (a, next) => a.1 < next.1) = true) (ho : Op.lookupswitch.offset ps.toList dflt x = off) (ht : (pc : Int) + off = (tgt : Int)) (kk : WP G mi d mc ms k q tgt ls st n I R Q) : WP G mi d mc ms k q pc ls (.inl x :: st) n I R Q := by
  intro p e s m args below meth c H locs lsA F hZ hS hV hL
  obtain ⟨hx, hb, hml, hown, hts, hr, hlk, hnm, hK, hok⟩ := id F
  exact lv_lookup hx hb (ztok_at hok hd) hp (by rw [z32 hz]; exact ho) ht (kk p e s m args below meth c H locs lsA F hZ hS hV hL)
theorem wp_ls {ls' : List (Option zV)} (h : ls = ls') (kk : WP G mi d mc ms k q pc ls' st n I R Q) : WP G mi d mc ms k q pc ls st n I R Q := h ▸ kk
end ZC
theorem zu_eq {I : zMem} {a : Nat} {i v : Int} : zu I a i v a i = v := if_pos ⟨rfl, rfl⟩
theorem zu_na {I : zMem} {a b : Nat} {i j v : Int} (h : b ≠ a) : zu I a i v b j = I b j := if_neg (fun q => h q.1)
theorem zu_ni {I : zMem} {a b : Nat} {i j v : Int} (h : j ≠ i) : zu I a i v b j = I b j := if_neg (fun q => h q.2)
theorem zin_and (x y : Int) : zin (ziand x y) := zin_of _
theorem zin_or (x y : Int) : zin (zior x y) := zin_of _
theorem zin_xor (x y : Int) : zin (zixor x y) := zin_of _
theorem zin_shl (x y : Int) : zin (zishl x y) := zin_of _
theorem zin_shr (x y : Int) : zin (zishr x y) := zin_of _
theorem zin_le {x : Int} (h0 : -2147483648 ≤ x) (h1 : x ≤ 2147483647) : zin x := ⟨h0, by omega⟩
theorem zur_canon_R {R : zRef} {a b : Nat} {i j : Int} {v : Option Nat} (h : b ≠ a ∨ j ≠ i) : zur R a i v b j = R b j := if_neg (fun q => by rcases h with h | h; exact h q.1; exact h q.2)
theorem zur_eq {R : zRef} {a : Nat} {i : Int} {v : Option Nat} : zur R a i v a i = v := if_pos ⟨rfl, rfl⟩
theorem zWir_shelf {N a : Nat} {R : zRef} {i : Int} {v : Option Nat} (h : zWir N R) (ha : a = 96 ∨ a = 106) : zWir N (zur R a i v) := by
  intro b j r hb hr
  have : b ≠ a := by
    rintro rfl
    rcases ha with rfl | rfl
    · cases j with
      | ofNat k => cases hr
      | negSucc k => cases hr
    · cases j with
      | ofNat k => cases hr
      | negSucc k => cases hr
  rw [zur_canon_R (Or.inl this)]
  exact h b j r hb hr
theorem zasg (vm : Vm) (c : ClassId) : vm.assignable c c = true := by
  have h : ∀ n : Nat, vm.assignableAux (n + 1) c c = true := fun n => by
    unfold Vm.assignableAux
    simp only [BEq.rfl, Bool.true_or]
  exact h 255
theorem zAA {G : zG} {s : State} (h : zKn G s) : ∃ kA kC : Class, s.vm.classes[G.2.2.2.2]? = some kA ∧ kA.kind = .array G.2.2.2.1 (.array .int) ∧ s.vm.classes[G.2.2.2.1]? = some kC := by
  obtain ⟨hK, hA⟩ := h
  obtain ⟨comp, c9, k9, h1, h2, h3, h4⟩ := Cond.arrayOver_specA (show (Cond.arrayOver (.array .int)).holds #[] s none s [] = true from hA)
  have g0 : s.vm.findClass ("[" ++ FieldType.int.toString) = some G.2.2.2.1 := (hK.2 0 _ rfl).2
  have g1 : s.vm.findClass ("[" ++ (FieldType.array .int).toString) = some G.2.2.2.2 := (hK.2 1 _ rfl).2
  have e1 : c9 = G.2.2.2.2 := Option.some.inj (h4.symm.trans g1)
  have e2 : comp = G.2.2.2.1 := Option.some.inj (h1.symm.trans g0)
  subst e1
  subst e2
  obtain ⟨-, k0, hk0, -⟩ := (hK.2 0 _ rfl).1 0 (fun _ => .int 0)
  exact ⟨k9, k0, h2, h3, hk0⟩
section ZA
variable {G : zG} {mi : zM} {d mc ms k q pc t : Nat} {ls : List (Option zV)} {st : List zV} {n : Nat} {I : zMem} {R : zRef} {Q : zPo}
theorem wp_aastore {a v len lv : Nat} {i : Int} (hd : mi.2.2.2.2[t]? = some (pc, .aastore, 1)) (ha : a < n) (hk : zlay a = (21, len)) (hv : v < n) (hkv : zlay v = (20, lv)) (h0 : 0 ≤ i) (h1 : i < len) (hl : len < 2147483648) (kk : WP G mi d mc ms k q (pc + 1) ls st n I (zur R a i (some v)) Q) : WP G mi d mc ms k q pc ls (zR v :: .inl i :: zR a :: st) n I R Q := by
  intro p e s m args below meth c H locs lsA F hZ hS hV hL
  obtain ⟨hx, hb, hml, hown, hts, hr, hlk, hnm, hK, hok⟩ := id F
  have hin := zvp_in h0 h1 hl
  have hlt : (Int32.ofInt i).toNatClampNeg < len := Nat.not_le.mp fun q => hin (Or.inr q)
  have hn0 : ¬ Int32.ofInt i < 0 := fun q => hin (Or.inl q)
  obtain ⟨kA, kC, k1, k2, k3⟩ := zAA hK
  have he : (zW G.2.1 G.2.2.2.1 G.2.2.2.2 n I R)[a]? = some (G.2.1 + a, .inl (G.2.2.2.2, len, .inr (.inr (.inr (.inr (fun j : Nat => (R a j).map (G.2.1 + ·))))))) := by rw [zW_get ha, zcell_A hk]
  have he2 : (zW G.2.1 G.2.2.2.1 G.2.2.2.2 n I R)[v]? = some (G.2.1 + v, .inl (G.2.2.2.1, lv, .inl (fun j => Int32.ofInt (I v j)))) := by rw [zW_get hv, zcell_a hkv]
  refine W.aast hx hb (hS.1 a _ he) (fun q h => by cases h) (fun h => by cases h) k1 k2 rfl k3 ⟨hn0, by show _ < (arrV _ _ _).slots.size; rw [arrV_size]; exact hlt⟩ (hS.1 v _ he2) (fun q h => by cases h) k3 (zasg s.vm G.2.2.2.1) rfl rfl (ztok_at hok hd) (fun H1 e1 z oq => ?_)
  have hP1 : va_P G.2.2.1 vwCl ((zW G.2.1 G.2.2.2.1 G.2.2.2.2 n I R).set a (G.2.1 + a, .inl (G.2.2.2.2, len, .inr (.inr (.inr (.inr (va_up (fun j : Nat => (R a j).map (G.2.1 + ·)) (Int32.ofInt i).toNatClampNeg (some (G.2.1 + v))))))))) H1 := by
    refine hS.1.set (A := fun x => G.2.1 ≤ x) zW_D he ?_ oq
    show H1[G.2.1 + a]? = some (vp_cell _ _)
    rw [e1]
    rw [vp_cell_q, vp_cell_q, arrV_store]
    congr 2
    funext q
    by_cases hq : q = (Int32.ofInt i).toNatClampNeg
    · subst hq
      simp [updV, va_up, va_rf]
    · simp [updV, va_up, hq]
  rw [zW_set (I' := I) (R' := zur R a i (some v)) ha (by
    rw [zcell_A hk]
    refine congrArg (fun z => (Sum.inl (G.2.2.2.2, len, Sum.inr (Sum.inr (Sum.inr (Sum.inr z)))) : va_E)) (funext fun j => ?_)
    rw [z32_nat h0 (by omega)]
    unfold va_up zur
    by_cases hj : j = i.toNat
    · rw [if_pos hj, if_pos ⟨rfl, by omega⟩]
      rfl
    · rw [if_neg hj, if_neg (fun q9 => hj (by have := q9.2; omega))]) (fun _ _ => rfl) (fun _ h => zur_ne h)] at hP1
  exact kk p e s m args below meth c H1 _ lsA F hZ ⟨hP1, hS.2⟩ (hV.put z oq (Nat.le_add_right _ _)) hL
end ZA
end
section
/-! words for the state: sums, first places, the cells of a plan -/
/-- the sum of f over 0 .. n - 1 -/
def zsum (f : Int → Int) : Nat → Int
  | 0 => 0
  | n + 1 => zsum f n + f n
/-- the first i below n with P, or -4 -/
def zfirst (P : Int → Bool) : Nat → Int
  | 0 => -4
  | n + 1 => if zfirst P n = -4 then (if P n then (n : Int) else -4) else zfirst P n
theorem zfirst_spec (P : Int → Bool) : ∀ n : Nat, (zfirst P n = -4 ∧ ∀ i : Int, 0 ≤ i → i < n → P i = false) ∨ (0 ≤ zfirst P n ∧ zfirst P n < n ∧ P (zfirst P n) = true ∧ ∀ i : Int, 0 ≤ i → i < zfirst P n → P i = false) := by
  intro n
  induction n with
  | zero => exact Or.inl ⟨rfl, fun i h0 h1 => absurd h1 (by omega)⟩
  | succ n ih =>
    rcases ih with ⟨h1, h2⟩ | ⟨h1, h2, h3, h4⟩
    · by_cases hp : P (n : Int) = true
      · have e : zfirst P (n + 1) = (n : Int) := by
          show (if zfirst P n = -4 then (if P n then (n : Int) else -4) else zfirst P n) = _
          rw [if_pos h1, if_pos hp]
        refine Or.inr ?_
        rw [e]
        exact ⟨by omega, by omega, hp, fun i h0 hi => h2 i h0 hi⟩
      · have e : zfirst P (n + 1) = -4 := by
          show (if zfirst P n = -4 then (if P n then (n : Int) else -4) else zfirst P n) = _
          rw [if_pos h1, if_neg hp]
        refine Or.inl ⟨e, fun i h0 hi => ?_⟩
        by_cases h : i = (n : Int)
        · rw [h]
          simpa using hp
        · exact h2 i h0 (by omega)
    · have e : zfirst P (n + 1) = zfirst P n := by
        show (if zfirst P n = -4 then (if P n then (n : Int) else -4) else zfirst P n) = _
        rw [if_neg (by omega)]
      refine Or.inr ?_
      rw [e]
      exact ⟨h1, by omega, h3, h4⟩
/-- the value of zfirst by its marks -/
theorem zfirst_none {P : Int → Bool} {n : Nat} (h : ∀ i : Int, 0 ≤ i → i < n → P i = false) : zfirst P n = -4 := by
  rcases zfirst_spec P n with ⟨h1, -⟩ | ⟨h1, h2, h3, -⟩
  · exact h1
  · rw [h _ h1 h2] at h3
    cases h3
theorem zfirst_some {P : Int → Bool} {n : Nat} {k : Int} (h0 : 0 ≤ k) (h1 : k < n) (hk : P k = true) (h : ∀ i : Int, 0 ≤ i → i < k → P i = false) : zfirst P n = k := by
  rcases zfirst_spec P n with ⟨-, h2⟩ | ⟨g1, g2, g3, g4⟩
  · rw [h2 k h0 h1] at hk
    cases hk
  · by_cases a : zfirst P n < k
    · rw [h _ g1 a] at g3
      cases g3
    · by_cases b : k < zfirst P n
      · rw [g4 k h0 b] at hk
        cases hk
      · omega
theorem zsum_congr {f g : Int → Int} : ∀ {n : Nat}, (∀ i : Int, 0 ≤ i → i < n → f i = g i) → zsum f n = zsum g n := by
  intro n
  induction n with
  | zero => intro _; rfl
  | succ n ih =>
    intro h
    show zsum f n + f n = zsum g n + g n
    rw [ih (fun i h0 h1 => h i h0 (by omega)), h n (by omega) (by omega)]
theorem zsum_bounds {f : Int → Int} {a b : Int} : ∀ {n : Nat}, (∀ i : Int, 0 ≤ i → i < n → a ≤ f i ∧ f i ≤ b) → (n : Int) * a ≤ zsum f n ∧ zsum f n ≤ (n : Int) * b := by
  intro n
  induction n with
  | zero => intro _; simp [zsum]
  | succ n ih =>
    intro h
    have h1 := ih (fun i h0 h1 => h i h0 (by omega))
    have h2 := h n (by omega) (by omega)
    have e1 : ((n + 1 : Nat) : Int) * a = (n : Int) * a + a := by rw [Int.natCast_add, Int.add_mul]; simp
    have e2 : ((n + 1 : Nat) : Int) * b = (n : Int) * b + b := by rw [Int.natCast_add, Int.add_mul]; simp
    rw [e1, e2]
    show _ ≤ zsum f n + f n ∧ zsum f n + f n ≤ _
    omega
theorem zsum_succ (f : Int → Int) {c : Int} (h : 0 ≤ c) : zsum f (c + 1).toNat = zsum f c.toNat + f c := by
  rw [show (c + 1).toNat = c.toNat + 1 by omega]
  show zsum f c.toNat + f (c.toNat : Int) = _
  rw [Int.toNat_of_nonneg h]
-- the cells of the two plans
theorem zpl {p : Nat} (hp : p = 64 ∨ p = 86) : (zlay p).1 = 3 ∧ zlay (p + 1) = (20, 6) ∧ zlay (p + 2) = (20, 6) ∧ zlay (p + 3) = (20, 6) ∧ zlay (p + 4) = (20, 6) ∧ zlay (p + 5) = (20, 6) ∧ p < 110 := by
  rcases hp with rfl | rfl <;> decide
theorem zpr {p N : Nat} {R : zRef} (hp : p = 64 ∨ p = 86) (hW : zWir N R) (hN : 115 ≤ N) : R p 0 = some 34 ∧ R p 1 = some (p + 1) ∧ R p 2 = some (p + 2) ∧ R p 3 = some (p + 3) ∧ R p 4 = some (p + 4) ∧ R p 5 = some (p + 5) := by
  rcases hp with rfl | rfl
  · exact ⟨hW 64 0 _ (by omega) rfl, hW 64 1 _ (by omega) rfl, hW 64 2 _ (by omega) rfl, hW 64 3 _ (by omega) rfl, hW 64 4 _ (by omega) rfl, hW 64 5 _ (by omega) rfl⟩
  · exact ⟨hW 86 0 _ (by omega) rfl, hW 86 1 _ (by omega) rfl, hW 86 2 _ (by omega) rfl, hW 86 3 _ (by omega) rfl, hW 86 4 _ (by omega) rfl, hW 86 5 _ (by omega) rfl⟩
-- rows of rows
theorem zrowR {N o b m : Nat} {R : zRef} (hW : zWir N R) (ho : o < N) (h : ∀ k, k < m → zW0 o (Int.ofNat k) = some (b + k)) {c : Int} (h0 : 0 ≤ c) (h1 : c < m) : R o c = some (b + c.toNat) := by
  have h2 := hW o (Int.ofNat c.toNat) _ ho (h c.toNat (by omega))
  rwa [show Int.ofNat c.toNat = c from Int.toNat_of_nonneg h0] at h2
theorem zrowL {b m len : Nat} (h : ∀ k, k < m → zlay (b + k) = (20, len)) {c : Int} (h1 : c < m) (h0 : 0 ≤ c) : zlay (b + c.toNat) = (20, len) := h c.toNat (by omega)
theorem zmulb {a b A B : Int} (h1 : 0 ≤ a) (h2 : a ≤ A) (h3 : 0 ≤ b) (h4 : b ≤ B) : 0 ≤ a * b ∧ a * b ≤ A * B := ⟨Int.mul_nonneg h1 h3, Int.mul_le_mul h2 h4 h3 (by omega)⟩
theorem ztdiv2 {x : Int} (h : 0 ≤ x) : x.tdiv 2 = x / 2 := by rw [Int.tdiv_eq_ediv_of_nonneg h]
-- bits
def zbt (x a : Int) : Bool := decide (ziand (zishr x a) 1 = 1)
theorem zbt_cases : ∀ x : Fin 64, ∀ a : Fin 6, ziand (zishr (x : Nat) (a : Nat)) 1 = 0 ∨ ziand (zishr (x : Nat) (a : Nat)) 1 = 1 := by decide +kernel
theorem zbt_set_all : ∀ x : Fin 64, ∀ a : Fin 6, (0 ≤ zior (x : Nat) (zishl 1 (a : Nat)) ∧ zior (x : Nat) (zishl 1 (a : Nat)) < 64) ∧ ∀ b : Fin 6, zbt (zior (x : Nat) (zishl 1 (a : Nat))) (b : Nat) = (zbt (x : Nat) (b : Nat) || decide (b = a)) := by decide +kernel
theorem zshl_all : ∀ a : Fin 9, zishl 1 (a : Nat) = 2 ^ (a : Nat) := by decide +kernel
theorem zbt_zero_all : ∀ b : Fin 6, zbt 0 (b : Nat) = false := by decide +kernel
theorem zfinI {x : Int} {m : Nat} (h0 : 0 ≤ x) (h1 : x < m) : ∃ k : Fin m, x = ((k : Nat) : Int) := ⟨⟨x.toNat, by omega⟩, by simp; omega⟩
theorem zbt_set {x a : Int} (hx : 0 ≤ x ∧ x < 64) (ha : 0 ≤ a ∧ a < 6) : (0 ≤ zior x (zishl 1 a) ∧ zior x (zishl 1 a) < 64) ∧ ∀ b : Int, 0 ≤ b → b < 6 → zbt (zior x (zishl 1 a)) b = (zbt x b || decide (b = a)) := by
  obtain ⟨x, rfl⟩ := zfinI (m := 64) hx.1 hx.2
  obtain ⟨a, rfl⟩ := zfinI (m := 6) ha.1 ha.2
  refine ⟨(zbt_set_all x a).1, fun b h0 h1 => ?_⟩
  obtain ⟨b, rfl⟩ := zfinI (m := 6) h0 h1
  rw [(zbt_set_all x a).2 b]
  congr 1
  simp [Fin.ext_iff]
  omega
theorem zbt_zero {b : Int} (h0 : 0 ≤ b) (h1 : b < 6) : zbt 0 b = false := by
  obtain ⟨b, rfl⟩ := zfinI (m := 6) h0 h1
  exact zbt_zero_all b
theorem zshl1 {a : Int} (h0 : 0 ≤ a) (h1 : a < 9) : 1 ≤ zishl 1 a ∧ zishl 1 a ≤ 256 := by
  obtain ⟨a, rfl⟩ := zfinI (m := 9) h0 h1
  exact (show ∀ a : Fin 9, 1 ≤ zishl 1 (a : Nat) ∧ zishl 1 (a : Nat) ≤ 256 by decide +kernel) a
-- what a core takes
def tkOf (k p l : Int) : Int := if k = 0 then p * (l + 1) + l else if k = 1 then p * (l + 1) + l + p * l else if k = 2 then max (p * (l + 1) + l) 60 else (p * (l + 1) + l + p * l + 1) / 2
theorem tkOf_b {k p l : Int} (hp : 1 ≤ p ∧ p ≤ 20) (hl : 1 ≤ l ∧ l ≤ 54) : 2 ≤ tkOf k p l ∧ tkOf k p l ≤ 2234 := by
  have h1 := zmulb (a := p) (b := l) (A := 20) (B := 54) (by omega) hp.2 (by omega) hl.2
  have h2 : p * 1 ≤ p * l := Int.mul_le_mul (Int.le_refl p) hl.1 (by omega) (by omega)
  have e : p * (l + 1) = p * l + p := by rw [Int.mul_add, Int.mul_one]
  unfold tkOf
  rw [e]
  generalize p * l = z at *
  split
  · omega
  · split
    · omega
    · split <;> omega
-- a plan as plain functions: cores, lines, power; drawn, taken at a width, ahead; width, from, until
abbrev zS : Type := (Int × Int × Int) × (Int → Int) × (Int → Int → Int) × (Int → Int → Bool) × (Int → Int) × (Int → Int) × (Int → Int)
def sN (S : zS) : Int := S.1.1
def sL (S : zS) : Int := S.1.2.1
def sP (S : zS) : Int := S.1.2.2
def sD (S : zS) : Int → Int := S.2.1
def sT (S : zS) : Int → Int → Int := S.2.2.1
def sA (S : zS) : Int → Int → Bool := S.2.2.2.1
def sW (S : zS) : Int → Int := S.2.2.2.2.1
def sF (S : zS) : Int → Int := S.2.2.2.2.2.1
def sU (S : zS) : Int → Int := S.2.2.2.2.2.2
/-- in a cycle the lines taken (0), the power drawn (1), else the bits of the cores that run -/
def sUse (S : zS) (what t : Int) : Int := zsum (fun c => if 0 < sW S c ∧ sF S c ≤ t ∧ t < sU S c then (if what = 0 then sW S c else if what = 1 then sD S c else zishl 1 c) else 0) (sN S).toNat
/-- the first cycle from t on, ahead of en, in which more than most is used; -4 -/
def sOver (S : zS) (what most t en : Int) : Int := if zfirst (fun i => decide (most < sUse S what (t + i))) (en - t).toNat = -4 then -4 else t + zfirst (fun i => decide (most < sUse S what (t + i))) (en - t).toNat
def sNot (S : zS) (c t : Int) : Int := zfirst (fun a => sA S a c && (decide (¬ 0 < sW S a) || decide (t < sU S a))) (sN S).toNat
def sBeg (S : zS) (c en : Int) : Int := zfirst (fun b => sA S c b && (decide (0 < sW S b) && decide (sF S b < en))) (sN S).toNat
/-- the reason why a core at a width from a cycle on is refused (0: it is not), and what is told -/
def sRea (S : zS) (c w t : Int) : Int :=
  if ¬ sNot S c t = -4 then 1 else if ¬ sBeg S c (t + sT S c w) = -4 then 2 else if ¬ sOver S 0 (sL S - w) t (t + sT S c w) = -4 then 3 else if ¬ sOver S 1 (sP S - sD S c) t (t + sT S c w) = -4 then 4 else 0
def sTold (S : zS) (r c w t : Int) : Int :=
  if r = 1 then sNot S c t else if r = 2 then sBeg S c (t + sT S c w) else if r = 3 then sOver S 0 (sL S - w) t (t + sT S c w) else if r = 4 then sOver S 1 (sP S - sD S c) t (t + sT S c w) else -4
/-- the first cycle from which it is not refused, done ahead of by; -4 -/
def sSoon (S : zS) (c w y : Int) : Int := zfirst (fun t => decide (sRea S c w t = 0)) (y - sT S c w).toNat
/-- the width at which it is done first, from when, and when it is done: among the widths up to n, done ahead of y -/
def sFl (S : zS) (c y : Int) : Nat → Int × Int × Int
  | 0 => (0, 0, y)
  | n + 1 => if ¬ sSoon S c (n + 1) (sFl S c y n).2.2 = -4 then (n + 1, sSoon S c (n + 1) (sFl S c y n).2.2, sSoon S c (n + 1) (sFl S c y n).2.2 + sT S c (n + 1)) else sFl S c y n
def sLen (S : zS) : Nat → Int
  | 0 => 0
  | n + 1 => if 0 < sW S n then max (sLen S n) (sU S n) else sLen S n
/-- a core put -/
def sPut (S : zS) (c w t : Int) : zS := (S.1, S.2.1, S.2.2.1, S.2.2.2.1, (fun j => if j = c then w else sW S j), (fun j => if j = c then t else sF S j), (fun j => if j = c then t + sT S c w else sU S j))
-- the class's plan at p
def cS (I : zMem) (p : Nat) : zS := ((I 34 2, I 34 0, I 34 1), I 37, (fun c w => if 0 ≤ c ∧ c < 6 then tkOf (I (p + 1) c) (I 36 c) (I (49 + c.toNat) w) else 0), (fun a c => zbt (I (p + 5) c) a), I (p + 2), I (p + 3), I (p + 4))
/-- the chip that is laid -/
def zCh (I : zMem) : Prop := (1 ≤ I 34 2 ∧ I 34 2 ≤ 6) ∧ (1 ≤ I 34 0 ∧ I 34 0 ≤ 8) ∧ (1 ≤ I 34 1 ∧ I 34 1 ≤ 40) ∧ (0 ≤ I 34 3 ∧ I 34 3 ≤ 8) ∧
  (∀ c : Int, 0 ≤ c → c < I 34 2 → (1 ≤ I 36 c ∧ I 36 c ≤ 20) ∧ (1 ≤ I 37 c ∧ I 37 c ≤ 30) ∧ (1 ≤ I 38 c ∧ I 38 c ≤ 6) ∧ (∀ i : Int, 0 ≤ i → i < I 38 c → 1 ≤ I (40 + c.toNat) i ∧ I (40 + c.toNat) i ≤ 9) ∧ ∀ w : Int, 1 ≤ w → w ≤ I 34 0 → 1 ≤ I (49 + c.toNat) w ∧ I (49 + c.toNat) w ≤ 54) ∧
  (∀ b : Int, 0 ≤ b → b < I 34 3 → 0 ≤ I 46 b ∧ I 46 b < I 47 b ∧ I 47 b < I 34 2)
/-- a plan's cells -/
def zPl (I : zMem) (p : Nat) : Prop := ∀ c : Int, 0 ≤ c → c < I 34 2 → (0 ≤ I (p + 1) c ∧ I (p + 1) c ≤ 3) ∧ (0 ≤ I (p + 2) c ∧ I (p + 2) c ≤ I 34 0) ∧ (0 ≤ I (p + 3) c ∧ I (p + 3) c ≤ 1000000) ∧ (0 ≤ I (p + 4) c ∧ I (p + 4) c ≤ 1010000) ∧ (0 ≤ I (p + 5) c ∧ I (p + 5) c < 64)
theorem cS_T {I : zMem} {p : Nat} {c w : Int} (hc : 0 ≤ c ∧ c < 6) : sT (cS I p) c w = tkOf (I (p + 1) c) (I 36 c) (I (49 + c.toNat) w) := if_pos hc
end
section
/-! facts of plans: what is used, the first cycle over, the soonest -/
theorem zsum_mono {f g : Int → Int} : ∀ {n : Nat}, (∀ i : Int, 0 ≤ i → i < n → f i ≤ g i) → zsum f n ≤ zsum g n := by
  intro n
  induction n with
  | zero => intro _; exact Int.le_refl _
  | succ n ih =>
    intro h
    have h1 := ih (fun i h0 h1 => h i h0 (by omega))
    have h2 := h n (by omega) (by omega)
    show zsum f n + f n ≤ zsum g n + g n
    omega
/-- each core weighs at least 0 -/
def sWt (S : zS) : Prop := ∀ c : Int, 0 ≤ c → c < sN S → 0 ≤ sD S c
theorem sUse_le {S : zS} {what s s' : Int} (hw : sWt S) (h01 : what = 0 ∨ what = 1) (h : ∀ c : Int, 0 ≤ c → c < sN S → 0 < sW S c → sF S c ≤ s → s < sU S c → sF S c ≤ s' ∧ s' < sU S c) : sUse S what s ≤ sUse S what s' := by
  refine zsum_mono (fun c h0 h1 => ?_)
  have hc : c < sN S := by omega
  have hd := hw c h0 hc
  by_cases g : 0 < sW S c ∧ sF S c ≤ s ∧ s < sU S c
  · have g2 := h c h0 hc g.1 g.2.1 g.2.2
    rw [if_pos g, if_pos (show 0 < sW S c ∧ sF S c ≤ s' ∧ s' < sU S c from ⟨g.1, g2⟩)]
    exact Int.le_refl _
  · rw [if_neg g]
    by_cases g2 : 0 < sW S c ∧ sF S c ≤ s' ∧ s' < sU S c
    · rw [if_pos g2]
      rcases h01 with rfl | rfl
      · rw [if_pos rfl]
        omega
      · rw [if_neg (by omega), if_pos rfl]
        exact hd
    · rw [if_neg g2]
      exact Int.le_refl _
/-- a cycle over comes no later than a start over, or is already so at t -/
theorem sOver_jump {S : zS} {what most t : Int} (hw : sWt S) (h01 : what = 0 ∨ what = 1) : ∀ (m : Nat) (s : Int), (s - t).toNat = m → t ≤ s → most < sUse S what s → ∃ s', t ≤ s' ∧ s' ≤ s ∧ most < sUse S what s' ∧ (s' = t ∨ ∃ c : Int, 0 ≤ c ∧ c < sN S ∧ 0 < sW S c ∧ sF S c = s') := by
  intro m
  induction m with
  | zero =>
    intro s hm hts hs
    exact ⟨s, hts, Int.le_refl _, hs, Or.inl (by omega)⟩
  | succ m ih =>
    intro s hm hts hs
    by_cases g : ∃ c : Int, 0 ≤ c ∧ c < sN S ∧ 0 < sW S c ∧ sF S c = s
    · exact ⟨s, hts, Int.le_refl _, hs, Or.inr g⟩
    · have h1 : sUse S what s ≤ sUse S what (s - 1) := sUse_le hw h01 (fun c h0 h1 h2 h3 h4 => by
        have : sF S c ≠ s := fun e => g ⟨c, h0, h1, h2, e⟩
        omega)
      obtain ⟨s', a1, a2, a3, a4⟩ := ih (s - 1) (by omega) (by omega) (by omega)
      exact ⟨s', a1, by omega, a3, a4⟩
theorem sOver_spec {S : zS} {what most t en : Int} (ht : 0 ≤ t) : (sOver S what most t en = -4 ∧ ∀ s, t ≤ s → s < en → sUse S what s ≤ most) ∨ (t ≤ sOver S what most t en ∧ sOver S what most t en < en ∧ most < sUse S what (sOver S what most t en) ∧ ∀ s, t ≤ s → s < sOver S what most t en → sUse S what s ≤ most) := by
  unfold sOver
  rcases zfirst_spec (fun i => decide (most < sUse S what (t + i))) (en - t).toNat with ⟨h1, h2⟩ | ⟨h1, h2, h3, h4⟩
  · rw [if_pos h1]
    refine Or.inl ⟨rfl, fun s g1 g2 => ?_⟩
    have := h2 (s - t) (by omega) (by omega)
    rw [show t + (s - t) = s by omega] at this
    simpa using this
  · rw [if_neg (by omega)]
    refine Or.inr ⟨by omega, by omega, by simpa using h3, fun s g1 g2 => ?_⟩
    have := h4 (s - t) (by omega) (by omega)
    rw [show t + (s - t) = s by omega] at this
    simpa using this
theorem sOver_none {S : zS} {what most t en : Int} (ht : 0 ≤ t) (h : ∀ s, t ≤ s → s < en → sUse S what s ≤ most) : sOver S what most t en = -4 := by
  rcases sOver_spec (S := S) (what := what) (most := most) (en := en) ht with ⟨h1, -⟩ | ⟨h1, h2, h3, -⟩
  · exact h1
  · have := h _ h1 h2
    omega
theorem sOver_some {S : zS} {what most t en f : Int} (ht : 0 ≤ t) (h0 : t ≤ f) (h1 : f < en) (h2 : most < sUse S what f) (h : ∀ s, t ≤ s → s < f → sUse S what s ≤ most) : sOver S what most t en = f := by
  rcases sOver_spec (S := S) (what := what) (most := most) (en := en) ht with ⟨-, g⟩ | ⟨g1, g2, g3, g4⟩
  · have := g f h0 h1
    omega
  · by_cases a : sOver S what most t en < f
    · have := h _ g1 a
      omega
    · by_cases b : f < sOver S what most t en
      · have := g4 f h0 b
        omega
      · omega
theorem sOver_iff {S : zS} {what most t en : Int} (ht : 0 ≤ t) : sOver S what most t en = -4 ↔ ∀ s, t ≤ s → s < en → sUse S what s ≤ most := by
  constructor
  · intro h
    rcases sOver_spec (S := S) (what := what) (most := most) (en := en) ht with ⟨-, g⟩ | ⟨g1, -⟩
    · exact g
    · omega
  · exact sOver_none ht
/-- looking at the starts alone finds it -/
theorem sOver_cand {S : zS} {what most t en f : Int} (hw : sWt S) (h01 : what = 0 ∨ what = 1) (ht : 0 ≤ t) (h0 : sUse S what t ≤ most)
    (hf : (f = -4 ∧ ∀ c : Int, 0 ≤ c → c < sN S → 0 < sW S c → t < sF S c → sF S c < en → sUse S what (sF S c) ≤ most) ∨ (t < f ∧ f < en ∧ most < sUse S what f ∧ ∀ c : Int, 0 ≤ c → c < sN S → 0 < sW S c → t < sF S c → sF S c < en → most < sUse S what (sF S c) → f ≤ sF S c)) : f = sOver S what most t en := by
  rcases hf with ⟨rfl, h⟩ | ⟨h1, h2, h3, h⟩
  · refine (sOver_none ht (fun s g1 g2 => ?_)).symm
    by_cases hs : sUse S what s ≤ most
    · exact hs
    · obtain ⟨s', a1, a2, a3, a4⟩ := sOver_jump (most := most) hw h01 _ s rfl g1 (by omega)
      rcases a4 with rfl | ⟨c, b0, b1, b2, rfl⟩
      · omega
      · by_cases e : sF S c = t
        · rw [e] at a3
          omega
        · have := h c b0 b1 b2 (by omega) (by omega)
          omega
  · refine (sOver_some ht (by omega) h2 h3 (fun s g1 g2 => ?_)).symm
    by_cases hs : sUse S what s ≤ most
    · exact hs
    · obtain ⟨s', a1, a2, a3, a4⟩ := sOver_jump (most := most) hw h01 _ s rfl g1 (by omega)
      rcases a4 with rfl | ⟨c, b0, b1, b2, rfl⟩
      · omega
      · by_cases e : sF S c = t
        · rw [e] at a3
          omega
        · have := h c b0 b1 b2 (by omega) (by omega) a3
          omega
/-- it may be put: all of it at once -/
def sOk (S : zS) (c w t : Int) : Prop :=
  (∀ a : Int, 0 ≤ a → a < sN S → sA S a c = true → 0 < sW S a ∧ sU S a ≤ t) ∧ (∀ b : Int, 0 ≤ b → b < sN S → sA S c b = true → 0 < sW S b → t + sT S c w ≤ sF S b) ∧
  (∀ s, t ≤ s → s < t + sT S c w → sUse S 0 s ≤ sL S - w) ∧ (∀ s, t ≤ s → s < t + sT S c w → sUse S 1 s ≤ sP S - sD S c)
theorem sNot_iff {S : zS} {c t : Int} : sNot S c t = -4 ↔ ∀ a : Int, 0 ≤ a → a < sN S → sA S a c = true → 0 < sW S a ∧ sU S a ≤ t := by
  unfold sNot
  constructor
  · intro h a h0 h1 h2
    rcases zfirst_spec (fun a => sA S a c && (decide (¬ 0 < sW S a) || decide (t < sU S a))) (sN S).toNat with ⟨-, g⟩ | ⟨g, -⟩
    · have := g a h0 (by omega)
      simp [h2] at this
      omega
    · omega
  · intro h
    refine zfirst_none (fun a h0 h1 => ?_)
    by_cases ha : sA S a c = true
    · have := h a h0 (by omega) ha
      simp [ha]
      omega
    · simp [ha]
theorem sBeg_iff {S : zS} {c en : Int} : sBeg S c en = -4 ↔ ∀ b : Int, 0 ≤ b → b < sN S → sA S c b = true → 0 < sW S b → en ≤ sF S b := by
  unfold sBeg
  constructor
  · intro h a h0 h1 h2 h3
    rcases zfirst_spec (fun b => sA S c b && (decide (0 < sW S b) && decide (sF S b < en))) (sN S).toNat with ⟨-, g⟩ | ⟨g, -⟩
    · have := g a h0 (by omega)
      simp [h2] at this
      exact this h3
    · omega
  · intro h
    refine zfirst_none (fun a h0 h1 => ?_)
    by_cases ha : sA S c a = true
    · by_cases hb : 0 < sW S a
      · have := h a h0 (by omega) ha hb
        simp [ha]
        omega
      · simp [hb]
    · simp [ha]
theorem sRea_iff {S : zS} {c w t : Int} (ht : 0 ≤ t) : sRea S c w t = 0 ↔ sOk S c w t := by
  unfold sRea sOk
  rw [← sNot_iff, ← sBeg_iff, ← sOver_iff ht, ← sOver_iff ht]
  by_cases h1 : sNot S c t = -4
  · rw [if_neg (by omega)]
    by_cases h2 : sBeg S c (t + sT S c w) = -4
    · rw [if_neg (by omega)]
      by_cases h3 : sOver S 0 (sL S - w) t (t + sT S c w) = -4
      · rw [if_neg (by omega)]
        by_cases h4 : sOver S 1 (sP S - sD S c) t (t + sT S c w) = -4
        · rw [if_neg (by omega)]
          exact ⟨fun _ => ⟨h1, h2, h3, h4⟩, fun _ => rfl⟩
        · rw [if_pos h4]
          exact ⟨fun h => by omega, fun h => absurd h.2.2.2 h4⟩
      · rw [if_pos h3]
        exact ⟨fun h => by omega, fun h => absurd h.2.2.1 h3⟩
    · rw [if_pos h2]
      exact ⟨fun h => by omega, fun h => absurd h.2.1 h2⟩
  · rw [if_pos h1]
    exact ⟨fun h => by omega, fun h => absurd h.1 h1⟩
/-- where it could not begin a cycle earlier, it begins at 0 or where another is done -/
theorem sOk_left {S : zS} {c w t : Int} (hw : sWt S) (hT : 1 ≤ sT S c w) (ht : 0 < t) (h : sOk S c w t) (hn : ∀ a : Int, 0 ≤ a → a < sN S → 0 < sW S a → sU S a ≠ t) : sOk S c w (t - 1) := by
  obtain ⟨h1, h2, h3, h4⟩ := h
  have hu : ∀ what : Int, what = 0 ∨ what = 1 → sUse S what (t - 1) ≤ sUse S what t := fun what h01 => sUse_le hw h01 (fun a a0 a1 a2 a3 a4 => by
    have := hn a a0 a1 a2
    omega)
  refine ⟨fun a a0 a1 a2 => ?_, fun b b0 b1 b2 b3 => ?_, fun s s0 s1 => ?_, fun s s0 s1 => ?_⟩
  · have g := h1 a a0 a1 a2
    have := hn a a0 a1 g.1
    omega
  · have := h2 b b0 b1 b2 b3
    omega
  · by_cases e : s = t - 1
    · have g1 := hu 0 (Or.inl rfl)
      have g2 := h3 t (by omega) (by omega)
      rw [e]
      omega
    · exact h3 s (by omega) (by omega)
  · by_cases e : s = t - 1
    · have g1 := hu 1 (Or.inr rfl)
      have g2 := h4 t (by omega) (by omega)
      rw [e]
      omega
    · exact h4 s (by omega) (by omega)
theorem sSoon_spec {S : zS} {c w y : Int} : (sSoon S c w y = -4 ∧ ∀ t, 0 ≤ t → t + sT S c w < y → ¬ sOk S c w t) ∨ (0 ≤ sSoon S c w y ∧ sSoon S c w y + sT S c w < y ∧ sOk S c w (sSoon S c w y) ∧ ∀ t, 0 ≤ t → t < sSoon S c w y → ¬ sOk S c w t) := by
  unfold sSoon
  rcases zfirst_spec (fun t => decide (sRea S c w t = 0)) (y - sT S c w).toNat with ⟨h1, h2⟩ | ⟨h1, h2, h3, h4⟩
  · refine Or.inl ⟨h1, fun t g0 g1 g2 => ?_⟩
    have := h2 t g0 (by omega)
    rw [decide_eq_false_iff_not] at this
    exact this ((sRea_iff g0).mpr g2)
  · refine Or.inr ⟨h1, by omega, (sRea_iff h1).mp (of_decide_eq_true h3), fun t g0 g1 g2 => ?_⟩
    have := h4 t g0 g1
    rw [decide_eq_false_iff_not] at this
    exact this ((sRea_iff g0).mpr g2)
theorem sSoon_some {S : zS} {c w y t : Int} (h0 : 0 ≤ t) (h1 : t + sT S c w < y) (h2 : sOk S c w t) (h : ∀ t', 0 ≤ t' → t' < t → ¬ sOk S c w t') : sSoon S c w y = t := by
  rcases sSoon_spec (S := S) (c := c) (w := w) (y := y) with ⟨-, g⟩ | ⟨g1, g2, g3, g4⟩
  · exact absurd h2 (g t h0 h1)
  · by_cases a : sSoon S c w y < t
    · exact absurd g3 (h _ g1 a)
    · by_cases b : t < sSoon S c w y
      · exact absurd h2 (g4 t h0 b)
      · omega
theorem sSoon_none {S : zS} {c w y : Int} (h : ∀ t, 0 ≤ t → t + sT S c w < y → ¬ sOk S c w t) : sSoon S c w y = -4 := by
  rcases sSoon_spec (S := S) (c := c) (w := w) (y := y) with ⟨g, -⟩ | ⟨g1, g2, g3, g4⟩
  · exact g
  · exact absurd g3 (h _ g1 g2)
/-- the least cycle at which it may be put is 0 or an end -/
theorem sOk_least {S : zS} {c w : Int} (hw : sWt S) (hT : 1 ≤ sT S c w) : ∀ (m : Nat) (t : Int), t.toNat = m → 0 ≤ t → sOk S c w t → ∃ t', 0 ≤ t' ∧ t' ≤ t ∧ sOk S c w t' ∧ (t' = 0 ∨ ∃ a : Int, 0 ≤ a ∧ a < sN S ∧ 0 < sW S a ∧ sU S a = t') := by
  intro m
  induction m with
  | zero =>
    intro t hm h0 h
    exact ⟨t, h0, Int.le_refl _, h, Or.inl (by omega)⟩
  | succ m ih =>
    intro t hm h0 h
    by_cases g : ∃ a : Int, 0 ≤ a ∧ a < sN S ∧ 0 < sW S a ∧ sU S a = t
    · exact ⟨t, h0, Int.le_refl _, h, Or.inr g⟩
    · obtain ⟨t', a1, a2, a3, a4⟩ := ih (t - 1) (by omega) (by omega) (sOk_left hw hT (by omega) h (fun a a0 a1 a2 e => g ⟨a, a0, a1, a2, e⟩))
      exact ⟨t', a1, by omega, a3, a4⟩
theorem sSoon_cand {S : zS} {c w y r : Int} (hw : sWt S) (hT : 1 ≤ sT S c w) (hU : ∀ a : Int, 0 ≤ a → a < sN S → 0 < sW S a → 0 ≤ sU S a)
    (hr : (r = -4 ∧ (∀ t, (t = 0 ∨ ∃ a : Int, 0 ≤ a ∧ a < sN S ∧ 0 < sW S a ∧ sU S a = t) → t + sT S c w < y → ¬ sOk S c w t)) ∨ (0 ≤ r ∧ r + sT S c w < y ∧ sOk S c w r ∧ ∀ t, (t = 0 ∨ ∃ a : Int, 0 ≤ a ∧ a < sN S ∧ 0 < sW S a ∧ sU S a = t) → t + sT S c w < y → sOk S c w t → r ≤ t)) : r = sSoon S c w y := by
  rcases hr with ⟨rfl, h⟩ | ⟨h1, h2, h3, h⟩
  · refine (sSoon_none (fun t g0 g1 g2 => ?_)).symm
    obtain ⟨t', a1, a2, a3, a4⟩ := sOk_least hw hT _ t rfl g0 g2
    exact h t' a4 (by omega) a3
  · refine (sSoon_some h1 h2 h3 (fun t g0 g1 g2 => ?_)).symm
    obtain ⟨t', a1, a2, a3, a4⟩ := sOk_least hw hT _ t rfl g0 g2
    have := h t' a4 (by omega) a3
    omega
theorem sUse_b {S : zS} {what t : Int} (hN : 0 ≤ sN S ∧ sN S ≤ 6) (hD : ∀ c : Int, 0 ≤ c → c < sN S → 0 ≤ sD S c ∧ sD S c ≤ 40) (hW : ∀ c : Int, 0 ≤ c → c < sN S → sW S c ≤ 8) (h01 : 0 ≤ what ∧ what ≤ 2) : 0 ≤ sUse S what t ∧ sUse S what t ≤ 1600 := by
  have h := zsum_bounds (a := 0) (b := 256) (n := (sN S).toNat) (f := fun c => if 0 < sW S c ∧ sF S c ≤ t ∧ t < sU S c then (if what = 0 then sW S c else if what = 1 then sD S c else zishl 1 c) else 0) (fun c h0 h1 => by
    have hd := hD c h0 (by omega)
    have hw := hW c h0 (by omega)
    have hs := zshl1 h0 (show c < 9 by omega)
    show 0 ≤ (if 0 < sW S c ∧ sF S c ≤ t ∧ t < sU S c then (if what = 0 then sW S c else if what = 1 then sD S c else zishl 1 c) else 0) ∧ (if 0 < sW S c ∧ sF S c ≤ t ∧ t < sU S c then (if what = 0 then sW S c else if what = 1 then sD S c else zishl 1 c) else 0) ≤ 256
    by_cases g : 0 < sW S c ∧ sF S c ≤ t ∧ t < sU S c
    · rw [if_pos g]
      split
      · omega
      · split <;> omega
    · rw [if_neg g]
      omega)
  unfold sUse
  omega
/-- what the class's plan gives -/
theorem cS_facts {I : zMem} {p : Nat} (hc : zCh I) (hp : zPl I p) : sWt (cS I p) ∧ (0 ≤ sN (cS I p) ∧ sN (cS I p) ≤ 6) ∧ (∀ c : Int, 0 ≤ c → c < sN (cS I p) → 0 ≤ sD (cS I p) c ∧ sD (cS I p) c ≤ 40) ∧ (∀ c : Int, 0 ≤ c → c < sN (cS I p) → sW (cS I p) c ≤ 8) ∧ (∀ c w : Int, 0 ≤ c → c < sN (cS I p) → 1 ≤ w → w ≤ sL (cS I p) → 2 ≤ sT (cS I p) c w ∧ sT (cS I p) c w ≤ 2234) ∧ (∀ a : Int, 0 ≤ a → a < sN (cS I p) → 0 < sW (cS I p) a → 0 ≤ sU (cS I p) a) := by
  obtain ⟨h1, h2, h3, h4, h5, h6⟩ := hc
  refine ⟨fun c g0 g1 => ?_, ⟨?_, ?_⟩, fun c g0 g1 => ?_, fun c g0 g1 => ?_, fun c w g0 g1 g2 g3 => ?_, fun c g0 g1 g2 => ?_⟩
  · have := (h5 c g0 g1).2.1
    show 0 ≤ I 37 c
    omega
  · show 0 ≤ I 34 2
    omega
  · show I 34 2 ≤ 6
    omega
  · have := (h5 c g0 g1).2.1
    show 0 ≤ I 37 c ∧ I 37 c ≤ 40
    omega
  · have := (hp c g0 g1).2.1
    show I (p + 2) c ≤ 8
    omega
  · have g := h5 c g0 g1
    rw [cS_T ⟨g0, by have : c < I 34 2 := g1; omega⟩]
    exact tkOf_b g.1 (g.2.2.2.2 w g2 g3)
  · exact (hp c g0 g1).2.2.2.1.1
end
section
/-! the soonest by candidates; the filling of one core -/
theorem sOk_iff4 {S : zS} {c w t : Int} (ht : 0 ≤ t) : sOk S c w t ↔ sNot S c t = -4 ∧ sBeg S c (t + sT S c w) = -4 ∧ sOver S 0 (sL S - w) t (t + sT S c w) = -4 ∧ sOver S 1 (sP S - sD S c) t (t + sT S c w) = -4 := by
  unfold sOk
  rw [← sNot_iff, ← sBeg_iff, ← sOver_iff ht, ← sOver_iff ht]
def sTj (U : Int → Int) (j : Int) : Int := if j < 0 then 0 else U j
/-- the search for the soonest, the candidates ahead of i looked at -/
def sInv (S : zS) (c w y f i : Int) : Prop := (f = -4 ∧ ∀ j : Int, -1 ≤ j → j < i → sTj (sU S) j + sT S c w < y → ¬ sOk S c w (sTj (sU S) j)) ∨ (0 ≤ f ∧ f + sT S c w < y ∧ sOk S c w f ∧ ∀ j : Int, -1 ≤ j → j < i → sTj (sU S) j + sT S c w < y → sOk S c w (sTj (sU S) j) → f ≤ sTj (sU S) j)
theorem sInv_keep {S : zS} {c w y f i : Int} (h : sInv S c w y f i) (hq : y ≤ sTj (sU S) i + sT S c w ∨ (f ≠ -4 ∧ f ≤ sTj (sU S) i) ∨ ¬ sOk S c w (sTj (sU S) i)) : sInv S c w y f (i + 1) := by
  rcases h with ⟨h0, h⟩ | ⟨h0, h1, h2, h⟩
  · refine Or.inl ⟨h0, fun j g0 g1 g2 g3 => ?_⟩
    by_cases e : j = i
    · subst e
      rcases hq with q | q | q
      · omega
      · exact q.1 h0
      · exact q g3
    · exact h j g0 (by omega) g2 g3
  · refine Or.inr ⟨h0, h1, h2, fun j g0 g1 g2 g3 => ?_⟩
    by_cases e : j = i
    · subst e
      rcases hq with q | q | q
      · omega
      · exact q.2
      · exact absurd g3 q
    · exact h j g0 (by omega) g2 g3
theorem sInv_new {S : zS} {c w y f i : Int} (h : sInv S c w y f i) (h0 : 0 ≤ sTj (sU S) i) (h1 : sTj (sU S) i + sT S c w < y) (h2 : sOk S c w (sTj (sU S) i)) (h3 : f = -4 ∨ sTj (sU S) i < f) : sInv S c w y (sTj (sU S) i) (i + 1) := by
  refine Or.inr ⟨h0, h1, h2, fun j g0 g1 g2 g3 => ?_⟩
  by_cases e : j = i
  · rw [e]
    exact Int.le_refl _
  · rcases h with ⟨k0, h⟩ | ⟨k0, k1, k2, h⟩
    · exact absurd g3 (h j g0 (by omega) g2)
    · have := h j g0 (by omega) g2 g3
      omega
theorem sInv_end {S : zS} {c w y f : Int} (h : sInv S c w y f (sN S)) (hw : sWt S) (hT : 1 ≤ sT S c w) (hN : 0 ≤ sN S) (hU : ∀ a : Int, 0 ≤ a → a < sN S → 0 < sW S a → 0 ≤ sU S a) : f = sSoon S c w y := by
  have cand : ∀ t, (t = 0 ∨ ∃ a : Int, 0 ≤ a ∧ a < sN S ∧ 0 < sW S a ∧ sU S a = t) → ∃ j : Int, -1 ≤ j ∧ j < sN S ∧ sTj (sU S) j = t := by
    intro t ht
    rcases ht with rfl | ⟨a, a0, a1, a2, rfl⟩
    · exact ⟨-1, by omega, by omega, if_pos (by omega)⟩
    · exact ⟨a, by omega, a1, if_neg (by omega)⟩
  refine sSoon_cand hw hT hU ?_
  rcases h with ⟨h0, h⟩ | ⟨h0, h1, h2, h⟩
  · refine Or.inl ⟨h0, fun t ht g => ?_⟩
    obtain ⟨j, j0, j1, rfl⟩ := cand t ht
    exact h j j0 j1 g
  · refine Or.inr ⟨h0, h1, h2, fun t ht g g2 => ?_⟩
    obtain ⟨j, j0, j1, rfl⟩ := cand t ht
    exact h j j0 j1 g g2
theorem sOk_narrow {S : zS} {c w w' t : Int} (h : sOk S c w t) (hw : w' ≤ w) (hT : sT S c w' ≤ sT S c w) : sOk S c w' t := by
  obtain ⟨h1, h2, h3, h4⟩ := h
  refine ⟨h1, fun b b0 b1 b2 b3 => ?_, fun s s0 s1 => ?_, fun s s0 s1 => h4 s s0 (by omega)⟩
  · have := h2 b b0 b1 b2 b3
    omega
  · have := h3 s s0 (by omega)
    omega
/-- what filling has found among the widths up to n -/
theorem sFl_spec {S : zS} {c y : Int} : ∀ n : Nat, (sFl S c y n).2.2 ≤ y ∧ (∀ (w t : Int), 1 ≤ w → w ≤ n → 0 ≤ t → sOk S c w t → (sFl S c y n).2.2 ≤ t + sT S c w) ∧ (((sFl S c y n).1 = 0 ∧ (sFl S c y n).2.2 = y) ∨ (1 ≤ (sFl S c y n).1 ∧ (sFl S c y n).1 ≤ n ∧ 0 ≤ (sFl S c y n).2.1 ∧ sOk S c (sFl S c y n).1 (sFl S c y n).2.1 ∧ (sFl S c y n).2.2 = (sFl S c y n).2.1 + sT S c (sFl S c y n).1 ∧ (sFl S c y n).2.2 < y ∧ (∀ (w t : Int), 1 ≤ w → w < (sFl S c y n).1 → 0 ≤ t → sOk S c w t → (sFl S c y n).2.2 < t + sT S c w))) := by
  intro n
  induction n with
  | zero => exact ⟨Int.le_refl _, fun w t h1 h2 => absurd h2 (by omega), Or.inl ⟨rfl, rfl⟩⟩
  | succ n ih =>
    obtain ⟨i1, i2, i3⟩ := ih
    generalize hz : sFl S c y n = z at i1 i2 i3
    have e : sFl S c y (n + 1) = if ¬ sSoon S c (n + 1) z.2.2 = -4 then ((n + 1 : Int), sSoon S c (n + 1) z.2.2, sSoon S c (n + 1) z.2.2 + sT S c (n + 1)) else z := by
      show (if ¬ sSoon S c (n + 1) (sFl S c y n).2.2 = -4 then ((n + 1 : Int), sSoon S c (n + 1) (sFl S c y n).2.2, sSoon S c (n + 1) (sFl S c y n).2.2 + sT S c (n + 1)) else sFl S c y n) = _
      rw [hz]
    rw [e]
    rcases sSoon_spec (S := S) (c := c) (w := n + 1) (y := z.2.2) with ⟨h1, h2⟩ | ⟨h1, h2, h3, h4⟩
    · rw [if_neg (by omega)]
      refine ⟨i1, fun w t g0 g1 g2 g3 => ?_, ?_⟩
      · by_cases ew : w = n + 1
        · subst ew
          by_cases q : t + sT S c (n + 1) < z.2.2
          · exact absurd g3 (h2 t g2 q)
          · omega
        · exact i2 w t g0 (by omega) g2 g3
      · rcases i3 with i3 | ⟨a1, a2, a3, a4, a5, a6, a7⟩
        · exact Or.inl i3
        · exact Or.inr ⟨a1, by omega, a3, a4, a5, a6, a7⟩
    · rw [if_pos (by omega)]
      generalize sSoon S c (n + 1) z.2.2 = u at *
      refine ⟨by show u + _ ≤ y; omega, fun w t g0 g1 g2 g3 => ?_, Or.inr ⟨by show (1 : Int) ≤ n + 1; omega, by show (n + 1 : Int) ≤ ((n + 1 : Nat) : Int); omega, h1, h3, rfl, by show u + _ < y; omega, fun w t g0 g1 g2 g3 => ?_⟩⟩
      · show u + sT S c (n + 1) ≤ t + sT S c w
        by_cases ew : w = n + 1
        · subst ew
          by_cases q : t < u
          · exact absurd g3 (h4 t g2 q)
          · omega
        · have := i2 w t g0 (by omega) g2 g3
          omega
      · show u + sT S c (n + 1) < t + sT S c w
        have g1 : w < (n + 1 : Int) := g1
        have := i2 w t g0 (by omega) g2 g3
        omega
theorem sFl_skip {S : zS} {c y w : Int} {n : Nat} (h : ∃ w' : Int, 1 ≤ w' ∧ w' ≤ n ∧ sT S c w' ≤ sT S c w ∧ w' ≤ w) : sSoon S c w (sFl S c y n).2.2 = -4 := by
  obtain ⟨w', h1, h2, h3, h4⟩ := h
  refine sSoon_none (fun t g0 g1 g2 => ?_)
  have := (sFl_spec (S := S) (c := c) (y := y) n).2.1 w' t h1 h2 g0 (sOk_narrow g2 h4 h3)
  omega
theorem zu3_eq {I : zMem} {p : Nat} {c w t u : Int} : zu (zu (zu I (p + 2) c w) (p + 3) c t) (p + 4) c u (p + 2) = (fun j => if j = c then w else I (p + 2) j) ∧ zu (zu (zu I (p + 2) c w) (p + 3) c t) (p + 4) c u (p + 3) = (fun j => if j = c then t else I (p + 3) j) ∧ zu (zu (zu I (p + 2) c w) (p + 3) c t) (p + 4) c u (p + 4) = (fun j => if j = c then u else I (p + 4) j) ∧ ∀ b : Nat, b ≠ p + 2 → b ≠ p + 3 → b ≠ p + 4 → zu (zu (zu I (p + 2) c w) (p + 3) c t) (p + 4) c u b = I b := by
  refine ⟨funext fun j => ?_, funext fun j => ?_, funext fun j => ?_, fun b g1 g2 g3 => funext fun j => by rw [zu_na g3, zu_na g2, zu_na g1]⟩
  · rw [zu_na (by omega), zu_na (by omega)]
    unfold zu
    by_cases e : j = c
    · rw [if_pos ⟨rfl, e⟩, if_pos e]
    · rw [if_neg (fun q => e q.2), if_neg e]
  · rw [zu_na (by omega)]
    unfold zu
    by_cases e : j = c
    · rw [if_pos ⟨rfl, e⟩, if_pos e]
    · rw [if_neg (fun q => e q.2), if_neg e, if_neg (fun q => by have := q.1; omega)]
  · unfold zu
    by_cases e : j = c
    · rw [if_pos ⟨rfl, e⟩, if_pos e]
    · rw [if_neg (fun q => e q.2), if_neg e, if_neg (fun q => by have := q.1; omega), if_neg (fun q => by have := q.1; omega)]
theorem cS_put {I : zMem} {p : Nat} {c w t : Int} (hp : p = 64 ∨ p = 86) : cS (zu (zu (zu I (p + 2) c w) (p + 3) c t) (p + 4) c (t + sT (cS I p) c w)) p = sPut (cS I p) c w t := by
  obtain ⟨e1, e2, e3, e⟩ := zu3_eq (I := I) (p := p) (c := c) (w := w) (t := t) (u := t + sT (cS I p) c w)
  have eT : (fun (a v : Int) => if 0 ≤ a ∧ a < 6 then tkOf (zu (zu (zu I (p + 2) c w) (p + 3) c t) (p + 4) c (t + sT (cS I p) c w) (p + 1) a) (zu (zu (zu I (p + 2) c w) (p + 3) c t) (p + 4) c (t + sT (cS I p) c w) 36 a) (zu (zu (zu I (p + 2) c w) (p + 3) c t) (p + 4) c (t + sT (cS I p) c w) (49 + a.toNat) v) else 0) = sT (cS I p) := by
    funext a v
    by_cases ha : 0 ≤ a ∧ a < 6
    · rw [cS_T ha, if_pos ha, e (p + 1) (by omega) (by omega) (by omega), e 36 (by omega) (by omega) (by omega), e (49 + a.toNat) (by omega) (by omega) (by omega)]
    · rw [if_neg ha]
      exact (if_neg ha).symm
  unfold sPut
  rw [show cS (zu (zu (zu I (p + 2) c w) (p + 3) c t) (p + 4) c (t + sT (cS I p) c w)) p = ((zu (zu (zu I (p + 2) c w) (p + 3) c t) (p + 4) c (t + sT (cS I p) c w) 34 2, zu (zu (zu I (p + 2) c w) (p + 3) c t) (p + 4) c (t + sT (cS I p) c w) 34 0, zu (zu (zu I (p + 2) c w) (p + 3) c t) (p + 4) c (t + sT (cS I p) c w) 34 1), zu (zu (zu I (p + 2) c w) (p + 3) c t) (p + 4) c (t + sT (cS I p) c w) 37, _, (fun a b => zbt (zu (zu (zu I (p + 2) c w) (p + 3) c t) (p + 4) c (t + sT (cS I p) c w) (p + 5) b) a), zu (zu (zu I (p + 2) c w) (p + 3) c t) (p + 4) c (t + sT (cS I p) c w) (p + 2), zu (zu (zu I (p + 2) c w) (p + 3) c t) (p + 4) c (t + sT (cS I p) c w) (p + 3), zu (zu (zu I (p + 2) c w) (p + 3) c t) (p + 4) c (t + sT (cS I p) c w) (p + 4)) from rfl, eT, e1, e2, e3, e 34 (by omega) (by omega) (by omega), e 37 (by omega) (by omega) (by omega), e (p + 5) (by omega) (by omega) (by omega)]
  rfl
theorem zfirst_in {P : Int → Bool} {n : Nat} (h : n ≤ 1000000) : -4 ≤ zfirst P n ∧ zfirst P n ≤ 1000000 := by
  rcases zfirst_spec P n with ⟨g, -⟩ | ⟨g, g', -⟩ <;> omega
theorem sNot_in {S : zS} {c t : Int} (h : sN S ≤ 1000000) : zin (sNot S c t) := by
  have : -4 ≤ sNot S c t ∧ sNot S c t ≤ 1000000 := zfirst_in (by omega)
  unfold zin
  omega
theorem sBeg_in {S : zS} {c t : Int} (h : sN S ≤ 1000000) : zin (sBeg S c t) := by
  have : -4 ≤ sBeg S c t ∧ sBeg S c t ≤ 1000000 := zfirst_in (by omega)
  unfold zin
  omega
theorem sOver_in {S : zS} {what most t en : Int} (h0 : 0 ≤ t) (h1 : t ≤ 2000000) (h2 : en ≤ 3000000) : zin (sOver S what most t en) := by
  rcases sOver_spec (S := S) (what := what) (most := most) (en := en) h0 with ⟨g, -⟩ | ⟨g, g', -⟩ <;> unfold zin <;> omega
theorem sFl_succ {S : zS} {c y w : Int} (h : 1 ≤ w) : sFl S c y w.toNat = if ¬ sSoon S c w (sFl S c y (w - 1).toNat).2.2 = -4 then (w, sSoon S c w (sFl S c y (w - 1).toNat).2.2, sSoon S c w (sFl S c y (w - 1).toNat).2.2 + sT S c w) else sFl S c y (w - 1).toNat := by
  have e : w.toNat = (w - 1).toNat + 1 := by omega
  have e2 : (((w - 1).toNat : Nat) : Int) + 1 = w := by omega
  rw [e]
  show (if ¬ sSoon S c (((w - 1).toNat : Nat) + 1) (sFl S c y (w - 1).toNat).2.2 = -4 then ((((w - 1).toNat : Nat) : Int) + 1, sSoon S c (((w - 1).toNat : Nat) + 1) (sFl S c y (w - 1).toNat).2.2, sSoon S c (((w - 1).toNat : Nat) + 1) (sFl S c y (w - 1).toNat).2.2 + sT S c (((w - 1).toNat : Nat) + 1)) else sFl S c y (w - 1).toNat) = _
  rw [e2]
theorem sSoon_le {S : zS} {c w y M : Int} (hw : sWt S) (hT : 1 ≤ sT S c w) (hM : 0 ≤ M) (hU : ∀ a : Int, 0 ≤ a → a < sN S → 0 < sW S a → sU S a ≤ M) : sSoon S c w y ≤ M := by
  rcases sSoon_spec (S := S) (c := c) (w := w) (y := y) with ⟨h1, -⟩ | ⟨h1, h2, h3, h4⟩
  · omega
  · obtain ⟨t', a1, a2, a3, a4⟩ := sOk_least hw hT _ _ rfl h1 h3
    by_cases q : t' < sSoon S c w y
    · exact absurd a3 (h4 t' a1 q)
    · rcases a4 with rfl | ⟨a, b0, b1, b2, b3⟩
      · omega
      · have := hU a b0 b1 b2
        omega
theorem sFl_le {S : zS} {c y M : Int} (hw : sWt S) (hM : 0 ≤ M) (hU : ∀ a : Int, 0 ≤ a → a < sN S → 0 < sW S a → sU S a ≤ M) : ∀ n : Nat, (∀ w : Int, 1 ≤ w → w ≤ n → 1 ≤ sT S c w) → (sFl S c y n).2.1 ≤ M := by
  intro n
  induction n with
  | zero => intro _; exact hM
  | succ n ih =>
    intro hT
    have h1 := ih (fun w a b => hT w a (by omega))
    show (if ¬ sSoon S c (n + 1) (sFl S c y n).2.2 = -4 then ((n + 1 : Int), sSoon S c (n + 1) (sFl S c y n).2.2, sSoon S c (n + 1) (sFl S c y n).2.2 + sT S c (n + 1)) else sFl S c y n).2.1 ≤ M
    split
    · exact sSoon_le hw (hT (n + 1) (by omega) (by omega)) hM hU
    · exact h1
def zminf (f : Int → Int) : Nat → Int
  | 0 => 1000000
  | n + 1 => min (zminf f n) (f (n + 1))
theorem zminf_succ (f : Int → Int) {w : Int} (h : 1 ≤ w) : zminf f w.toNat = min (zminf f (w - 1).toNat) (f w) := by
  have e : w.toNat = (w - 1).toNat + 1 := by omega
  have e2 : (((w - 1).toNat : Nat) : Int) + 1 = w := by omega
  rw [e]
  show min (zminf f (w - 1).toNat) (f (((w - 1).toNat : Nat) + 1)) = _
  rw [e2]
/-- the widths at which it takes less than at each lesser one, as bits; and the least -/
def zst (f : Int → Int) : Nat → Int × Int
  | 0 => (0, 1000000)
  | n + 1 => if f (n + 1) < (zst f n).2 then (zior (zst f n).1 (zishl 1 (n + 1)), f (n + 1)) else zst f n
theorem zst_succ (f : Int → Int) {w : Int} (h : 1 ≤ w) : zst f w.toNat = if f w < (zst f (w - 1).toNat).2 then (zior (zst f (w - 1).toNat).1 (zishl 1 w), f w) else zst f (w - 1).toNat := by
  have e : w.toNat = (w - 1).toNat + 1 := by omega
  have e2 : (((w - 1).toNat : Nat) : Int) + 1 = w := by omega
  rw [e]
  show (if f (((w - 1).toNat : Nat) + 1) < (zst f (w - 1).toNat).2 then (zior (zst f (w - 1).toNat).1 (zishl 1 (((w - 1).toNat : Nat) + 1)), f (((w - 1).toNat : Nat) + 1)) else zst f (w - 1).toNat) = _
  rw [e2]
def zput (I : zMem) (p : Nat) (c w t : Int) : zMem := zu (zu (zu I (p + 2) c w) (p + 3) c t) (p + 4) c (t + sT (cS I p) c w)
theorem sLen_succ (S : zS) {c : Int} (h : 0 ≤ c) : sLen S (c + 1).toNat = if 0 < sW S c then max (sLen S c.toNat) (sU S c) else sLen S c.toNat := by
  rw [show (c + 1).toNat = c.toNat + 1 by omega]
  show (if 0 < sW S (c.toNat : Int) then max (sLen S c.toNat) (sU S (c.toNat : Int)) else sLen S c.toNat) = _
  rw [Int.toNat_of_nonneg h]
/-- a plan written into a row, and read out of it -/
def zwr (I : zMem) (p r : Nat) : zMem := zcp (zcp (zcp (zcp I (p + 1) 0 r 0 6) (p + 2) 0 r 6 6) (p + 3) 0 r 12 6) (p + 4) 0 r 18 6
def zrd (I : zMem) (p r : Nat) : zMem := zcp (zcp (zcp (zcp I r 0 (p + 1) 0 6) r 6 (p + 2) 0 6) r 12 (p + 3) 0 6) r 18 (p + 4) 0 6
def zAtt (S : zS) (c w le : Int) : Prop := (w = 1 ∧ le = 1000000) ∨ ∃ w' : Int, 1 ≤ w' ∧ w' < w ∧ sT S c w' = le
end
section
set_option maxHeartbeats 4000000 in
set_option maxRecDepth 100000 in
theorem c_X2_takes {G : zG} {d n : Nat} {I : zMem} {R : zRef} {c k w : Int} (hW : zWir n R) (hn : 115 ≤ n) (hc : 0 ≤ c ∧ c < 6) (hw : 0 ≤ w ∧ w < 9) (hk : zin k) (hp : 0 ≤ I 36 c ∧ I 36 c ≤ 20) (hl : 0 ≤ I (49 + c.toNat) w ∧ I (49 + c.toNat) w ≤ 54) : MT G mX2_takes (d + 1) 0 0 [zR 34, zI c, zI k, zI w] n I R (zP1 (fun r I' R' => r = tkOf k (I 36 c) (I (49 + c.toNat) w) ∧ I' = I ∧ R' = R)) := by
  refine MT.of (by decide +kernel) tX2_takes_ok (Nat.le_of_ble_eq_true rfl) (fun hI0 => ?_)
  have hr1 : R 48 c = some (49 + c.toNat) := zrowR (m := 6) hW (by omega) (by decide) hc.1 (by omega)
  have hl1 : zlay (49 + c.toNat) = (20, 9) := zrowL (m := 6) (by decide) (by omega) hc.1
  have h1 := zmulb hp.1 hp.2 hl.1 hl.2
  have h2 := zmulb (b := I (49 + c.toNat) w + 1) (B := 55) hp.1 hp.2 (by omega) (by omega)
  refine wp_ls (ls' := [some (zR 34), some (zI c), some (zI k), some (zI w), none, none, none, none]) rfl ?_
  refine wp_aload_n (t := 0) rfl rfl ?_
  refine wp_getR (t := 1) (ji := 5) rfl fX2_15 rfl rfl (by omega) (by first | rfl | assumption) (by first | exact hW _ _ _ (by omega) rfl | assumption) ?_
  refine wp_iload_n (t := 2) rfl rfl ?_
  refine wp_iaload (t := 3) rfl (by omega) (by first | rfl | assumption) (by omega) (by omega) (by decide) ?_
  refine wp_istore (t := 4) rfl (by decide) rfl ?_
  refine wp_aload_n (t := 5) rfl rfl ?_
  refine wp_getR (t := 6) (ji := 11) rfl fX2_35 rfl rfl (by omega) (by first | rfl | assumption) (by first | exact hW _ _ _ (by omega) rfl | assumption) ?_
  refine wp_iload_n (t := 7) rfl rfl ?_
  refine wp_aaload (t := 8) rfl (by omega) (by first | rfl | assumption) (by omega) (by omega) (by decide) (by first | exact hW _ _ _ (by omega) rfl | assumption) ?_
  refine wp_iload_n (t := 9) rfl rfl ?_
  refine wp_iaload (t := 10) rfl (by omega) (by first | rfl | assumption) (by omega) (by omega) (by decide) ?_
  refine wp_istore (t := 11) rfl (by decide) rfl ?_
  refine wp_iload (t := 12) rfl rfl ?_
  refine wp_iload (t := 13) rfl rfl ?_
  refine wp_iconst (t := 14) rfl ?_
  refine wp_iadd (t := 15) rfl ?_
  refine wp_imul (t := 16) rfl ?_
  refine wp_iload (t := 17) rfl rfl ?_
  refine wp_iadd (t := 18) rfl ?_
  refine wp_istore (t := 19) rfl (by decide) rfl ?_
  refine wp_iload (t := 20) rfl rfl ?_
  refine wp_iload (t := 21) rfl rfl ?_
  refine wp_iload (t := 22) rfl rfl ?_
  refine wp_imul (t := 23) rfl ?_
  refine wp_iadd (t := 24) rfl ?_
  refine wp_istore (t := 25) rfl (by decide) rfl ?_
  refine wp_iload_n (t := 26) rfl rfl ?_
  refine wp_top (fun y41 e41 => ?_)
  have z41 : zin y41 := (by first | assumption | exact hI0 _ _ | exact zin_and _ _ | (unfold zin; omega) | (unfold zin at *; omega) | (rw [e41]; first | exact hI0 _ _ | (unfold zin; omega)))
  rcases (show y41 = 0 ∨ y41 = 1 ∨ y41 = 2 ∨ (y41 < 0 ∨ 2 < y41) by omega) with h41 | h41 | h41 | h41
  · refine wp_tin (0) (t := 27) (off := 27) (tgt := 68) rfl h41 z41 (by decide) (by decide) rfl (by decide) ?_
    refine wp_iload (t := 28) rfl rfl ?_
    refine wp_ireturn (t := 29) rfl rfl ?_
    refine ⟨_, rfl, ?_, rfl, rfl⟩
    unfold tkOf
    first | rw [if_pos (by omega)] | rw [if_neg (by omega), if_pos (by omega)] | rw [if_neg (by omega), if_neg (by omega), if_pos (by omega)] | rw [if_neg (by omega), if_neg (by omega), if_neg (by omega), ztdiv2 (by omega)]
  · refine wp_tin (1) (t := 27) (off := 30) (tgt := 71) rfl h41 z41 (by decide) (by decide) rfl (by decide) ?_
    refine wp_iload (t := 30) rfl rfl ?_
    refine wp_ireturn (t := 31) rfl rfl ?_
    refine ⟨_, rfl, ?_, rfl, rfl⟩
    unfold tkOf
    first | rw [if_pos (by omega)] | rw [if_neg (by omega), if_pos (by omega)] | rw [if_neg (by omega), if_neg (by omega), if_pos (by omega)] | rw [if_neg (by omega), if_neg (by omega), if_neg (by omega), ztdiv2 (by omega)]
  · refine wp_tin (2) (t := 27) (off := 33) (tgt := 74) rfl h41 z41 (by decide) (by decide) rfl (by decide) ?_
    refine wp_iload (t := 32) rfl rfl ?_
    refine wp_bipush (t := 33) rfl (by decide) ?_
    refine wp_max (t := 34) rfl (wsL_law_r12_l (List.mem_of_getElem? (i := 7) rfl)) (by first | assumption | exact hI0 _ _ | exact zin_and _ _ | (unfold zin; omega) | (unfold zin at *; omega)) (by first | assumption | exact hI0 _ _ | exact zin_and _ _ | (unfold zin; omega) | (unfold zin at *; omega)) (Nat.le_of_ble_eq_true rfl) ⟨Nat.le_refl _, Nat.le_refl _⟩ ?_
    refine wp_ireturn (t := 35) rfl rfl ?_
    refine ⟨_, rfl, ?_, rfl, rfl⟩
    unfold tkOf
    first | rw [if_pos (by omega)] | rw [if_neg (by omega), if_pos (by omega)] | rw [if_neg (by omega), if_neg (by omega), if_pos (by omega)] | rw [if_neg (by omega), if_neg (by omega), if_neg (by omega), ztdiv2 (by omega)]
  · refine wp_tout (t := 27) (tgt := 82) rfl z41 h41 (by decide) ?_
    refine wp_iload (t := 36) rfl rfl ?_
    refine wp_iconst (t := 37) rfl ?_
    refine wp_iadd (t := 38) rfl ?_
    refine wp_iconst (t := 39) rfl ?_
    refine wp_idiv (t := 40) rfl (by first | assumption | exact hI0 _ _ | exact zin_and _ _ | (unfold zin; omega) | (unfold zin at *; omega)) (by first | assumption | exact hI0 _ _ | exact zin_and _ _ | (unfold zin; omega) | (unfold zin at *; omega)) (by omega) ?_
    refine wp_ireturn (t := 41) rfl rfl ?_
    refine ⟨_, rfl, ?_, rfl, rfl⟩
    unfold tkOf
    first | rw [if_pos (by omega)] | rw [if_neg (by omega), if_pos (by omega)] | rw [if_neg (by omega), if_neg (by omega), if_pos (by omega)] | rw [if_neg (by omega), if_neg (by omega), if_neg (by omega), ztdiv2 (by omega)]
set_option maxHeartbeats 4000000 in
set_option maxRecDepth 100000 in
theorem c_X3_isPut {G : zG} {d n : Nat} {I : zMem} {R : zRef} {p : Nat} {c : Int} (hp : p = 64 ∨ p = 86) (hW : zWir n R) (hn : 115 ≤ n) (hc : 0 ≤ c ∧ c < 6) : MT G mX3_isPut d 0 0 [zR p, zI c] n I R (zP1 (fun r I' R' => r = (if 0 < I (p + 2) c then 1 else 0) ∧ I' = I ∧ R' = R)) := by
  refine MT.of (by decide +kernel) tX3_isPut_ok (Nat.le_of_ble_eq_true rfl) (fun hI0 => ?_)
  obtain ⟨hl0, hl1, hl2, hl3, hl4, hl5, hp1⟩ := zpl hp
  obtain ⟨hr0, hr1, hr2, hr3, hr4, hr5⟩ := zpr hp hW hn
  refine wp_ls (ls' := [some (zR p), some (zI c)]) rfl ?_
  refine wp_aload_n (t := 0) rfl rfl ?_
  refine wp_getR (t := 1) (ji := 2) rfl fX3_15 rfl rfl (by omega) (by first | rfl | assumption) (by first | exact hW _ _ _ (by omega) rfl | assumption) ?_
  refine wp_iload_n (t := 2) rfl rfl ?_
  refine wp_iaload (t := 3) rfl (by omega) (by first | rfl | assumption) (by omega) (by omega) (by decide) ?_
  refine wp_if_le (t := 4) (tgt := 13) rfl (by decide) (by first | assumption | exact hI0 _ _ | exact zin_and _ _ | (unfold zin; omega) | (unfold zin at *; omega)) (fun h6 => ?_) (fun h6 => ?_)
  · refine wp_iconst (t := 7) rfl ?_
    refine wp_zreturn (t := 8) rfl rfl (by omega) ?_
    exact ⟨_, rfl, by first | rw [if_pos (by omega)] | rw [if_neg (by omega)], rfl, rfl⟩
  · refine wp_iconst (t := 5) rfl ?_
    refine wp_goto (t := 6) (tgt := 14) rfl (by decide) ?_
    refine wp_zreturn (t := 8) rfl rfl (by omega) ?_
    exact ⟨_, rfl, by first | rw [if_pos (by omega)] | rw [if_neg (by omega)], rfl, rfl⟩
set_option maxHeartbeats 4000000 in
set_option maxRecDepth 100000 in
theorem c_X3_takes {G : zG} {d n : Nat} {I : zMem} {R : zRef} {p : Nat} {c w : Int} (hp : p = 64 ∨ p = 86) (hW : zWir n R) (hn : 115 ≤ n) (hc : 0 ≤ c ∧ c < 6) (hw : 0 ≤ w ∧ w < 9) (hq : 0 ≤ I 36 c ∧ I 36 c ≤ 20) (hl : 0 ≤ I (49 + c.toNat) w ∧ I (49 + c.toNat) w ≤ 54) : MT G mX3_takes (d + 2) 0 0 [zR p, zI c, zI w] n I R (zP1 (fun r I' R' => r = sT (cS I p) c w ∧ I' = I ∧ R' = R)) := by
  refine MT.of (by decide +kernel) tX3_takes_ok (Nat.le_of_ble_eq_true rfl) (fun hI0 => ?_)
  obtain ⟨hl0, hl1, hl2, hl3, hl4, hl5, hp1⟩ := zpl hp
  obtain ⟨hr0, hr1, hr2, hr3, hr4, hr5⟩ := zpr hp hW hn
  refine wp_ls (ls' := [some (zR p), some (zI c), some (zI w)]) rfl ?_
  refine wp_aload_n (t := 0) rfl rfl ?_
  refine wp_getR (t := 1) (ji := 0) rfl fX3_27 rfl rfl (by omega) (by first | rfl | assumption) (by first | exact hW _ _ _ (by omega) rfl | assumption) ?_
  refine wp_iload_n (t := 2) rfl rfl ?_
  refine wp_aload_n (t := 3) rfl rfl ?_
  refine wp_getR (t := 4) (ji := 1) rfl fX3_9 rfl rfl (by omega) (by first | rfl | assumption) (by first | exact hW _ _ _ (by omega) rfl | assumption) ?_
  refine wp_iload_n (t := 5) rfl rfl ?_
  refine wp_iaload (t := 6) rfl (by omega) (by first | rfl | assumption) (by omega) (by omega) (by decide) ?_
  refine wp_iload_n (t := 7) rfl rfl ?_
  refine wp_vi (ci := 2) (c_X2_takes hW hn hc hw (hI0 _ _) hq hl) (t := 8) rfl kX3_51 rfl rfl (by omega) (by first | rfl | assumption) ⟨_, _, rfl⟩ (Nat.le_of_ble_eq_true rfl) ⟨Nat.le_refl _, Nat.le_refl _⟩ (fun r12 I12 R12 c12 => ?_)
  refine wp_canon (fun hI1 => ?_)
  obtain ⟨rfl, rfl, rfl⟩ := c12
  refine wp_ireturn (t := 9) rfl rfl ?_
  exact ⟨_, rfl, (cS_T hc).symm, rfl, rfl⟩
set_option maxHeartbeats 4000000 in
set_option maxRecDepth 100000 in
theorem c_X3_used {G : zG} {d n : Nat} {I : zMem} {R : zRef} {p : Nat} {what t : Int} (hp : p = 64 ∨ p = 86) (hW : zWir n R) (hn : 115 ≤ n) (hco : 0 ≤ I 34 2 ∧ I 34 2 ≤ 6) (hz1 : zin what) (hz2 : zin t) : MT G mX3_used d 0 0 [zR p, zI what, zI t] n I R (zP1 (fun r I' R' => r = sUse (cS I p) what t ∧ I' = I ∧ R' = R)) := by
  refine MT.of (by decide +kernel) tX3_used_ok (Nat.le_of_ble_eq_true rfl) (fun hI0 => ?_)
  obtain ⟨hl0, hl1, hl2, hl3, hl4, hl5, hp1⟩ := zpl hp
  obtain ⟨hr0, hr1, hr2, hr3, hr4, hr5⟩ := zpr hp hW hn
  have key : ∀ (m : Nat) (c s : Int), 0 ≤ c → c ≤ I 34 2 → (I 34 2 - c).toNat = m → s = zsum (fun c => if 0 < I (p + 2) c ∧ I (p + 3) c ≤ t ∧ t < I (p + 4) c then (if what = 0 then I (p + 2) c else if what = 1 then I 37 c else zishl 1 c) else 0) c.toNat → WP G mX3_used d 0 0 0 0 5 [some (zR p), some (zI what), some (zI t), some (zI s), some (zI c)] [] n I R (zP1 (fun r I' R' => r = sUse (cS I p) what t ∧ I' = I ∧ R' = R)) := by
    intro m
    induction m with
    | zero =>
      intro c s h0 h1 hm hs
      refine wp_iload (t := 4) rfl rfl ?_
      refine wp_aload_n (t := 5) rfl rfl ?_
      refine wp_getR (t := 6) (ji := 0) rfl fX3_27 rfl rfl (by omega) (by first | rfl | assumption) (by first | exact hW _ _ _ (by omega) rfl | assumption) ?_
      refine wp_getI (t := 7) (ji := 2) rfl fX3_63 rfl rfl (by omega) (by first | rfl | assumption) ?_
      refine wp_icmp_ge (t := 8) (tgt := 100) rfl (by decide) (by first | assumption | exact hI0 _ _ | exact zin_and _ _ | (unfold zin; omega) | (unfold zin at *; omega)) (by first | assumption | exact hI0 _ _ | exact zin_and _ _ | (unfold zin; omega) | (unfold zin at *; omega)) (fun h14 => ?_) (fun h14 => ?_)
      · refine wp_iload_n (t := 56) rfl rfl ?_
        refine wp_ireturn (t := 57) rfl rfl ?_
        exact ⟨_, rfl, by rw [hs, show c = I 34 2 by omega]; rfl, rfl, rfl⟩
      · exact absurd h14 (by omega)
    | succ m ih =>
      intro c s h0 h1 hm hs
      refine wp_iload (t := 4) rfl rfl ?_
      refine wp_aload_n (t := 5) rfl rfl ?_
      refine wp_getR (t := 6) (ji := 0) rfl fX3_27 rfl rfl (by omega) (by first | rfl | assumption) (by first | exact hW _ _ _ (by omega) rfl | assumption) ?_
      refine wp_getI (t := 7) (ji := 2) rfl fX3_63 rfl rfl (by omega) (by first | rfl | assumption) ?_
      refine wp_icmp_ge (t := 8) (tgt := 100) rfl (by decide) (by first | assumption | exact hI0 _ _ | exact zin_and _ _ | (unfold zin; omega) | (unfold zin at *; omega)) (by first | assumption | exact hI0 _ _ | exact zin_and _ _ | (unfold zin; omega) | (unfold zin at *; omega)) (fun h14 => ?_) (fun h14 => ?_)
      · exact absurd h14 (by omega)
      · refine wp_aload_n (t := 9) rfl rfl ?_
        refine wp_getR (t := 10) (ji := 2) rfl fX3_15 rfl rfl (by omega) (by first | rfl | assumption) (by first | exact hW _ _ _ (by omega) rfl | assumption) ?_
        refine wp_iload (t := 11) rfl rfl ?_
        refine wp_iaload (t := 12) rfl (by omega) (by first | rfl | assumption) (by omega) (by omega) (by decide) ?_
        refine wp_if_le (t := 13) (tgt := 94) rfl (by decide) (by first | assumption | exact hI0 _ _ | exact zin_and _ _ | (unfold zin; omega) | (unfold zin at *; omega)) (fun h24 => ?_) (fun h24 => ?_)
        · refine wp_iinc (t := 54) rfl rfl (by decide) rfl ?_
          refine wp_goto (t := 55) (tgt := 5) rfl (by decide) ?_
          refine ih (c + 1) _ (by omega) (by omega) (by omega) ?_
          rw [zsum_succ _ h0, ← hs]
          first | rw [if_pos (by omega), if_pos (by omega)] | rw [if_pos (by omega), if_neg (by omega), if_pos (by omega)] | rw [if_pos (by omega), if_neg (by omega), if_neg (by omega)] | rw [if_neg (by omega), Int.add_zero]
        · refine wp_aload_n (t := 14) rfl rfl ?_
          refine wp_getR (t := 15) (ji := 3) rfl fX3_18 rfl rfl (by omega) (by first | rfl | assumption) (by first | exact hW _ _ _ (by omega) rfl | assumption) ?_
          refine wp_iload (t := 16) rfl rfl ?_
          refine wp_iaload (t := 17) rfl (by omega) (by first | rfl | assumption) (by omega) (by omega) (by decide) ?_
          refine wp_iload_n (t := 18) rfl rfl ?_
          refine wp_icmp_gt (t := 19) (tgt := 94) rfl (by decide) (by first | assumption | exact hI0 _ _ | exact zin_and _ _ | (unfold zin; omega) | (unfold zin at *; omega)) (by first | assumption | exact hI0 _ _ | exact zin_and _ _ | (unfold zin; omega) | (unfold zin at *; omega)) (fun h35 => ?_) (fun h35 => ?_)
          · refine wp_iinc (t := 54) rfl rfl (by decide) rfl ?_
            refine wp_goto (t := 55) (tgt := 5) rfl (by decide) ?_
            refine ih (c + 1) _ (by omega) (by omega) (by omega) ?_
            rw [zsum_succ _ h0, ← hs]
            first | rw [if_pos (by omega), if_pos (by omega)] | rw [if_pos (by omega), if_neg (by omega), if_pos (by omega)] | rw [if_pos (by omega), if_neg (by omega), if_neg (by omega)] | rw [if_neg (by omega), Int.add_zero]
          · refine wp_iload_n (t := 20) rfl rfl ?_
            refine wp_aload_n (t := 21) rfl rfl ?_
            refine wp_getR (t := 22) (ji := 4) rfl fX3_21 rfl rfl (by omega) (by first | rfl | assumption) (by first | exact hW _ _ _ (by omega) rfl | assumption) ?_
            refine wp_iload (t := 23) rfl rfl ?_
            refine wp_iaload (t := 24) rfl (by omega) (by first | rfl | assumption) (by omega) (by omega) (by decide) ?_
            refine wp_icmp_ge (t := 25) (tgt := 94) rfl (by decide) (by first | assumption | exact hI0 _ _ | exact zin_and _ _ | (unfold zin; omega) | (unfold zin at *; omega)) (by first | assumption | exact hI0 _ _ | exact zin_and _ _ | (unfold zin; omega) | (unfold zin at *; omega)) (fun h46 => ?_) (fun h46 => ?_)
            · refine wp_iinc (t := 54) rfl rfl (by decide) rfl ?_
              refine wp_goto (t := 55) (tgt := 5) rfl (by decide) ?_
              refine ih (c + 1) _ (by omega) (by omega) (by omega) ?_
              rw [zsum_succ _ h0, ← hs]
              first | rw [if_pos (by omega), if_pos (by omega)] | rw [if_pos (by omega), if_neg (by omega), if_pos (by omega)] | rw [if_pos (by omega), if_neg (by omega), if_neg (by omega)] | rw [if_neg (by omega), Int.add_zero]
            · refine wp_iload_n (t := 26) rfl rfl ?_
              refine wp_if_ne (t := 27) (tgt := 66) rfl (by decide) (by first | assumption | exact hI0 _ _ | exact zin_and _ _ | (unfold zin; omega) | (unfold zin at *; omega)) (fun h50 => ?_) (fun h50 => ?_)
              · refine wp_iload_n (t := 36) rfl rfl ?_
                refine wp_iconst (t := 37) rfl ?_
                refine wp_icmp_ne (t := 38) (tgt := 87) rfl (by decide) (by first | assumption | exact hI0 _ _ | exact zin_and _ _ | (unfold zin; omega) | (unfold zin at *; omega)) (by first | assumption | exact hI0 _ _ | exact zin_and _ _ | (unfold zin; omega) | (unfold zin at *; omega)) (fun h68 => ?_) (fun h68 => ?_)
                · refine wp_iload_n (t := 48) rfl rfl ?_
                  refine wp_iconst (t := 49) rfl ?_
                  refine wp_iload (t := 50) rfl rfl ?_
                  refine wp_ishl (t := 51) rfl ?_
                  refine wp_iadd (t := 52) rfl ?_
                  refine wp_istore_n (t := 53) rfl (by decide) rfl ?_
                  refine wp_iinc (t := 54) rfl rfl (by decide) rfl ?_
                  refine wp_goto (t := 55) (tgt := 5) rfl (by decide) ?_
                  refine ih (c + 1) _ (by omega) (by omega) (by omega) ?_
                  rw [zsum_succ _ h0, ← hs]
                  first | rw [if_pos (by omega), if_pos (by omega)] | rw [if_pos (by omega), if_neg (by omega), if_pos (by omega)] | rw [if_pos (by omega), if_neg (by omega), if_neg (by omega)] | rw [if_neg (by omega), Int.add_zero]
                · refine wp_iload_n (t := 39) rfl rfl ?_
                  refine wp_aload_n (t := 40) rfl rfl ?_
                  refine wp_getR (t := 41) (ji := 0) rfl fX3_27 rfl rfl (by omega) (by first | rfl | assumption) (by first | exact hW _ _ _ (by omega) rfl | assumption) ?_
                  refine wp_getR (t := 42) (ji := 6) rfl fX3_73 rfl rfl (by omega) (by first | rfl | assumption) (by first | exact hW _ _ _ (by omega) rfl | assumption) ?_
                  refine wp_iload (t := 43) rfl rfl ?_
                  refine wp_iaload (t := 44) rfl (by omega) (by first | rfl | assumption) (by omega) (by omega) (by decide) ?_
                  refine wp_iadd (t := 45) rfl ?_
                  refine wp_istore_n (t := 46) rfl (by decide) rfl ?_
                  refine wp_goto (t := 47) (tgt := 94) rfl (by decide) ?_
                  refine wp_iinc (t := 54) rfl rfl (by decide) rfl ?_
                  refine wp_goto (t := 55) (tgt := 5) rfl (by decide) ?_
                  refine ih (c + 1) _ (by omega) (by omega) (by omega) ?_
                  rw [zsum_succ _ h0, ← hs]
                  first | rw [if_pos (by omega), if_pos (by omega)] | rw [if_pos (by omega), if_neg (by omega), if_pos (by omega)] | rw [if_pos (by omega), if_neg (by omega), if_neg (by omega)] | rw [if_neg (by omega), Int.add_zero]
              · refine wp_iload_n (t := 28) rfl rfl ?_
                refine wp_aload_n (t := 29) rfl rfl ?_
                refine wp_getR (t := 30) (ji := 2) rfl fX3_15 rfl rfl (by omega) (by first | rfl | assumption) (by first | exact hW _ _ _ (by omega) rfl | assumption) ?_
                refine wp_iload (t := 31) rfl rfl ?_
                refine wp_iaload (t := 32) rfl (by omega) (by first | rfl | assumption) (by omega) (by omega) (by decide) ?_
                refine wp_iadd (t := 33) rfl ?_
                refine wp_istore_n (t := 34) rfl (by decide) rfl ?_
                refine wp_goto (t := 35) (tgt := 94) rfl (by decide) ?_
                refine wp_iinc (t := 54) rfl rfl (by decide) rfl ?_
                refine wp_goto (t := 55) (tgt := 5) rfl (by decide) ?_
                refine ih (c + 1) _ (by omega) (by omega) (by omega) ?_
                rw [zsum_succ _ h0, ← hs]
                first | rw [if_pos (by omega), if_pos (by omega)] | rw [if_pos (by omega), if_neg (by omega), if_pos (by omega)] | rw [if_pos (by omega), if_neg (by omega), if_neg (by omega)] | rw [if_neg (by omega), Int.add_zero]
  refine wp_ls (ls' := [some (zR p), some (zI what), some (zI t), none, none]) rfl ?_
  refine wp_iconst (t := 0) rfl ?_
  refine wp_istore_n (t := 1) rfl (by decide) rfl ?_
  refine wp_iconst (t := 2) rfl ?_
  refine wp_istore (t := 3) rfl (by decide) rfl ?_
  exact key _ 0 0 (by omega) (by omega) rfl rfl
set_option maxHeartbeats 4000000 in
set_option maxRecDepth 100000 in
theorem c_X3_place {G : zG} {d n : Nat} {I : zMem} {R : zRef} {p : Nat} {c w t : Int} (hp : p = 64 ∨ p = 86) (hW : zWir n R) (hn : 115 ≤ n) (hc : 0 ≤ c ∧ c < 6) (hw : 0 ≤ w ∧ w < 9) (hq : 1 ≤ I 36 c ∧ I 36 c ≤ 20) (hl : 1 ≤ I (49 + c.toNat) w ∧ I (49 + c.toNat) w ≤ 54) (ht : 0 ≤ t ∧ t ≤ 1010000) : MT G mX3_place (d + 3) 0 0 [zR p, zI c, zI w, zI t] n I R (zP0 (fun I' R' => I' = zu (zu (zu I (p + 2) c w) (p + 3) c t) (p + 4) c (t + sT (cS I p) c w) ∧ R' = R)) := by
  refine MT.of (by decide +kernel) tX3_place_ok (Nat.le_of_ble_eq_true rfl) (fun hI0 => ?_)
  obtain ⟨hl0, hl1, hl2, hl3, hl4, hl5, hp1⟩ := zpl hp
  obtain ⟨hr0, hr1, hr2, hr3, hr4, hr5⟩ := zpr hp hW hn
  have e1 : ∀ (b : Nat) (j : Int), b ≠ p + 2 → b ≠ p + 3 → zu (zu I (p + 2) c w) (p + 3) c t b j = I b j := fun b j g1 g2 => by rw [zu_na g2, zu_na g1]
  have e2 := e1 36 c (by omega) (by omega)
  have e3 := e1 (49 + c.toNat) w (by omega) (by omega)
  have e4 := e1 (p + 1) c (by omega) (by omega)
  have hb := tkOf_b (k := I (p + 1) c) hq hl
  rw [← cS_T (p := p) hc] at hb
  refine wp_ls (ls' := [some (zR p), some (zI c), some (zI w), some (zI t)]) rfl ?_
  refine wp_aload_n (t := 0) rfl rfl ?_
  refine wp_getR (t := 1) (ji := 2) rfl fX3_15 rfl rfl (by omega) (by first | rfl | assumption) (by first | exact hW _ _ _ (by omega) rfl | assumption) ?_
  refine wp_iload_n (t := 2) rfl rfl ?_
  refine wp_iload_n (t := 3) rfl rfl ?_
  refine wp_iastore (t := 4) rfl (by omega) (by first | rfl | assumption) (by omega) (by omega) (by decide) (by first | assumption | exact hI0 _ _ | exact zin_and _ _ | (unfold zin; omega) | (unfold zin at *; omega)) ?_
  refine wp_canon (fun hI1 => ?_)
  refine wp_aload_n (t := 5) rfl rfl ?_
  refine wp_getR (t := 6) (ji := 3) rfl fX3_18 rfl rfl (by omega) (by first | rfl | assumption) (by first | exact hW _ _ _ (by omega) rfl | assumption) ?_
  refine wp_iload_n (t := 7) rfl rfl ?_
  refine wp_iload_n (t := 8) rfl rfl ?_
  refine wp_iastore (t := 9) rfl (by omega) (by first | rfl | assumption) (by omega) (by omega) (by decide) (by first | assumption | exact hI1 _ _ | exact hI0 _ _ | exact zin_and _ _ | (unfold zin; omega) | (unfold zin at *; omega)) ?_
  refine wp_canon (fun hI2 => ?_)
  refine wp_aload_n (t := 10) rfl rfl ?_
  refine wp_getR (t := 11) (ji := 4) rfl fX3_21 rfl rfl (by omega) (by first | rfl | assumption) (by first | exact hW _ _ _ (by omega) rfl | assumption) ?_
  refine wp_iload_n (t := 12) rfl rfl ?_
  refine wp_iload_n (t := 13) rfl rfl ?_
  refine wp_aload_n (t := 14) rfl rfl ?_
  refine wp_iload_n (t := 15) rfl rfl ?_
  refine wp_iload_n (t := 16) rfl rfl ?_
  refine wp_vi (ci := 3) (c_X3_takes hp hW hn hc hw (by rw [e2]; omega) (by rw [e3]; omega)) (t := 17) rfl kX3_47 rfl rfl (by omega) (by first | rfl | assumption) ⟨_, _, rfl⟩ (Nat.le_of_ble_eq_true rfl) ⟨Nat.le_refl _, Nat.le_refl _⟩ (fun r23 I23 R23 c23 => ?_)
  refine wp_canon (fun hI3 => ?_)
  obtain ⟨rfl, rfl, rfl⟩ := c23
  rw [show sT (cS (zu (zu I (p + 2) c w) (p + 3) c t) p) c w = sT (cS I p) c w by rw [cS_T hc, cS_T hc, e2, e3, e4]]
  refine wp_iadd (t := 18) rfl ?_
  refine wp_iastore (t := 19) rfl (by omega) (by first | rfl | assumption) (by omega) (by omega) (by decide) (by unfold zin; have : sT (cS I p) c w ≤ 2234 := hb.2; have : 2 ≤ sT (cS I p) c w := hb.1; omega) ?_
  refine wp_canon (fun hI4 => ?_)
  refine wp_return (t := 20) rfl rfl ?_
  exact ⟨rfl, rfl, rfl⟩
set_option maxHeartbeats 4000000 in
set_option maxRecDepth 100000 in
theorem c_X3_takeOff {G : zG} {d n : Nat} {I : zMem} {R : zRef} {p : Nat} {c : Int} (hp : p = 64 ∨ p = 86) (hW : zWir n R) (hn : 115 ≤ n) (hc : 0 ≤ c ∧ c < 6) : MT G mX3_takeOff d 0 0 [zR p, zI c] n I R (zP0 (fun I' R' => I' = zu (zu (zu I (p + 2) c 0) (p + 3) c 0) (p + 4) c 0 ∧ R' = R)) := by
  refine MT.of (by decide +kernel) tX3_takeOff_ok (Nat.le_of_ble_eq_true rfl) (fun hI0 => ?_)
  obtain ⟨hl0, hl1, hl2, hl3, hl4, hl5, hp1⟩ := zpl hp
  obtain ⟨hr0, hr1, hr2, hr3, hr4, hr5⟩ := zpr hp hW hn
  refine wp_ls (ls' := [some (zR p), some (zI c)]) rfl ?_
  refine wp_aload_n (t := 0) rfl rfl ?_
  refine wp_getR (t := 1) (ji := 2) rfl fX3_15 rfl rfl (by omega) (by first | rfl | assumption) (by first | exact hW _ _ _ (by omega) rfl | assumption) ?_
  refine wp_iload_n (t := 2) rfl rfl ?_
  refine wp_iconst (t := 3) rfl ?_
  refine wp_iastore (t := 4) rfl (by omega) (by first | rfl | assumption) (by omega) (by omega) (by decide) (by first | assumption | exact hI0 _ _ | exact zin_and _ _ | (unfold zin; omega) | (unfold zin at *; omega)) ?_
  refine wp_canon (fun hI1 => ?_)
  refine wp_aload_n (t := 5) rfl rfl ?_
  refine wp_getR (t := 6) (ji := 3) rfl fX3_18 rfl rfl (by omega) (by first | rfl | assumption) (by first | exact hW _ _ _ (by omega) rfl | assumption) ?_
  refine wp_iload_n (t := 7) rfl rfl ?_
  refine wp_iconst (t := 8) rfl ?_
  refine wp_iastore (t := 9) rfl (by omega) (by first | rfl | assumption) (by omega) (by omega) (by decide) (by first | assumption | exact hI1 _ _ | exact hI0 _ _ | exact zin_and _ _ | (unfold zin; omega) | (unfold zin at *; omega)) ?_
  refine wp_canon (fun hI2 => ?_)
  refine wp_aload_n (t := 10) rfl rfl ?_
  refine wp_getR (t := 11) (ji := 4) rfl fX3_21 rfl rfl (by omega) (by first | rfl | assumption) (by first | exact hW _ _ _ (by omega) rfl | assumption) ?_
  refine wp_iload_n (t := 12) rfl rfl ?_
  refine wp_iconst (t := 13) rfl ?_
  refine wp_iastore (t := 14) rfl (by omega) (by first | rfl | assumption) (by omega) (by omega) (by decide) (by first | assumption | exact hI2 _ _ | exact hI1 _ _ | exact hI0 _ _ | exact zin_and _ _ | (unfold zin; omega) | (unfold zin at *; omega)) ?_
  refine wp_canon (fun hI3 => ?_)
  refine wp_return (t := 15) rfl rfl ?_
  exact ⟨rfl, rfl, rfl⟩
end
section
set_option maxHeartbeats 4000000 in
set_option maxRecDepth 100000 in
theorem c_X3_notDoneAhead {G : zG} {d n : Nat} {I : zMem} {R : zRef} {p : Nat} {c t : Int} (hp : p = 64 ∨ p = 86) (hW : zWir n R) (hn : 115 ≤ n) (hch : zCh I) (hpl : zPl I p) (hc : 0 ≤ c ∧ c < 6) (ht : zin t) : MT G mX3_notDoneAhead d 0 0 [zR p, zI c, zI t] n I R (zP1 (fun r I' R' => r = sNot (cS I p) c t ∧ I' = I ∧ R' = R)) := by
  refine MT.of (by decide +kernel) tX3_notDoneAhead_ok (Nat.le_of_ble_eq_true rfl) (fun hI0 => ?_)
  obtain ⟨hl0, hl1, hl2, hl3, hl4, hl5, hp1⟩ := zpl hp
  obtain ⟨hr0, hr1, hr2, hr3, hr4, hr5⟩ := zpr hp hW hn
  have hco := hch.1
  have key : ∀ (m : Nat) (a : Int) (x : Option zV), 0 ≤ a → a ≤ I 34 2 → (I 34 2 - a).toNat = m → (∀ i : Int, 0 ≤ i → i < a → (zbt (I (p + 5) c) i && (decide (¬ 0 < I (p + 2) i) || decide (t < I (p + 4) i))) = false) → WP G mX3_notDoneAhead d 0 0 0 0 2 [some (zR p), some (zI c), some (zI t), some (zI a)] [] n I R (zP1 (fun r I' R' => r = sNot (cS I p) c t ∧ I' = I ∧ R' = R)) := by
    intro m
    induction m with
    | zero =>
      intro a x h0 h1 hm hs
      refine wp_iload_n (t := 2) rfl rfl ?_
      refine wp_aload_n (t := 3) rfl rfl ?_
      refine wp_getR (t := 4) (ji := 0) rfl fX3_27 rfl rfl (by omega) (by first | rfl | assumption) (by first | exact hW _ _ _ (by omega) rfl | assumption) ?_
      refine wp_getI (t := 5) (ji := 2) rfl fX3_63 rfl rfl (by omega) (by first | rfl | assumption) ?_
      refine wp_icmp_ge (t := 6) (tgt := 54) rfl (by decide) (by first | assumption | exact hI0 _ _ | exact zin_and _ _ | (unfold zin; omega) | (unfold zin at *; omega)) (by first | assumption | exact hI0 _ _ | exact zin_and _ _ | (unfold zin; omega) | (unfold zin at *; omega)) (fun h10 => ?_) (fun h10 => ?_)
      · refine wp_bipush (t := 32) rfl (by decide) ?_
        refine wp_ireturn (t := 33) rfl rfl ?_
        exact ⟨_, rfl, (zfirst_none (fun i g0 g1 => hs i g0 (by have : i < ((I 34 2).toNat : Int) := g1; omega))).symm, rfl, rfl⟩
      · exact absurd h10 (by omega)
    | succ m ih =>
      intro a x h0 h1 hm hs
      have hwa := (hpl a h0 (by omega)).2.1
      refine wp_iload_n (t := 2) rfl rfl ?_
      refine wp_aload_n (t := 3) rfl rfl ?_
      refine wp_getR (t := 4) (ji := 0) rfl fX3_27 rfl rfl (by omega) (by first | rfl | assumption) (by first | exact hW _ _ _ (by omega) rfl | assumption) ?_
      refine wp_getI (t := 5) (ji := 2) rfl fX3_63 rfl rfl (by omega) (by first | rfl | assumption) ?_
      refine wp_icmp_ge (t := 6) (tgt := 54) rfl (by decide) (by first | assumption | exact hI0 _ _ | exact zin_and _ _ | (unfold zin; omega) | (unfold zin at *; omega)) (by first | assumption | exact hI0 _ _ | exact zin_and _ _ | (unfold zin; omega) | (unfold zin at *; omega)) (fun h10 => ?_) (fun h10 => ?_)
      · exact absurd h10 (by omega)
      · refine wp_aload_n (t := 7) rfl rfl ?_
        refine wp_getR (t := 8) (ji := 5) rfl fX3_24 rfl rfl (by omega) (by first | rfl | assumption) (by first | exact hW _ _ _ (by omega) rfl | assumption) ?_
        refine wp_iload_n (t := 9) rfl rfl ?_
        refine wp_iaload (t := 10) rfl (by omega) (by first | rfl | assumption) (by omega) (by omega) (by decide) ?_
        refine wp_iload_n (t := 11) rfl rfl ?_
        refine wp_ishr (t := 12) rfl ?_
        refine wp_iconst (t := 13) rfl ?_
        refine wp_iand (t := 14) rfl ?_
        refine wp_iconst (t := 15) rfl ?_
        refine wp_icmp_ne (t := 16) (tgt := 48) rfl (by decide) (by first | assumption | exact hI0 _ _ | exact zin_and _ _ | (unfold zin; omega) | (unfold zin at *; omega)) (by first | assumption | exact hI0 _ _ | exact zin_and _ _ | (unfold zin; omega) | (unfold zin at *; omega)) (fun h24 => ?_) (fun h24 => ?_)
        · refine wp_iinc (t := 30) rfl rfl (by decide) rfl ?_
          refine wp_goto (t := 31) (tgt := 2) rfl (by decide) ?_
          refine ih (a + 1) x (by omega) (by omega) (by omega) (fun i g0 g1 => ?_)
          by_cases hia : i = a
          · subst hia
            first
              | (have e1 : zbt (I (p + 5) c) i = false := decide_eq_false h24
                 rw [e1, Bool.false_and])
              | (rw [decide_eq_false (show ¬ ¬ 0 < I (p + 2) i by omega), decide_eq_false (show ¬ t < I (p + 4) i by omega)]
                 simp)
          · exact hs i g0 (by omega)
        · refine wp_aload_n (t := 17) rfl rfl ?_
          refine wp_getR (t := 18) (ji := 2) rfl fX3_15 rfl rfl (by omega) (by first | rfl | assumption) (by first | exact hW _ _ _ (by omega) rfl | assumption) ?_
          refine wp_iload_n (t := 19) rfl rfl ?_
          refine wp_iaload (t := 20) rfl (by omega) (by first | rfl | assumption) (by omega) (by omega) (by decide) ?_
          refine wp_if_eq (t := 21) (tgt := 46) rfl (by decide) (by first | assumption | exact hI0 _ _ | exact zin_and _ _ | (unfold zin; omega) | (unfold zin at *; omega)) (fun h33 => ?_) (fun h33 => ?_)
          · have e1 : zbt (I (p + 5) c) a = true := decide_eq_true (by simpa using h24)
            refine wp_iload_n (t := 28) rfl rfl ?_
            refine wp_ireturn (t := 29) rfl rfl ?_
            refine ⟨_, rfl, (zfirst_some h0 (show a < ((I 34 2).toNat : Int) by omega) ?_ hs).symm, rfl, rfl⟩
            show (zbt (I (p + 5) c) a && (decide (¬ 0 < I (p + 2) a) || decide (t < I (p + 4) a))) = true
            rw [e1]
            simp
            omega
          · refine wp_aload_n (t := 22) rfl rfl ?_
            refine wp_getR (t := 23) (ji := 4) rfl fX3_21 rfl rfl (by omega) (by first | rfl | assumption) (by first | exact hW _ _ _ (by omega) rfl | assumption) ?_
            refine wp_iload_n (t := 24) rfl rfl ?_
            refine wp_iaload (t := 25) rfl (by omega) (by first | rfl | assumption) (by omega) (by omega) (by decide) ?_
            refine wp_iload_n (t := 26) rfl rfl ?_
            refine wp_icmp_le (t := 27) (tgt := 48) rfl (by decide) (by first | assumption | exact hI0 _ _ | exact zin_and _ _ | (unfold zin; omega) | (unfold zin at *; omega)) (by first | assumption | exact hI0 _ _ | exact zin_and _ _ | (unfold zin; omega) | (unfold zin at *; omega)) (fun h43 => ?_) (fun h43 => ?_)
            · refine wp_iinc (t := 30) rfl rfl (by decide) rfl ?_
              refine wp_goto (t := 31) (tgt := 2) rfl (by decide) ?_
              refine ih (a + 1) x (by omega) (by omega) (by omega) (fun i g0 g1 => ?_)
              by_cases hia : i = a
              · subst hia
                first
                  | (have e1 : zbt (I (p + 5) c) i = false := decide_eq_false h24
                     rw [e1, Bool.false_and])
                  | (rw [decide_eq_false (show ¬ ¬ 0 < I (p + 2) i by omega), decide_eq_false (show ¬ t < I (p + 4) i by omega)]
                     simp)
              · exact hs i g0 (by omega)
            · have e1 : zbt (I (p + 5) c) a = true := decide_eq_true (by simpa using h24)
              refine wp_iload_n (t := 28) rfl rfl ?_
              refine wp_ireturn (t := 29) rfl rfl ?_
              refine ⟨_, rfl, (zfirst_some h0 (show a < ((I 34 2).toNat : Int) by omega) ?_ hs).symm, rfl, rfl⟩
              show (zbt (I (p + 5) c) a && (decide (¬ 0 < I (p + 2) a) || decide (t < I (p + 4) a))) = true
              rw [e1]
              simp
              omega
  refine wp_ls (ls' := [some (zR p), some (zI c), some (zI t), none]) rfl ?_
  refine wp_iconst (t := 0) rfl ?_
  refine wp_istore_n (t := 1) rfl (by decide) rfl ?_
  exact key _ 0 none (by omega) (by omega) rfl (fun i g0 g1 => absurd g1 (by omega))
set_option maxHeartbeats 4000000 in
set_option maxRecDepth 100000 in
theorem c_X3_begunBehind {G : zG} {d n : Nat} {I : zMem} {R : zRef} {p : Nat} {c t : Int} (hp : p = 64 ∨ p = 86) (hW : zWir n R) (hn : 115 ≤ n) (hch : zCh I) (hpl : zPl I p) (hc : 0 ≤ c ∧ c < 6) (ht : zin t) : MT G mX3_begunBehind d 0 0 [zR p, zI c, zI t] n I R (zP1 (fun r I' R' => r = sBeg (cS I p) c t ∧ I' = I ∧ R' = R)) := by
  refine MT.of (by decide +kernel) tX3_begunBehind_ok (Nat.le_of_ble_eq_true rfl) (fun hI0 => ?_)
  obtain ⟨hl0, hl1, hl2, hl3, hl4, hl5, hp1⟩ := zpl hp
  obtain ⟨hr0, hr1, hr2, hr3, hr4, hr5⟩ := zpr hp hW hn
  have hco := hch.1
  have key : ∀ (m : Nat) (a : Int), 0 ≤ a → a ≤ I 34 2 → (I 34 2 - a).toNat = m → (∀ i : Int, 0 ≤ i → i < a → (zbt (I (p + 5) i) c && (decide (0 < I (p + 2) i) && decide (I (p + 3) i < t))) = false) → WP G mX3_begunBehind d 0 0 0 0 2 [some (zR p), some (zI c), some (zI t), some (zI a)] [] n I R (zP1 (fun r I' R' => r = sBeg (cS I p) c t ∧ I' = I ∧ R' = R)) := by
    intro m
    induction m with
    | zero =>
      intro a h0 h1 hm hs
      refine wp_iload_n (t := 2) rfl rfl ?_
      refine wp_aload_n (t := 3) rfl rfl ?_
      refine wp_getR (t := 4) (ji := 0) rfl fX3_27 rfl rfl (by omega) (by first | rfl | assumption) (by first | exact hW _ _ _ (by omega) rfl | assumption) ?_
      refine wp_getI (t := 5) (ji := 2) rfl fX3_63 rfl rfl (by omega) (by first | rfl | assumption) ?_
      refine wp_icmp_ge (t := 6) (tgt := 54) rfl (by decide) (by first | assumption | exact hI0 _ _ | exact zin_and _ _ | (unfold zin; omega) | (unfold zin at *; omega)) (by first | assumption | exact hI0 _ _ | exact zin_and _ _ | (unfold zin; omega) | (unfold zin at *; omega)) (fun h10 => ?_) (fun h10 => ?_)
      · refine wp_bipush (t := 32) rfl (by decide) ?_
        refine wp_ireturn (t := 33) rfl rfl ?_
        exact ⟨_, rfl, (zfirst_none (fun i g0 g1 => hs i g0 (by have : i < ((I 34 2).toNat : Int) := g1; omega))).symm, rfl, rfl⟩
      · exact absurd h10 (by omega)
    | succ m ih =>
      intro a h0 h1 hm hs
      refine wp_iload_n (t := 2) rfl rfl ?_
      refine wp_aload_n (t := 3) rfl rfl ?_
      refine wp_getR (t := 4) (ji := 0) rfl fX3_27 rfl rfl (by omega) (by first | rfl | assumption) (by first | exact hW _ _ _ (by omega) rfl | assumption) ?_
      refine wp_getI (t := 5) (ji := 2) rfl fX3_63 rfl rfl (by omega) (by first | rfl | assumption) ?_
      refine wp_icmp_ge (t := 6) (tgt := 54) rfl (by decide) (by first | assumption | exact hI0 _ _ | exact zin_and _ _ | (unfold zin; omega) | (unfold zin at *; omega)) (by first | assumption | exact hI0 _ _ | exact zin_and _ _ | (unfold zin; omega) | (unfold zin at *; omega)) (fun h10 => ?_) (fun h10 => ?_)
      · exact absurd h10 (by omega)
      · refine wp_aload_n (t := 7) rfl rfl ?_
        refine wp_getR (t := 8) (ji := 5) rfl fX3_24 rfl rfl (by omega) (by first | rfl | assumption) (by first | exact hW _ _ _ (by omega) rfl | assumption) ?_
        refine wp_iload_n (t := 9) rfl rfl ?_
        refine wp_iaload (t := 10) rfl (by omega) (by first | rfl | assumption) (by omega) (by omega) (by decide) ?_
        refine wp_iload_n (t := 11) rfl rfl ?_
        refine wp_ishr (t := 12) rfl ?_
        refine wp_iconst (t := 13) rfl ?_
        refine wp_iand (t := 14) rfl ?_
        refine wp_iconst (t := 15) rfl ?_
        refine wp_icmp_ne (t := 16) (tgt := 48) rfl (by decide) (by first | assumption | exact hI0 _ _ | exact zin_and _ _ | (unfold zin; omega) | (unfold zin at *; omega)) (by first | assumption | exact hI0 _ _ | exact zin_and _ _ | (unfold zin; omega) | (unfold zin at *; omega)) (fun h24 => ?_) (fun h24 => ?_)
        · refine wp_iinc (t := 30) rfl rfl (by decide) rfl ?_
          refine wp_goto (t := 31) (tgt := 2) rfl (by decide) ?_
          refine ih (a + 1) (by omega) (by omega) (by omega) (fun i g0 g1 => ?_)
          by_cases hia : i = a
          · subst hia
            first
              | (have e1 : zbt (I (p + 5) i) c = false := decide_eq_false h24
                 rw [e1, Bool.false_and])
              | (rw [decide_eq_false (show ¬ 0 < I (p + 2) i by omega)]
                 simp)
              | (rw [decide_eq_false (show ¬ I (p + 3) i < t by omega)]
                 simp)
          · exact hs i g0 (by omega)
        · refine wp_aload_n (t := 17) rfl rfl ?_
          refine wp_getR (t := 18) (ji := 2) rfl fX3_15 rfl rfl (by omega) (by first | rfl | assumption) (by first | exact hW _ _ _ (by omega) rfl | assumption) ?_
          refine wp_iload_n (t := 19) rfl rfl ?_
          refine wp_iaload (t := 20) rfl (by omega) (by first | rfl | assumption) (by omega) (by omega) (by decide) ?_
          refine wp_if_le (t := 21) (tgt := 48) rfl (by decide) (by first | assumption | exact hI0 _ _ | exact zin_and _ _ | (unfold zin; omega) | (unfold zin at *; omega)) (fun h33 => ?_) (fun h33 => ?_)
          · refine wp_iinc (t := 30) rfl rfl (by decide) rfl ?_
            refine wp_goto (t := 31) (tgt := 2) rfl (by decide) ?_
            refine ih (a + 1) (by omega) (by omega) (by omega) (fun i g0 g1 => ?_)
            by_cases hia : i = a
            · subst hia
              first
                | (have e1 : zbt (I (p + 5) i) c = false := decide_eq_false h24
                   rw [e1, Bool.false_and])
                | (rw [decide_eq_false (show ¬ 0 < I (p + 2) i by omega)]
                   simp)
                | (rw [decide_eq_false (show ¬ I (p + 3) i < t by omega)]
                   simp)
            · exact hs i g0 (by omega)
          · refine wp_aload_n (t := 22) rfl rfl ?_
            refine wp_getR (t := 23) (ji := 3) rfl fX3_18 rfl rfl (by omega) (by first | rfl | assumption) (by first | exact hW _ _ _ (by omega) rfl | assumption) ?_
            refine wp_iload_n (t := 24) rfl rfl ?_
            refine wp_iaload (t := 25) rfl (by omega) (by first | rfl | assumption) (by omega) (by omega) (by decide) ?_
            refine wp_iload_n (t := 26) rfl rfl ?_
            refine wp_icmp_ge (t := 27) (tgt := 48) rfl (by decide) (by first | assumption | exact hI0 _ _ | exact zin_and _ _ | (unfold zin; omega) | (unfold zin at *; omega)) (by first | assumption | exact hI0 _ _ | exact zin_and _ _ | (unfold zin; omega) | (unfold zin at *; omega)) (fun h43 => ?_) (fun h43 => ?_)
            · refine wp_iinc (t := 30) rfl rfl (by decide) rfl ?_
              refine wp_goto (t := 31) (tgt := 2) rfl (by decide) ?_
              refine ih (a + 1) (by omega) (by omega) (by omega) (fun i g0 g1 => ?_)
              by_cases hia : i = a
              · subst hia
                first
                  | (have e1 : zbt (I (p + 5) i) c = false := decide_eq_false h24
                     rw [e1, Bool.false_and])
                  | (rw [decide_eq_false (show ¬ 0 < I (p + 2) i by omega)]
                     simp)
                  | (rw [decide_eq_false (show ¬ I (p + 3) i < t by omega)]
                     simp)
              · exact hs i g0 (by omega)
            · have e1 : zbt (I (p + 5) a) c = true := decide_eq_true (by simpa using h24)
              refine wp_iload_n (t := 28) rfl rfl ?_
              refine wp_ireturn (t := 29) rfl rfl ?_
              refine ⟨_, rfl, (zfirst_some h0 (show a < ((I 34 2).toNat : Int) by omega) ?_ hs).symm, rfl, rfl⟩
              show (zbt (I (p + 5) a) c && (decide (0 < I (p + 2) a) && decide (I (p + 3) a < t))) = true
              rw [e1]
              simp
              omega
  refine wp_ls (ls' := [some (zR p), some (zI c), some (zI t), none]) rfl ?_
  refine wp_iconst (t := 0) rfl ?_
  refine wp_istore_n (t := 1) rfl (by decide) rfl ?_
  exact key _ 0 (by omega) (by omega) rfl (fun i g0 g1 => absurd g1 (by omega))
set_option maxHeartbeats 4000000 in
set_option maxRecDepth 100000 in
theorem c_X3_firstOver {G : zG} {d n : Nat} {I : zMem} {R : zRef} {p : Nat} {what most t en : Int} (hp : p = 64 ∨ p = 86) (hW : zWir n R) (hn : 115 ≤ n) (hch : zCh I) (hpl : zPl I p) (h01 : what = 0 ∨ what = 1) (hm : zin most) (ht : 0 ≤ t ∧ t ≤ 2000000) (hen : t < en ∧ en ≤ 2000000) : MT G mX3_firstOver (d + 1) 0 0 [zR p, zI what, zI most, zI t, zI en] n I R (zP1 (fun r I' R' => r = sOver (cS I p) what most t en ∧ I' = I ∧ R' = R)) := by
  refine MT.of (by decide +kernel) tX3_firstOver_ok (Nat.le_of_ble_eq_true rfl) (fun hI0 => ?_)
  obtain ⟨hl0, hl1, hl2, hl3, hl4, hl5, hp1⟩ := zpl hp
  obtain ⟨hr0, hr1, hr2, hr3, hr4, hr5⟩ := zpr hp hW hn
  have hco := hch.1
  obtain ⟨f1, f2, f3, f4, f5, f6⟩ := cS_facts hch hpl
  have hub : ∀ s, zin (sUse (cS I p) what s) := fun s => by
    have := sUse_b (S := cS I p) (what := what) (t := s) f2 f3 f4 (by omega)
    unfold zin
    omega
  have key : ∀ (m : Nat) (a f : Int) (x7 x8 : Option zV), 0 ≤ a → a ≤ I 34 2 → (I 34 2 - a).toNat = m → sUse (cS I p) what t ≤ most → ((f = -4 ∧ ∀ c : Int, 0 ≤ c → c < a → 0 < I (p + 2) c → t < I (p + 3) c → I (p + 3) c < en → sUse (cS I p) what (I (p + 3) c) ≤ most) ∨ (t < f ∧ f < en ∧ most < sUse (cS I p) what f ∧ ∀ c : Int, 0 ≤ c → c < a → 0 < I (p + 2) c → t < I (p + 3) c → I (p + 3) c < en → most < sUse (cS I p) what (I (p + 3) c) → f ≤ I (p + 3) c)) →
      WP G mX3_firstOver (d + 1) 0 0 0 0 19 [some (zR p), some (zI what), some (zI most), some (zI t), some (zI en), some (zI f), some (zI a), x7, x8] [] n I R (zP1 (fun r I' R' => r = sOver (cS I p) what most t en ∧ I' = I ∧ R' = R)) := by
    intro m
    induction m with
    | zero =>
      intro a f x7 x8 h0 h1 hmm hut hs
      refine wp_iload (t := 12) rfl rfl ?_
      refine wp_aload_n (t := 13) rfl rfl ?_
      refine wp_getR (t := 14) (ji := 0) rfl fX3_27 rfl rfl (by omega) (by first | rfl | assumption) (by first | exact hW _ _ _ (by omega) rfl | assumption) ?_
      refine wp_getI (t := 15) (ji := 2) rfl fX3_63 rfl rfl (by omega) (by first | rfl | assumption) ?_
      refine wp_icmp_ge (t := 16) (tgt := 110) rfl (by decide) (by first | assumption | exact hI0 _ _ | exact zin_and _ _ | (unfold zin; omega) | (unfold zin at *; omega)) (by first | assumption | exact hI0 _ _ | exact zin_and _ _ | (unfold zin; omega) | (unfold zin at *; omega)) (fun h28 => ?_) (fun h28 => ?_)
      · refine wp_iload (t := 55) rfl rfl ?_
        refine wp_ireturn (t := 56) rfl rfl ?_
        refine ⟨_, rfl, sOver_cand f1 h01 ht.1 hut ?_, rfl, rfl⟩
        have ea : a = I 34 2 := by omega
        subst ea
        exact hs
      · exact absurd h28 (by omega)
    | succ m ih =>
      intro a f x7 x8 h0 h1 hmm hut hs
      refine wp_iload (t := 12) rfl rfl ?_
      refine wp_aload_n (t := 13) rfl rfl ?_
      refine wp_getR (t := 14) (ji := 0) rfl fX3_27 rfl rfl (by omega) (by first | rfl | assumption) (by first | exact hW _ _ _ (by omega) rfl | assumption) ?_
      refine wp_getI (t := 15) (ji := 2) rfl fX3_63 rfl rfl (by omega) (by first | rfl | assumption) ?_
      refine wp_icmp_ge (t := 16) (tgt := 110) rfl (by decide) (by first | assumption | exact hI0 _ _ | exact zin_and _ _ | (unfold zin; omega) | (unfold zin at *; omega)) (by first | assumption | exact hI0 _ _ | exact zin_and _ _ | (unfold zin; omega) | (unfold zin at *; omega)) (fun h28 => ?_) (fun h28 => ?_)
      · exact absurd h28 (by omega)
      · refine wp_aload_n (t := 17) rfl rfl ?_
        refine wp_getR (t := 18) (ji := 3) rfl fX3_18 rfl rfl (by omega) (by first | rfl | assumption) (by first | exact hW _ _ _ (by omega) rfl | assumption) ?_
        refine wp_iload (t := 19) rfl rfl ?_
        refine wp_iaload (t := 20) rfl (by omega) (by first | rfl | assumption) (by omega) (by omega) (by decide) ?_
        refine wp_istore (t := 21) rfl (by decide) rfl ?_
        refine wp_aload_n (t := 22) rfl rfl ?_
        refine wp_getR (t := 23) (ji := 2) rfl fX3_15 rfl rfl (by omega) (by first | rfl | assumption) (by first | exact hW _ _ _ (by omega) rfl | assumption) ?_
        refine wp_iload (t := 24) rfl rfl ?_
        refine wp_iaload (t := 25) rfl (by omega) (by first | rfl | assumption) (by omega) (by omega) (by decide) ?_
        refine wp_if_le (t := 26) (tgt := 81) rfl (by decide) (by first | assumption | exact hI0 _ _ | exact zin_and _ _ | (unfold zin; omega) | (unfold zin at *; omega)) (fun h47 => ?_) (fun h47 => ?_)
        · refine wp_iconst (t := 41) rfl ?_
          refine wp_istore (t := 42) rfl (by decide) rfl ?_
          refine wp_iload (t := 43) rfl rfl ?_
          refine wp_if_eq (t := 44) (tgt := 104) rfl (by decide) (by first | assumption | exact hI0 _ _ | exact zin_and _ _ | (unfold zin; omega) | (unfold zin at *; omega)) (fun h86 => ?_) (fun h86 => ?_)
          · refine wp_iinc (t := 53) rfl rfl (by decide) rfl ?_
            refine wp_goto (t := 54) (tgt := 19) rfl (by decide) ?_
            refine ih (a + 1) _ _ _ (by omega) (by omega) (by omega) hut ?_
            rcases hs with ⟨e, hs⟩ | ⟨g1, g2, g3, hs⟩
            · first
                | exact Or.inl ⟨e, fun c c0 c1 c2 c3 c4 => by
                    by_cases hca : c = a
                    · subst hca
                      omega
                    · exact hs c c0 (by omega) c2 c3 c4⟩
                | exact Or.inr ⟨by omega, by omega, by omega, fun c c0 c1 c2 c3 c4 c5 => by
                    by_cases hca : c = a
                    · subst hca
                      omega
                    · have := hs c c0 (by omega) c2 c3 c4
                      omega⟩
            · first
                | exact Or.inr ⟨g1, g2, g3, fun c c0 c1 c2 c3 c4 c5 => by
                    by_cases hca : c = a
                    · subst hca
                      omega
                    · exact hs c c0 (by omega) c2 c3 c4 c5⟩
                | exact Or.inr ⟨by omega, by omega, by omega, fun c c0 c1 c2 c3 c4 c5 => by
                    by_cases hca : c = a
                    · subst hca
                      omega
                    · have := hs c c0 (by omega) c2 c3 c4 c5
                      omega⟩
          · refine wp_aload_n (t := 45) rfl rfl ?_
            refine wp_iload_n (t := 46) rfl rfl ?_
            refine wp_iload (t := 47) rfl rfl ?_
            refine wp_vi (ci := 3) (c_X3_used hp hW hn ⟨by omega, by omega⟩ (by unfold zin; omega) (hI0 _ _)) (t := 48) rfl kX3_89 rfl rfl (by omega) (by first | rfl | assumption) ⟨_, _, rfl⟩ (Nat.le_of_ble_eq_true rfl) ⟨Nat.le_refl _, Nat.le_refl _⟩ (fun r93 I93 R93 c93 => ?_)
            refine wp_canon (fun hI1 => ?_)
            obtain ⟨rfl, rfl, rfl⟩ := c93
            refine wp_iload_n (t := 49) rfl rfl ?_
            refine wp_icmp_le (t := 50) (tgt := 104) rfl (by decide) (hub _) (by first | assumption | exact hI1 _ _ | exact hI0 _ _ | exact zin_and _ _ | (unfold zin; omega) | (unfold zin at *; omega)) (fun h97 => ?_) (fun h97 => ?_)
            · refine wp_iinc (t := 53) rfl rfl (by decide) rfl ?_
              refine wp_goto (t := 54) (tgt := 19) rfl (by decide) ?_
              refine ih (a + 1) _ _ _ (by omega) (by omega) (by omega) hut ?_
              rcases hs with ⟨e, hs⟩ | ⟨g1, g2, g3, hs⟩
              · first
                  | exact Or.inl ⟨e, fun c c0 c1 c2 c3 c4 => by
                      by_cases hca : c = a
                      · subst hca
                        omega
                      · exact hs c c0 (by omega) c2 c3 c4⟩
                  | exact Or.inr ⟨by omega, by omega, by omega, fun c c0 c1 c2 c3 c4 c5 => by
                      by_cases hca : c = a
                      · subst hca
                        omega
                      · have := hs c c0 (by omega) c2 c3 c4
                        omega⟩
              · first
                  | exact Or.inr ⟨g1, g2, g3, fun c c0 c1 c2 c3 c4 c5 => by
                      by_cases hca : c = a
                      · subst hca
                        omega
                      · exact hs c c0 (by omega) c2 c3 c4 c5⟩
                  | exact Or.inr ⟨by omega, by omega, by omega, fun c c0 c1 c2 c3 c4 c5 => by
                      by_cases hca : c = a
                      · subst hca
                        omega
                      · have := hs c c0 (by omega) c2 c3 c4 c5
                        omega⟩
            · refine wp_iload (t := 51) rfl rfl ?_
              refine wp_istore (t := 52) rfl (by decide) rfl ?_
              refine wp_iinc (t := 53) rfl rfl (by decide) rfl ?_
              refine wp_goto (t := 54) (tgt := 19) rfl (by decide) ?_
              refine ih (a + 1) _ _ _ (by omega) (by omega) (by omega) hut ?_
              rcases hs with ⟨e, hs⟩ | ⟨g1, g2, g3, hs⟩
              · first
                  | exact Or.inl ⟨e, fun c c0 c1 c2 c3 c4 => by
                      by_cases hca : c = a
                      · subst hca
                        omega
                      · exact hs c c0 (by omega) c2 c3 c4⟩
                  | exact Or.inr ⟨by omega, by omega, by omega, fun c c0 c1 c2 c3 c4 c5 => by
                      by_cases hca : c = a
                      · subst hca
                        omega
                      · have := hs c c0 (by omega) c2 c3 c4
                        omega⟩
              · first
                  | exact Or.inr ⟨g1, g2, g3, fun c c0 c1 c2 c3 c4 c5 => by
                      by_cases hca : c = a
                      · subst hca
                        omega
                      · exact hs c c0 (by omega) c2 c3 c4 c5⟩
                  | exact Or.inr ⟨by omega, by omega, by omega, fun c c0 c1 c2 c3 c4 c5 => by
                      by_cases hca : c = a
                      · subst hca
                        omega
                      · have := hs c c0 (by omega) c2 c3 c4 c5
                        omega⟩
        · refine wp_iload (t := 27) rfl rfl ?_
          refine wp_iload_n (t := 28) rfl rfl ?_
          refine wp_icmp_le (t := 29) (tgt := 81) rfl (by decide) (by first | assumption | exact hI0 _ _ | exact zin_and _ _ | (unfold zin; omega) | (unfold zin at *; omega)) (by first | assumption | exact hI0 _ _ | exact zin_and _ _ | (unfold zin; omega) | (unfold zin at *; omega)) (fun h53 => ?_) (fun h53 => ?_)
          · refine wp_iconst (t := 41) rfl ?_
            refine wp_istore (t := 42) rfl (by decide) rfl ?_
            refine wp_iload (t := 43) rfl rfl ?_
            refine wp_if_eq (t := 44) (tgt := 104) rfl (by decide) (by first | assumption | exact hI0 _ _ | exact zin_and _ _ | (unfold zin; omega) | (unfold zin at *; omega)) (fun h86 => ?_) (fun h86 => ?_)
            · refine wp_iinc (t := 53) rfl rfl (by decide) rfl ?_
              refine wp_goto (t := 54) (tgt := 19) rfl (by decide) ?_
              refine ih (a + 1) _ _ _ (by omega) (by omega) (by omega) hut ?_
              rcases hs with ⟨e, hs⟩ | ⟨g1, g2, g3, hs⟩
              · first
                  | exact Or.inl ⟨e, fun c c0 c1 c2 c3 c4 => by
                      by_cases hca : c = a
                      · subst hca
                        omega
                      · exact hs c c0 (by omega) c2 c3 c4⟩
                  | exact Or.inr ⟨by omega, by omega, by omega, fun c c0 c1 c2 c3 c4 c5 => by
                      by_cases hca : c = a
                      · subst hca
                        omega
                      · have := hs c c0 (by omega) c2 c3 c4
                        omega⟩
              · first
                  | exact Or.inr ⟨g1, g2, g3, fun c c0 c1 c2 c3 c4 c5 => by
                      by_cases hca : c = a
                      · subst hca
                        omega
                      · exact hs c c0 (by omega) c2 c3 c4 c5⟩
                  | exact Or.inr ⟨by omega, by omega, by omega, fun c c0 c1 c2 c3 c4 c5 => by
                      by_cases hca : c = a
                      · subst hca
                        omega
                      · have := hs c c0 (by omega) c2 c3 c4 c5
                        omega⟩
            · refine wp_aload_n (t := 45) rfl rfl ?_
              refine wp_iload_n (t := 46) rfl rfl ?_
              refine wp_iload (t := 47) rfl rfl ?_
              refine wp_vi (ci := 3) (c_X3_used hp hW hn ⟨by omega, by omega⟩ (by unfold zin; omega) (hI0 _ _)) (t := 48) rfl kX3_89 rfl rfl (by omega) (by first | rfl | assumption) ⟨_, _, rfl⟩ (Nat.le_of_ble_eq_true rfl) ⟨Nat.le_refl _, Nat.le_refl _⟩ (fun r93 I93 R93 c93 => ?_)
              refine wp_canon (fun hI1 => ?_)
              obtain ⟨rfl, rfl, rfl⟩ := c93
              refine wp_iload_n (t := 49) rfl rfl ?_
              refine wp_icmp_le (t := 50) (tgt := 104) rfl (by decide) (hub _) (by first | assumption | exact hI1 _ _ | exact hI0 _ _ | exact zin_and _ _ | (unfold zin; omega) | (unfold zin at *; omega)) (fun h97 => ?_) (fun h97 => ?_)
              · refine wp_iinc (t := 53) rfl rfl (by decide) rfl ?_
                refine wp_goto (t := 54) (tgt := 19) rfl (by decide) ?_
                refine ih (a + 1) _ _ _ (by omega) (by omega) (by omega) hut ?_
                rcases hs with ⟨e, hs⟩ | ⟨g1, g2, g3, hs⟩
                · first
                    | exact Or.inl ⟨e, fun c c0 c1 c2 c3 c4 => by
                        by_cases hca : c = a
                        · subst hca
                          omega
                        · exact hs c c0 (by omega) c2 c3 c4⟩
                    | exact Or.inr ⟨by omega, by omega, by omega, fun c c0 c1 c2 c3 c4 c5 => by
                        by_cases hca : c = a
                        · subst hca
                          omega
                        · have := hs c c0 (by omega) c2 c3 c4
                          omega⟩
                · first
                    | exact Or.inr ⟨g1, g2, g3, fun c c0 c1 c2 c3 c4 c5 => by
                        by_cases hca : c = a
                        · subst hca
                          omega
                        · exact hs c c0 (by omega) c2 c3 c4 c5⟩
                    | exact Or.inr ⟨by omega, by omega, by omega, fun c c0 c1 c2 c3 c4 c5 => by
                        by_cases hca : c = a
                        · subst hca
                          omega
                        · have := hs c c0 (by omega) c2 c3 c4 c5
                          omega⟩
              · refine wp_iload (t := 51) rfl rfl ?_
                refine wp_istore (t := 52) rfl (by decide) rfl ?_
                refine wp_iinc (t := 53) rfl rfl (by decide) rfl ?_
                refine wp_goto (t := 54) (tgt := 19) rfl (by decide) ?_
                refine ih (a + 1) _ _ _ (by omega) (by omega) (by omega) hut ?_
                rcases hs with ⟨e, hs⟩ | ⟨g1, g2, g3, hs⟩
                · first
                    | exact Or.inl ⟨e, fun c c0 c1 c2 c3 c4 => by
                        by_cases hca : c = a
                        · subst hca
                          omega
                        · exact hs c c0 (by omega) c2 c3 c4⟩
                    | exact Or.inr ⟨by omega, by omega, by omega, fun c c0 c1 c2 c3 c4 c5 => by
                        by_cases hca : c = a
                        · subst hca
                          omega
                        · have := hs c c0 (by omega) c2 c3 c4
                          omega⟩
                · first
                    | exact Or.inr ⟨g1, g2, g3, fun c c0 c1 c2 c3 c4 c5 => by
                        by_cases hca : c = a
                        · subst hca
                          omega
                        · exact hs c c0 (by omega) c2 c3 c4 c5⟩
                    | exact Or.inr ⟨by omega, by omega, by omega, fun c c0 c1 c2 c3 c4 c5 => by
                        by_cases hca : c = a
                        · subst hca
                          omega
                        · have := hs c c0 (by omega) c2 c3 c4 c5
                          omega⟩
          · refine wp_iload (t := 30) rfl rfl ?_
            refine wp_iload (t := 31) rfl rfl ?_
            refine wp_icmp_ge (t := 32) (tgt := 81) rfl (by decide) (by first | assumption | exact hI0 _ _ | exact zin_and _ _ | (unfold zin; omega) | (unfold zin at *; omega)) (by first | assumption | exact hI0 _ _ | exact zin_and _ _ | (unfold zin; omega) | (unfold zin at *; omega)) (fun h60 => ?_) (fun h60 => ?_)
            · refine wp_iconst (t := 41) rfl ?_
              refine wp_istore (t := 42) rfl (by decide) rfl ?_
              refine wp_iload (t := 43) rfl rfl ?_
              refine wp_if_eq (t := 44) (tgt := 104) rfl (by decide) (by first | assumption | exact hI0 _ _ | exact zin_and _ _ | (unfold zin; omega) | (unfold zin at *; omega)) (fun h86 => ?_) (fun h86 => ?_)
              · refine wp_iinc (t := 53) rfl rfl (by decide) rfl ?_
                refine wp_goto (t := 54) (tgt := 19) rfl (by decide) ?_
                refine ih (a + 1) _ _ _ (by omega) (by omega) (by omega) hut ?_
                rcases hs with ⟨e, hs⟩ | ⟨g1, g2, g3, hs⟩
                · first
                    | exact Or.inl ⟨e, fun c c0 c1 c2 c3 c4 => by
                        by_cases hca : c = a
                        · subst hca
                          omega
                        · exact hs c c0 (by omega) c2 c3 c4⟩
                    | exact Or.inr ⟨by omega, by omega, by omega, fun c c0 c1 c2 c3 c4 c5 => by
                        by_cases hca : c = a
                        · subst hca
                          omega
                        · have := hs c c0 (by omega) c2 c3 c4
                          omega⟩
                · first
                    | exact Or.inr ⟨g1, g2, g3, fun c c0 c1 c2 c3 c4 c5 => by
                        by_cases hca : c = a
                        · subst hca
                          omega
                        · exact hs c c0 (by omega) c2 c3 c4 c5⟩
                    | exact Or.inr ⟨by omega, by omega, by omega, fun c c0 c1 c2 c3 c4 c5 => by
                        by_cases hca : c = a
                        · subst hca
                          omega
                        · have := hs c c0 (by omega) c2 c3 c4 c5
                          omega⟩
              · refine wp_aload_n (t := 45) rfl rfl ?_
                refine wp_iload_n (t := 46) rfl rfl ?_
                refine wp_iload (t := 47) rfl rfl ?_
                refine wp_vi (ci := 3) (c_X3_used hp hW hn ⟨by omega, by omega⟩ (by unfold zin; omega) (hI0 _ _)) (t := 48) rfl kX3_89 rfl rfl (by omega) (by first | rfl | assumption) ⟨_, _, rfl⟩ (Nat.le_of_ble_eq_true rfl) ⟨Nat.le_refl _, Nat.le_refl _⟩ (fun r93 I93 R93 c93 => ?_)
                refine wp_canon (fun hI1 => ?_)
                obtain ⟨rfl, rfl, rfl⟩ := c93
                refine wp_iload_n (t := 49) rfl rfl ?_
                refine wp_icmp_le (t := 50) (tgt := 104) rfl (by decide) (hub _) (by first | assumption | exact hI1 _ _ | exact hI0 _ _ | exact zin_and _ _ | (unfold zin; omega) | (unfold zin at *; omega)) (fun h97 => ?_) (fun h97 => ?_)
                · refine wp_iinc (t := 53) rfl rfl (by decide) rfl ?_
                  refine wp_goto (t := 54) (tgt := 19) rfl (by decide) ?_
                  refine ih (a + 1) _ _ _ (by omega) (by omega) (by omega) hut ?_
                  rcases hs with ⟨e, hs⟩ | ⟨g1, g2, g3, hs⟩
                  · first
                      | exact Or.inl ⟨e, fun c c0 c1 c2 c3 c4 => by
                          by_cases hca : c = a
                          · subst hca
                            omega
                          · exact hs c c0 (by omega) c2 c3 c4⟩
                      | exact Or.inr ⟨by omega, by omega, by omega, fun c c0 c1 c2 c3 c4 c5 => by
                          by_cases hca : c = a
                          · subst hca
                            omega
                          · have := hs c c0 (by omega) c2 c3 c4
                            omega⟩
                  · first
                      | exact Or.inr ⟨g1, g2, g3, fun c c0 c1 c2 c3 c4 c5 => by
                          by_cases hca : c = a
                          · subst hca
                            omega
                          · exact hs c c0 (by omega) c2 c3 c4 c5⟩
                      | exact Or.inr ⟨by omega, by omega, by omega, fun c c0 c1 c2 c3 c4 c5 => by
                          by_cases hca : c = a
                          · subst hca
                            omega
                          · have := hs c c0 (by omega) c2 c3 c4 c5
                            omega⟩
                · refine wp_iload (t := 51) rfl rfl ?_
                  refine wp_istore (t := 52) rfl (by decide) rfl ?_
                  refine wp_iinc (t := 53) rfl rfl (by decide) rfl ?_
                  refine wp_goto (t := 54) (tgt := 19) rfl (by decide) ?_
                  refine ih (a + 1) _ _ _ (by omega) (by omega) (by omega) hut ?_
                  rcases hs with ⟨e, hs⟩ | ⟨g1, g2, g3, hs⟩
                  · first
                      | exact Or.inl ⟨e, fun c c0 c1 c2 c3 c4 => by
                          by_cases hca : c = a
                          · subst hca
                            omega
                          · exact hs c c0 (by omega) c2 c3 c4⟩
                      | exact Or.inr ⟨by omega, by omega, by omega, fun c c0 c1 c2 c3 c4 c5 => by
                          by_cases hca : c = a
                          · subst hca
                            omega
                          · have := hs c c0 (by omega) c2 c3 c4
                            omega⟩
                  · first
                      | exact Or.inr ⟨g1, g2, g3, fun c c0 c1 c2 c3 c4 c5 => by
                          by_cases hca : c = a
                          · subst hca
                            omega
                          · exact hs c c0 (by omega) c2 c3 c4 c5⟩
                      | exact Or.inr ⟨by omega, by omega, by omega, fun c c0 c1 c2 c3 c4 c5 => by
                          by_cases hca : c = a
                          · subst hca
                            omega
                          · have := hs c c0 (by omega) c2 c3 c4 c5
                            omega⟩
            · refine wp_iload (t := 33) rfl rfl ?_
              refine wp_bipush (t := 34) rfl (by decide) ?_
              refine wp_icmp_eq (t := 35) (tgt := 77) rfl (by decide) (by first | assumption | exact hI0 _ _ | exact zin_and _ _ | (unfold zin; omega) | (unfold zin at *; omega)) (by first | assumption | exact hI0 _ _ | exact zin_and _ _ | (unfold zin; omega) | (unfold zin at *; omega)) (fun h67 => ?_) (fun h67 => ?_)
              · refine wp_iconst (t := 39) rfl ?_
                refine wp_goto (t := 40) (tgt := 82) rfl (by decide) ?_
                refine wp_istore (t := 42) rfl (by decide) rfl ?_
                refine wp_iload (t := 43) rfl rfl ?_
                refine wp_if_eq (t := 44) (tgt := 104) rfl (by decide) (by first | assumption | exact hI0 _ _ | exact zin_and _ _ | (unfold zin; omega) | (unfold zin at *; omega)) (fun h86 => ?_) (fun h86 => ?_)
                · refine wp_iinc (t := 53) rfl rfl (by decide) rfl ?_
                  refine wp_goto (t := 54) (tgt := 19) rfl (by decide) ?_
                  refine ih (a + 1) _ _ _ (by omega) (by omega) (by omega) hut ?_
                  rcases hs with ⟨e, hs⟩ | ⟨g1, g2, g3, hs⟩
                  · first
                      | exact Or.inl ⟨e, fun c c0 c1 c2 c3 c4 => by
                          by_cases hca : c = a
                          · subst hca
                            omega
                          · exact hs c c0 (by omega) c2 c3 c4⟩
                      | exact Or.inr ⟨by omega, by omega, by omega, fun c c0 c1 c2 c3 c4 c5 => by
                          by_cases hca : c = a
                          · subst hca
                            omega
                          · have := hs c c0 (by omega) c2 c3 c4
                            omega⟩
                  · first
                      | exact Or.inr ⟨g1, g2, g3, fun c c0 c1 c2 c3 c4 c5 => by
                          by_cases hca : c = a
                          · subst hca
                            omega
                          · exact hs c c0 (by omega) c2 c3 c4 c5⟩
                      | exact Or.inr ⟨by omega, by omega, by omega, fun c c0 c1 c2 c3 c4 c5 => by
                          by_cases hca : c = a
                          · subst hca
                            omega
                          · have := hs c c0 (by omega) c2 c3 c4 c5
                            omega⟩
                · refine wp_aload_n (t := 45) rfl rfl ?_
                  refine wp_iload_n (t := 46) rfl rfl ?_
                  refine wp_iload (t := 47) rfl rfl ?_
                  refine wp_vi (ci := 3) (c_X3_used hp hW hn ⟨by omega, by omega⟩ (by unfold zin; omega) (hI0 _ _)) (t := 48) rfl kX3_89 rfl rfl (by omega) (by first | rfl | assumption) ⟨_, _, rfl⟩ (Nat.le_of_ble_eq_true rfl) ⟨Nat.le_refl _, Nat.le_refl _⟩ (fun r93 I93 R93 c93 => ?_)
                  refine wp_canon (fun hI1 => ?_)
                  obtain ⟨rfl, rfl, rfl⟩ := c93
                  refine wp_iload_n (t := 49) rfl rfl ?_
                  refine wp_icmp_le (t := 50) (tgt := 104) rfl (by decide) (hub _) (by first | assumption | exact hI1 _ _ | exact hI0 _ _ | exact zin_and _ _ | (unfold zin; omega) | (unfold zin at *; omega)) (fun h97 => ?_) (fun h97 => ?_)
                  · refine wp_iinc (t := 53) rfl rfl (by decide) rfl ?_
                    refine wp_goto (t := 54) (tgt := 19) rfl (by decide) ?_
                    refine ih (a + 1) _ _ _ (by omega) (by omega) (by omega) hut ?_
                    rcases hs with ⟨e, hs⟩ | ⟨g1, g2, g3, hs⟩
                    · first
                        | exact Or.inl ⟨e, fun c c0 c1 c2 c3 c4 => by
                            by_cases hca : c = a
                            · subst hca
                              omega
                            · exact hs c c0 (by omega) c2 c3 c4⟩
                        | exact Or.inr ⟨by omega, by omega, by omega, fun c c0 c1 c2 c3 c4 c5 => by
                            by_cases hca : c = a
                            · subst hca
                              omega
                            · have := hs c c0 (by omega) c2 c3 c4
                              omega⟩
                    · first
                        | exact Or.inr ⟨g1, g2, g3, fun c c0 c1 c2 c3 c4 c5 => by
                            by_cases hca : c = a
                            · subst hca
                              omega
                            · exact hs c c0 (by omega) c2 c3 c4 c5⟩
                        | exact Or.inr ⟨by omega, by omega, by omega, fun c c0 c1 c2 c3 c4 c5 => by
                            by_cases hca : c = a
                            · subst hca
                              omega
                            · have := hs c c0 (by omega) c2 c3 c4 c5
                              omega⟩
                  · refine wp_iload (t := 51) rfl rfl ?_
                    refine wp_istore (t := 52) rfl (by decide) rfl ?_
                    refine wp_iinc (t := 53) rfl rfl (by decide) rfl ?_
                    refine wp_goto (t := 54) (tgt := 19) rfl (by decide) ?_
                    refine ih (a + 1) _ _ _ (by omega) (by omega) (by omega) hut ?_
                    rcases hs with ⟨e, hs⟩ | ⟨g1, g2, g3, hs⟩
                    · first
                        | exact Or.inl ⟨e, fun c c0 c1 c2 c3 c4 => by
                            by_cases hca : c = a
                            · subst hca
                              omega
                            · exact hs c c0 (by omega) c2 c3 c4⟩
                        | exact Or.inr ⟨by omega, by omega, by omega, fun c c0 c1 c2 c3 c4 c5 => by
                            by_cases hca : c = a
                            · subst hca
                              omega
                            · have := hs c c0 (by omega) c2 c3 c4
                              omega⟩
                    · first
                        | exact Or.inr ⟨g1, g2, g3, fun c c0 c1 c2 c3 c4 c5 => by
                            by_cases hca : c = a
                            · subst hca
                              omega
                            · exact hs c c0 (by omega) c2 c3 c4 c5⟩
                        | exact Or.inr ⟨by omega, by omega, by omega, fun c c0 c1 c2 c3 c4 c5 => by
                            by_cases hca : c = a
                            · subst hca
                              omega
                            · have := hs c c0 (by omega) c2 c3 c4 c5
                              omega⟩
              · refine wp_iload (t := 36) rfl rfl ?_
                refine wp_iload (t := 37) rfl rfl ?_
                refine wp_icmp_ge (t := 38) (tgt := 81) rfl (by decide) (by first | assumption | exact hI0 _ _ | exact zin_and _ _ | (unfold zin; omega) | (unfold zin at *; omega)) (by first | assumption | exact hI0 _ _ | exact zin_and _ _ | (unfold zin; omega) | (unfold zin at *; omega)) (fun h74 => ?_) (fun h74 => ?_)
                · refine wp_iconst (t := 41) rfl ?_
                  refine wp_istore (t := 42) rfl (by decide) rfl ?_
                  refine wp_iload (t := 43) rfl rfl ?_
                  refine wp_if_eq (t := 44) (tgt := 104) rfl (by decide) (by first | assumption | exact hI0 _ _ | exact zin_and _ _ | (unfold zin; omega) | (unfold zin at *; omega)) (fun h86 => ?_) (fun h86 => ?_)
                  · refine wp_iinc (t := 53) rfl rfl (by decide) rfl ?_
                    refine wp_goto (t := 54) (tgt := 19) rfl (by decide) ?_
                    refine ih (a + 1) _ _ _ (by omega) (by omega) (by omega) hut ?_
                    rcases hs with ⟨e, hs⟩ | ⟨g1, g2, g3, hs⟩
                    · first
                        | exact Or.inl ⟨e, fun c c0 c1 c2 c3 c4 => by
                            by_cases hca : c = a
                            · subst hca
                              omega
                            · exact hs c c0 (by omega) c2 c3 c4⟩
                        | exact Or.inr ⟨by omega, by omega, by omega, fun c c0 c1 c2 c3 c4 c5 => by
                            by_cases hca : c = a
                            · subst hca
                              omega
                            · have := hs c c0 (by omega) c2 c3 c4
                              omega⟩
                    · first
                        | exact Or.inr ⟨g1, g2, g3, fun c c0 c1 c2 c3 c4 c5 => by
                            by_cases hca : c = a
                            · subst hca
                              omega
                            · exact hs c c0 (by omega) c2 c3 c4 c5⟩
                        | exact Or.inr ⟨by omega, by omega, by omega, fun c c0 c1 c2 c3 c4 c5 => by
                            by_cases hca : c = a
                            · subst hca
                              omega
                            · have := hs c c0 (by omega) c2 c3 c4 c5
                              omega⟩
                  · refine wp_aload_n (t := 45) rfl rfl ?_
                    refine wp_iload_n (t := 46) rfl rfl ?_
                    refine wp_iload (t := 47) rfl rfl ?_
                    refine wp_vi (ci := 3) (c_X3_used hp hW hn ⟨by omega, by omega⟩ (by unfold zin; omega) (hI0 _ _)) (t := 48) rfl kX3_89 rfl rfl (by omega) (by first | rfl | assumption) ⟨_, _, rfl⟩ (Nat.le_of_ble_eq_true rfl) ⟨Nat.le_refl _, Nat.le_refl _⟩ (fun r93 I93 R93 c93 => ?_)
                    refine wp_canon (fun hI1 => ?_)
                    obtain ⟨rfl, rfl, rfl⟩ := c93
                    refine wp_iload_n (t := 49) rfl rfl ?_
                    refine wp_icmp_le (t := 50) (tgt := 104) rfl (by decide) (hub _) (by first | assumption | exact hI1 _ _ | exact hI0 _ _ | exact zin_and _ _ | (unfold zin; omega) | (unfold zin at *; omega)) (fun h97 => ?_) (fun h97 => ?_)
                    · refine wp_iinc (t := 53) rfl rfl (by decide) rfl ?_
                      refine wp_goto (t := 54) (tgt := 19) rfl (by decide) ?_
                      refine ih (a + 1) _ _ _ (by omega) (by omega) (by omega) hut ?_
                      rcases hs with ⟨e, hs⟩ | ⟨g1, g2, g3, hs⟩
                      · first
                          | exact Or.inl ⟨e, fun c c0 c1 c2 c3 c4 => by
                              by_cases hca : c = a
                              · subst hca
                                omega
                              · exact hs c c0 (by omega) c2 c3 c4⟩
                          | exact Or.inr ⟨by omega, by omega, by omega, fun c c0 c1 c2 c3 c4 c5 => by
                              by_cases hca : c = a
                              · subst hca
                                omega
                              · have := hs c c0 (by omega) c2 c3 c4
                                omega⟩
                      · first
                          | exact Or.inr ⟨g1, g2, g3, fun c c0 c1 c2 c3 c4 c5 => by
                              by_cases hca : c = a
                              · subst hca
                                omega
                              · exact hs c c0 (by omega) c2 c3 c4 c5⟩
                          | exact Or.inr ⟨by omega, by omega, by omega, fun c c0 c1 c2 c3 c4 c5 => by
                              by_cases hca : c = a
                              · subst hca
                                omega
                              · have := hs c c0 (by omega) c2 c3 c4 c5
                                omega⟩
                    · refine wp_iload (t := 51) rfl rfl ?_
                      refine wp_istore (t := 52) rfl (by decide) rfl ?_
                      refine wp_iinc (t := 53) rfl rfl (by decide) rfl ?_
                      refine wp_goto (t := 54) (tgt := 19) rfl (by decide) ?_
                      refine ih (a + 1) _ _ _ (by omega) (by omega) (by omega) hut ?_
                      rcases hs with ⟨e, hs⟩ | ⟨g1, g2, g3, hs⟩
                      · first
                          | exact Or.inl ⟨e, fun c c0 c1 c2 c3 c4 => by
                              by_cases hca : c = a
                              · subst hca
                                omega
                              · exact hs c c0 (by omega) c2 c3 c4⟩
                          | exact Or.inr ⟨by omega, by omega, by omega, fun c c0 c1 c2 c3 c4 c5 => by
                              by_cases hca : c = a
                              · subst hca
                                omega
                              · have := hs c c0 (by omega) c2 c3 c4
                                omega⟩
                      · first
                          | exact Or.inr ⟨g1, g2, g3, fun c c0 c1 c2 c3 c4 c5 => by
                              by_cases hca : c = a
                              · subst hca
                                omega
                              · exact hs c c0 (by omega) c2 c3 c4 c5⟩
                          | exact Or.inr ⟨by omega, by omega, by omega, fun c c0 c1 c2 c3 c4 c5 => by
                              by_cases hca : c = a
                              · subst hca
                                omega
                              · have := hs c c0 (by omega) c2 c3 c4 c5
                                omega⟩
                · refine wp_iconst (t := 39) rfl ?_
                  refine wp_goto (t := 40) (tgt := 82) rfl (by decide) ?_
                  refine wp_istore (t := 42) rfl (by decide) rfl ?_
                  refine wp_iload (t := 43) rfl rfl ?_
                  refine wp_if_eq (t := 44) (tgt := 104) rfl (by decide) (by first | assumption | exact hI0 _ _ | exact zin_and _ _ | (unfold zin; omega) | (unfold zin at *; omega)) (fun h86 => ?_) (fun h86 => ?_)
                  · refine wp_iinc (t := 53) rfl rfl (by decide) rfl ?_
                    refine wp_goto (t := 54) (tgt := 19) rfl (by decide) ?_
                    refine ih (a + 1) _ _ _ (by omega) (by omega) (by omega) hut ?_
                    rcases hs with ⟨e, hs⟩ | ⟨g1, g2, g3, hs⟩
                    · first
                        | exact Or.inl ⟨e, fun c c0 c1 c2 c3 c4 => by
                            by_cases hca : c = a
                            · subst hca
                              omega
                            · exact hs c c0 (by omega) c2 c3 c4⟩
                        | exact Or.inr ⟨by omega, by omega, by omega, fun c c0 c1 c2 c3 c4 c5 => by
                            by_cases hca : c = a
                            · subst hca
                              omega
                            · have := hs c c0 (by omega) c2 c3 c4
                              omega⟩
                    · first
                        | exact Or.inr ⟨g1, g2, g3, fun c c0 c1 c2 c3 c4 c5 => by
                            by_cases hca : c = a
                            · subst hca
                              omega
                            · exact hs c c0 (by omega) c2 c3 c4 c5⟩
                        | exact Or.inr ⟨by omega, by omega, by omega, fun c c0 c1 c2 c3 c4 c5 => by
                            by_cases hca : c = a
                            · subst hca
                              omega
                            · have := hs c c0 (by omega) c2 c3 c4 c5
                              omega⟩
                  · refine wp_aload_n (t := 45) rfl rfl ?_
                    refine wp_iload_n (t := 46) rfl rfl ?_
                    refine wp_iload (t := 47) rfl rfl ?_
                    refine wp_vi (ci := 3) (c_X3_used hp hW hn ⟨by omega, by omega⟩ (by unfold zin; omega) (hI0 _ _)) (t := 48) rfl kX3_89 rfl rfl (by omega) (by first | rfl | assumption) ⟨_, _, rfl⟩ (Nat.le_of_ble_eq_true rfl) ⟨Nat.le_refl _, Nat.le_refl _⟩ (fun r93 I93 R93 c93 => ?_)
                    refine wp_canon (fun hI1 => ?_)
                    obtain ⟨rfl, rfl, rfl⟩ := c93
                    refine wp_iload_n (t := 49) rfl rfl ?_
                    refine wp_icmp_le (t := 50) (tgt := 104) rfl (by decide) (hub _) (by first | assumption | exact hI1 _ _ | exact hI0 _ _ | exact zin_and _ _ | (unfold zin; omega) | (unfold zin at *; omega)) (fun h97 => ?_) (fun h97 => ?_)
                    · refine wp_iinc (t := 53) rfl rfl (by decide) rfl ?_
                      refine wp_goto (t := 54) (tgt := 19) rfl (by decide) ?_
                      refine ih (a + 1) _ _ _ (by omega) (by omega) (by omega) hut ?_
                      rcases hs with ⟨e, hs⟩ | ⟨g1, g2, g3, hs⟩
                      · first
                          | exact Or.inl ⟨e, fun c c0 c1 c2 c3 c4 => by
                              by_cases hca : c = a
                              · subst hca
                                omega
                              · exact hs c c0 (by omega) c2 c3 c4⟩
                          | exact Or.inr ⟨by omega, by omega, by omega, fun c c0 c1 c2 c3 c4 c5 => by
                              by_cases hca : c = a
                              · subst hca
                                omega
                              · have := hs c c0 (by omega) c2 c3 c4
                                omega⟩
                      · first
                          | exact Or.inr ⟨g1, g2, g3, fun c c0 c1 c2 c3 c4 c5 => by
                              by_cases hca : c = a
                              · subst hca
                                omega
                              · exact hs c c0 (by omega) c2 c3 c4 c5⟩
                          | exact Or.inr ⟨by omega, by omega, by omega, fun c c0 c1 c2 c3 c4 c5 => by
                              by_cases hca : c = a
                              · subst hca
                                omega
                              · have := hs c c0 (by omega) c2 c3 c4 c5
                                omega⟩
                    · refine wp_iload (t := 51) rfl rfl ?_
                      refine wp_istore (t := 52) rfl (by decide) rfl ?_
                      refine wp_iinc (t := 53) rfl rfl (by decide) rfl ?_
                      refine wp_goto (t := 54) (tgt := 19) rfl (by decide) ?_
                      refine ih (a + 1) _ _ _ (by omega) (by omega) (by omega) hut ?_
                      rcases hs with ⟨e, hs⟩ | ⟨g1, g2, g3, hs⟩
                      · first
                          | exact Or.inl ⟨e, fun c c0 c1 c2 c3 c4 => by
                              by_cases hca : c = a
                              · subst hca
                                omega
                              · exact hs c c0 (by omega) c2 c3 c4⟩
                          | exact Or.inr ⟨by omega, by omega, by omega, fun c c0 c1 c2 c3 c4 c5 => by
                              by_cases hca : c = a
                              · subst hca
                                omega
                              · have := hs c c0 (by omega) c2 c3 c4
                                omega⟩
                      · first
                          | exact Or.inr ⟨g1, g2, g3, fun c c0 c1 c2 c3 c4 c5 => by
                              by_cases hca : c = a
                              · subst hca
                                omega
                              · exact hs c c0 (by omega) c2 c3 c4 c5⟩
                          | exact Or.inr ⟨by omega, by omega, by omega, fun c c0 c1 c2 c3 c4 c5 => by
                              by_cases hca : c = a
                              · subst hca
                                omega
                              · have := hs c c0 (by omega) c2 c3 c4 c5
                                omega⟩
  refine wp_ls (ls' := [some (zR p), some (zI what), some (zI most), some (zI t), some (zI en), none, none, none, none]) rfl ?_
  refine wp_aload_n (t := 0) rfl rfl ?_
  refine wp_iload_n (t := 1) rfl rfl ?_
  refine wp_iload_n (t := 2) rfl rfl ?_
  refine wp_vi (ci := 3) (c_X3_used hp hW hn ⟨by omega, by omega⟩ (by unfold zin; omega) (by unfold zin; omega)) (t := 3) rfl kX3_89 rfl rfl (by omega) (by first | rfl | assumption) ⟨_, _, rfl⟩ (Nat.le_of_ble_eq_true rfl) ⟨Nat.le_refl _, Nat.le_refl _⟩ (fun r3 I3 R3 c3 => ?_)
  refine wp_canon (fun hI1 => ?_)
  obtain ⟨rfl, rfl, rfl⟩ := c3
  refine wp_iload_n (t := 4) rfl rfl ?_
  refine wp_icmp_le (t := 5) (tgt := 12) rfl (by decide) (hub _) (by first | assumption | exact hI1 _ _ | exact hI0 _ _ | exact zin_and _ _ | (unfold zin; omega) | (unfold zin at *; omega)) (fun h7 => ?_) (fun h7 => ?_)
  · refine wp_bipush (t := 8) rfl (by decide) ?_
    refine wp_istore (t := 9) rfl (by decide) rfl ?_
    refine wp_iconst (t := 10) rfl ?_
    refine wp_istore (t := 11) rfl (by decide) rfl ?_
    exact key _ 0 (-4) _ _ (by omega) (by omega) rfl (by omega) (Or.inl ⟨rfl, fun c c0 c1 => absurd c1 (by omega)⟩)
  · refine wp_iload_n (t := 6) rfl rfl ?_
    refine wp_ireturn (t := 7) rfl rfl ?_
    exact ⟨_, rfl, (sOver_some ht.1 (Int.le_refl _) hen.1 (by omega) (fun s g1 g2 => absurd g2 (by omega))).symm, rfl, rfl⟩
end
section
set_option maxHeartbeats 4000000 in
set_option maxRecDepth 100000 in
theorem c_X3_reason {G : zG} {d n : Nat} {I : zMem} {R : zRef} {p : Nat} {c w t : Int} (hp : p = 64 ∨ p = 86) (hW : zWir n R) (hn : 115 ≤ n) (hch : zCh I) (hpl : zPl I p) (hc : 0 ≤ c ∧ c < I 34 2) (hw : 1 ≤ w ∧ w ≤ I 34 0) (ht : 0 ≤ t ∧ t ≤ 1010000) : MT G mX3_reason (d + 3) 0 0 [zR p, zI c, zI w, zI t] n I R (zP1 (fun r I' R' => r = sRea (cS I p) c w t ∧ I' = I ∧ R' = R)) := by
  refine MT.of (by decide +kernel) tX3_reason_ok (Nat.le_of_ble_eq_true rfl) (fun hI0 => ?_)
  obtain ⟨hl0, hl1, hl2, hl3, hl4, hl5, hp1⟩ := zpl hp
  obtain ⟨hr0, hr1, hr2, hr3, hr4, hr5⟩ := zpr hp hW hn
  obtain ⟨f1, f2, f3, f4, f5, f6⟩ := cS_facts hch hpl
  have hco := hch.1
  have hli := hch.2.1
  have hpo := hch.2.2.1
  have hcc := hch.2.2.2.2.1 c hc.1 hc.2
  have hlo := hcc.2.2.2.2 w hw.1 hw.2
  have hT := f5 c w hc.1 hc.2 hw.1 hw.2
  refine wp_ls (ls' := [some (zR p), some (zI c), some (zI w), some (zI t), none]) rfl ?_
  refine wp_iload_n (t := 0) rfl rfl ?_
  refine wp_aload_n (t := 1) rfl rfl ?_
  refine wp_iload_n (t := 2) rfl rfl ?_
  refine wp_iload_n (t := 3) rfl rfl ?_
  refine wp_vi (ci := 3) (c_X3_takes hp hW hn ⟨hc.1, by omega⟩ ⟨by omega, by omega⟩ ⟨by omega, by omega⟩ ⟨by omega, by omega⟩) (t := 4) rfl kX3_47 rfl rfl (by omega) (by first | rfl | assumption) ⟨_, _, rfl⟩ (Nat.le_of_ble_eq_true rfl) ⟨Nat.le_refl _, Nat.le_refl _⟩ (fun r4 I4 R4 c4 => ?_)
  refine wp_canon (fun hI1 => ?_)
  obtain ⟨rfl, rfl, rfl⟩ := c4
  refine wp_iadd (t := 5) rfl ?_
  refine wp_istore (t := 6) rfl (by decide) rfl ?_
  refine wp_aload_n (t := 7) rfl rfl ?_
  refine wp_iload_n (t := 8) rfl rfl ?_
  refine wp_iload_n (t := 9) rfl rfl ?_
  refine wp_vi (ci := 3) (c_X3_notDoneAhead (d := d + 2) hp hW hn hch hpl ⟨hc.1, by omega⟩ (by unfold zin; omega)) (t := 10) rfl kX3_76 rfl rfl (by omega) (by first | rfl | assumption) ⟨_, _, rfl⟩ (Nat.le_of_ble_eq_true rfl) ⟨Nat.le_refl _, Nat.le_refl _⟩ (fun r13 I13 R13 c13 => ?_)
  refine wp_canon (fun hI2 => ?_)
  obtain ⟨rfl, rfl, rfl⟩ := c13
  refine wp_bipush (t := 11) rfl (by decide) ?_
  refine wp_icmp_eq (t := 12) (tgt := 23) rfl (by decide) (sNot_in (by omega)) (by first | assumption | exact hI2 _ _ | exact hI1 _ _ | exact hI0 _ _ | exact zin_and _ _ | (unfold zin; omega) | (unfold zin at *; omega)) (fun h18 => ?_) (fun h18 => ?_)
  · refine wp_aload_n (t := 15) rfl rfl ?_
    refine wp_iload_n (t := 16) rfl rfl ?_
    refine wp_iload (t := 17) rfl rfl ?_
    refine wp_vi (ci := 3) (c_X3_begunBehind (d := d + 2) hp hW hn hch hpl ⟨hc.1, by omega⟩ (by unfold zin; omega)) (t := 18) rfl kX3_79 rfl rfl (by omega) (by first | rfl | assumption) ⟨_, _, rfl⟩ (Nat.le_of_ble_eq_true rfl) ⟨Nat.le_refl _, Nat.le_refl _⟩ (fun r27 I27 R27 c27 => ?_)
    refine wp_canon (fun hI3 => ?_)
    obtain ⟨rfl, rfl, rfl⟩ := c27
    refine wp_bipush (t := 19) rfl (by decide) ?_
    refine wp_icmp_eq (t := 20) (tgt := 37) rfl (by decide) (sBeg_in (by omega)) (by first | assumption | exact hI3 _ _ | exact hI2 _ _ | exact hI1 _ _ | exact hI0 _ _ | exact zin_and _ _ | (unfold zin; omega) | (unfold zin at *; omega)) (fun h32 => ?_) (fun h32 => ?_)
    · refine wp_aload_n (t := 23) rfl rfl ?_
      refine wp_iconst (t := 24) rfl ?_
      refine wp_aload_n (t := 25) rfl rfl ?_
      refine wp_getR (t := 26) (ji := 0) rfl fX3_27 rfl rfl (by omega) (by first | rfl | assumption) (by first | exact hW _ _ _ (by omega) rfl | assumption) ?_
      refine wp_getI (t := 27) (ji := 0) rfl fX3_55 rfl rfl (by omega) (by first | rfl | assumption) ?_
      refine wp_iload_n (t := 28) rfl rfl ?_
      refine wp_isub (t := 29) rfl ?_
      refine wp_iload_n (t := 30) rfl rfl ?_
      refine wp_iload (t := 31) rfl rfl ?_
      refine wp_vi (ci := 3) (c_X3_firstOver (d := d + 1) (most := sL (cS I27 p) - w) hp hW hn hch hpl (Or.inl rfl) (by show zin (I27 34 0 - w); unfold zin; omega) ⟨by omega, by omega⟩ ⟨by omega, by omega⟩) (t := 32) rfl kX3_82 rfl rfl (by omega) (by first | rfl | assumption) ⟨_, _, rfl⟩ (Nat.le_of_ble_eq_true rfl) ⟨Nat.le_refl _, Nat.le_refl _⟩ (fun r51 I51 R51 c51 => ?_)
      refine wp_canon (fun hI4 => ?_)
      obtain ⟨rfl, rfl, rfl⟩ := c51
      refine wp_bipush (t := 33) rfl (by decide) ?_
      refine wp_icmp_eq (t := 34) (tgt := 61) rfl (by decide) (sOver_in (by omega) (by omega) (by omega)) (by first | assumption | exact hI4 _ _ | exact hI3 _ _ | exact hI2 _ _ | exact hI1 _ _ | exact hI0 _ _ | exact zin_and _ _ | (unfold zin; omega) | (unfold zin at *; omega)) (fun h56 => ?_) (fun h56 => ?_)
      · refine wp_aload_n (t := 37) rfl rfl ?_
        refine wp_iconst (t := 38) rfl ?_
        refine wp_aload_n (t := 39) rfl rfl ?_
        refine wp_getR (t := 40) (ji := 0) rfl fX3_27 rfl rfl (by omega) (by first | rfl | assumption) (by first | exact hW _ _ _ (by omega) rfl | assumption) ?_
        refine wp_getI (t := 41) (ji := 1) rfl fX3_86 rfl rfl (by omega) (by first | rfl | assumption) ?_
        refine wp_aload_n (t := 42) rfl rfl ?_
        refine wp_getR (t := 43) (ji := 0) rfl fX3_27 rfl rfl (by omega) (by first | rfl | assumption) (by first | exact hW _ _ _ (by omega) rfl | assumption) ?_
        refine wp_getR (t := 44) (ji := 6) rfl fX3_73 rfl rfl (by omega) (by first | rfl | assumption) (by first | exact hW _ _ _ (by omega) rfl | assumption) ?_
        refine wp_iload_n (t := 45) rfl rfl ?_
        refine wp_iaload (t := 46) rfl (by omega) (by first | rfl | assumption) (by omega) (by omega) (by decide) ?_
        refine wp_isub (t := 47) rfl ?_
        refine wp_iload_n (t := 48) rfl rfl ?_
        refine wp_iload (t := 49) rfl rfl ?_
        refine wp_vi (ci := 3) (c_X3_firstOver (d := d + 1) (most := sP (cS I51 p) - sD (cS I51 p) c) hp hW hn hch hpl (Or.inr rfl) (by show zin (I51 34 1 - I51 37 c); unfold zin; omega) ⟨by omega, by omega⟩ ⟨by omega, by omega⟩) (t := 50) rfl kX3_82 rfl rfl (by omega) (by first | rfl | assumption) ⟨_, _, rfl⟩ (Nat.le_of_ble_eq_true rfl) ⟨Nat.le_refl _, Nat.le_refl _⟩ (fun r83 I83 R83 c83 => ?_)
        refine wp_canon (fun hI5 => ?_)
        obtain ⟨rfl, rfl, rfl⟩ := c83
        refine wp_bipush (t := 51) rfl (by decide) ?_
        refine wp_icmp_eq (t := 52) (tgt := 93) rfl (by decide) (sOver_in (by omega) (by omega) (by omega)) (by first | assumption | exact hI5 _ _ | exact hI4 _ _ | exact hI3 _ _ | exact hI2 _ _ | exact hI1 _ _ | exact hI0 _ _ | exact zin_and _ _ | (unfold zin; omega) | (unfold zin at *; omega)) (fun h88 => ?_) (fun h88 => ?_)
        · refine wp_iconst (t := 55) rfl ?_
          refine wp_ireturn (t := 56) rfl rfl ?_
          exact ⟨_, rfl, ((if_neg (not_not_intro h18)).trans ((if_neg (not_not_intro h32)).trans ((if_neg (not_not_intro h56)).trans (if_neg (not_not_intro h88))))).symm, rfl, rfl⟩
        · refine wp_iconst (t := 53) rfl ?_
          refine wp_ireturn (t := 54) rfl rfl ?_
          exact ⟨_, rfl, ((if_neg (not_not_intro h18)).trans ((if_neg (not_not_intro h32)).trans ((if_neg (not_not_intro h56)).trans (if_pos h88)))).symm, rfl, rfl⟩
      · refine wp_iconst (t := 35) rfl ?_
        refine wp_ireturn (t := 36) rfl rfl ?_
        exact ⟨_, rfl, ((if_neg (not_not_intro h18)).trans ((if_neg (not_not_intro h32)).trans (if_pos h56))).symm, rfl, rfl⟩
    · refine wp_iconst (t := 21) rfl ?_
      refine wp_ireturn (t := 22) rfl rfl ?_
      exact ⟨_, rfl, ((if_neg (not_not_intro h18)).trans (if_pos h32)).symm, rfl, rfl⟩
  · refine wp_iconst (t := 13) rfl ?_
    refine wp_ireturn (t := 14) rfl rfl ?_
    exact ⟨_, rfl, (if_pos h18).symm, rfl, rfl⟩
set_option maxHeartbeats 4000000 in
set_option maxRecDepth 100000 in
theorem c_X3_toldBy {G : zG} {d n : Nat} {I : zMem} {R : zRef} {p : Nat} {r c w t : Int} (hp : p = 64 ∨ p = 86) (hW : zWir n R) (hn : 115 ≤ n) (hch : zCh I) (hpl : zPl I p) (hz : zin r) (hc : 0 ≤ c ∧ c < I 34 2) (hw : 1 ≤ w ∧ w ≤ I 34 0) (ht : 0 ≤ t ∧ t ≤ 1010000) : MT G mX3_toldBy (d + 3) 0 0 [zR p, zI r, zI c, zI w, zI t] n I R (zP1 (fun x I' R' => x = sTold (cS I p) r c w t ∧ I' = I ∧ R' = R)) := by
  refine MT.of (by decide +kernel) tX3_toldBy_ok (Nat.le_of_ble_eq_true rfl) (fun hI0 => ?_)
  obtain ⟨hl0, hl1, hl2, hl3, hl4, hl5, hp1⟩ := zpl hp
  obtain ⟨hr0, hr1, hr2, hr3, hr4, hr5⟩ := zpr hp hW hn
  obtain ⟨f1, f2, f3, f4, f5, f6⟩ := cS_facts hch hpl
  have hco := hch.1
  have hli := hch.2.1
  have hpo := hch.2.2.1
  have hcc := hch.2.2.2.2.1 c hc.1 hc.2
  have hlo := hcc.2.2.2.2 w hw.1 hw.2
  have hT := f5 c w hc.1 hc.2 hw.1 hw.2
  refine wp_ls (ls' := [some (zR p), some (zI r), some (zI c), some (zI w), some (zI t), none]) rfl ?_
  refine wp_iload (t := 0) rfl rfl ?_
  refine wp_aload_n (t := 1) rfl rfl ?_
  refine wp_iload_n (t := 2) rfl rfl ?_
  refine wp_iload_n (t := 3) rfl rfl ?_
  refine wp_vi (ci := 3) (c_X3_takes hp hW hn ⟨hc.1, by omega⟩ ⟨by omega, by omega⟩ ⟨by omega, by omega⟩ ⟨by omega, by omega⟩) (t := 4) rfl kX3_47 rfl rfl (by omega) (by first | rfl | assumption) ⟨_, _, rfl⟩ (Nat.le_of_ble_eq_true rfl) ⟨Nat.le_refl _, Nat.le_refl _⟩ (fun r5 I5 R5 c5 => ?_)
  refine wp_canon (fun hI1 => ?_)
  obtain ⟨rfl, rfl, rfl⟩ := c5
  refine wp_iadd (t := 5) rfl ?_
  refine wp_istore (t := 6) rfl (by decide) rfl ?_
  refine wp_iload_n (t := 7) rfl rfl ?_
  refine wp_top (fun y12 e12 => ?_)
  have z12 : zin y12 := (by first | assumption | exact hI1 _ _ | exact hI0 _ _ | exact zin_and _ _ | (unfold zin; omega) | (unfold zin at *; omega) | (rw [e12]; first | exact hI1 _ _ | exact hI0 _ _ | (unfold zin; omega)))
  rcases (show y12 = 1 ∨ y12 = 2 ∨ y12 = 3 ∨ y12 = 4 ∨ (y12 < 1 ∨ 4 < y12) by omega) with h12 | h12 | h12 | h12 | h12
  · refine wp_tin (1) (t := 8) (off := 32) (tgt := 44) rfl h12 z12 (by decide) (by decide) rfl (by decide) ?_
    refine wp_aload_n (t := 9) rfl rfl ?_
    refine wp_iload_n (t := 10) rfl rfl ?_
    refine wp_iload (t := 11) rfl rfl ?_
    refine wp_vi (ci := 3) (c_X3_notDoneAhead (d := d + 2) hp hW hn hch hpl ⟨hc.1, by omega⟩ (by unfold zin; omega)) (t := 12) rfl kX3_76 rfl rfl (by omega) (by first | rfl | assumption) ⟨_, _, rfl⟩ (Nat.le_of_ble_eq_true rfl) ⟨Nat.le_refl _, Nat.le_refl _⟩ (fun r48 I48 R48 c48 => ?_)
    refine wp_canon (fun hI2 => ?_)
    obtain ⟨rfl, rfl, rfl⟩ := c48
    refine wp_ireturn (t := 13) rfl rfl ?_
    refine ⟨_, rfl, ?_, rfl, rfl⟩
    unfold sTold
    first | rw [if_pos (by omega)] | rw [if_neg (by omega), if_pos (by omega)] | rw [if_neg (by omega), if_neg (by omega), if_pos (by omega)] | rw [if_neg (by omega), if_neg (by omega), if_neg (by omega), if_pos (by omega)] | rw [if_neg (by omega), if_neg (by omega), if_neg (by omega), if_neg (by omega)]
  · refine wp_tin (2) (t := 8) (off := 40) (tgt := 52) rfl h12 z12 (by decide) (by decide) rfl (by decide) ?_
    refine wp_aload_n (t := 14) rfl rfl ?_
    refine wp_iload_n (t := 15) rfl rfl ?_
    refine wp_iload (t := 16) rfl rfl ?_
    refine wp_vi (ci := 3) (c_X3_begunBehind (d := d + 2) hp hW hn hch hpl ⟨hc.1, by omega⟩ (by unfold zin; omega)) (t := 17) rfl kX3_79 rfl rfl (by omega) (by first | rfl | assumption) ⟨_, _, rfl⟩ (Nat.le_of_ble_eq_true rfl) ⟨Nat.le_refl _, Nat.le_refl _⟩ (fun r56 I56 R56 c56 => ?_)
    refine wp_canon (fun hI2 => ?_)
    obtain ⟨rfl, rfl, rfl⟩ := c56
    refine wp_ireturn (t := 18) rfl rfl ?_
    refine ⟨_, rfl, ?_, rfl, rfl⟩
    unfold sTold
    first | rw [if_pos (by omega)] | rw [if_neg (by omega), if_pos (by omega)] | rw [if_neg (by omega), if_neg (by omega), if_pos (by omega)] | rw [if_neg (by omega), if_neg (by omega), if_neg (by omega), if_pos (by omega)] | rw [if_neg (by omega), if_neg (by omega), if_neg (by omega), if_neg (by omega)]
  · refine wp_tin (3) (t := 8) (off := 48) (tgt := 60) rfl h12 z12 (by decide) (by decide) rfl (by decide) ?_
    refine wp_aload_n (t := 19) rfl rfl ?_
    refine wp_iconst (t := 20) rfl ?_
    refine wp_aload_n (t := 21) rfl rfl ?_
    refine wp_getR (t := 22) (ji := 0) rfl fX3_27 rfl rfl (by omega) (by first | rfl | assumption) (by first | exact hW _ _ _ (by omega) rfl | assumption) ?_
    refine wp_getI (t := 23) (ji := 0) rfl fX3_55 rfl rfl (by omega) (by first | rfl | assumption) ?_
    refine wp_iload_n (t := 24) rfl rfl ?_
    refine wp_isub (t := 25) rfl ?_
    refine wp_iload (t := 26) rfl rfl ?_
    refine wp_iload (t := 27) rfl rfl ?_
    refine wp_vi (ci := 3) (c_X3_firstOver (d := d + 1) (most := sL (cS I5 p) - w) hp hW hn hch hpl (Or.inl rfl) (by show zin (I5 34 0 - w); unfold zin; omega) ⟨by omega, by omega⟩ ⟨by omega, by omega⟩) (t := 28) rfl kX3_82 rfl rfl (by omega) (by first | rfl | assumption) ⟨_, _, rfl⟩ (Nat.le_of_ble_eq_true rfl) ⟨Nat.le_refl _, Nat.le_refl _⟩ (fun r75 I75 R75 c75 => ?_)
    refine wp_canon (fun hI2 => ?_)
    obtain ⟨rfl, rfl, rfl⟩ := c75
    refine wp_ireturn (t := 29) rfl rfl ?_
    refine ⟨_, rfl, ?_, rfl, rfl⟩
    unfold sTold
    first | rw [if_pos (by omega)] | rw [if_neg (by omega), if_pos (by omega)] | rw [if_neg (by omega), if_neg (by omega), if_pos (by omega)] | rw [if_neg (by omega), if_neg (by omega), if_neg (by omega), if_pos (by omega)] | rw [if_neg (by omega), if_neg (by omega), if_neg (by omega), if_neg (by omega)]
  · refine wp_tin (4) (t := 8) (off := 67) (tgt := 79) rfl h12 z12 (by decide) (by decide) rfl (by decide) ?_
    refine wp_aload_n (t := 30) rfl rfl ?_
    refine wp_iconst (t := 31) rfl ?_
    refine wp_aload_n (t := 32) rfl rfl ?_
    refine wp_getR (t := 33) (ji := 0) rfl fX3_27 rfl rfl (by omega) (by first | rfl | assumption) (by first | exact hW _ _ _ (by omega) rfl | assumption) ?_
    refine wp_getI (t := 34) (ji := 1) rfl fX3_86 rfl rfl (by omega) (by first | rfl | assumption) ?_
    refine wp_aload_n (t := 35) rfl rfl ?_
    refine wp_getR (t := 36) (ji := 0) rfl fX3_27 rfl rfl (by omega) (by first | rfl | assumption) (by first | exact hW _ _ _ (by omega) rfl | assumption) ?_
    refine wp_getR (t := 37) (ji := 6) rfl fX3_73 rfl rfl (by omega) (by first | rfl | assumption) (by first | exact hW _ _ _ (by omega) rfl | assumption) ?_
    refine wp_iload_n (t := 38) rfl rfl ?_
    refine wp_iaload (t := 39) rfl (by omega) (by first | rfl | assumption) (by omega) (by omega) (by decide) ?_
    refine wp_isub (t := 40) rfl ?_
    refine wp_iload (t := 41) rfl rfl ?_
    refine wp_iload (t := 42) rfl rfl ?_
    refine wp_vi (ci := 3) (c_X3_firstOver (d := d + 1) (most := sP (cS I5 p) - sD (cS I5 p) c) hp hW hn hch hpl (Or.inr rfl) (by show zin (I5 34 1 - I5 37 c); unfold zin; omega) ⟨by omega, by omega⟩ ⟨by omega, by omega⟩) (t := 43) rfl kX3_82 rfl rfl (by omega) (by first | rfl | assumption) ⟨_, _, rfl⟩ (Nat.le_of_ble_eq_true rfl) ⟨Nat.le_refl _, Nat.le_refl _⟩ (fun r102 I102 R102 c102 => ?_)
    refine wp_canon (fun hI2 => ?_)
    obtain ⟨rfl, rfl, rfl⟩ := c102
    refine wp_ireturn (t := 44) rfl rfl ?_
    refine ⟨_, rfl, ?_, rfl, rfl⟩
    unfold sTold
    first | rw [if_pos (by omega)] | rw [if_neg (by omega), if_pos (by omega)] | rw [if_neg (by omega), if_neg (by omega), if_pos (by omega)] | rw [if_neg (by omega), if_neg (by omega), if_neg (by omega), if_pos (by omega)] | rw [if_neg (by omega), if_neg (by omega), if_neg (by omega), if_neg (by omega)]
  · refine wp_tout (t := 8) (tgt := 106) rfl z12 h12 (by decide) ?_
    refine wp_bipush (t := 45) rfl (by decide) ?_
    refine wp_ireturn (t := 46) rfl rfl ?_
    refine ⟨_, rfl, ?_, rfl, rfl⟩
    unfold sTold
    first | rw [if_pos (by omega)] | rw [if_neg (by omega), if_pos (by omega)] | rw [if_neg (by omega), if_neg (by omega), if_pos (by omega)] | rw [if_neg (by omega), if_neg (by omega), if_neg (by omega), if_pos (by omega)] | rw [if_neg (by omega), if_neg (by omega), if_neg (by omega), if_neg (by omega)]
set_option maxHeartbeats 4000000 in
set_option maxRecDepth 100000 in
theorem c_X3_firstNotRefused {G : zG} {d n : Nat} {I : zMem} {R : zRef} {p : Nat} {c w y : Int} (hp : p = 64 ∨ p = 86) (hW : zWir n R) (hn : 115 ≤ n) (hch : zCh I) (hpl : zPl I p) (hc : 0 ≤ c ∧ c < I 34 2) (hw : 1 ≤ w ∧ w ≤ I 34 0) (hy : zin y) : MT G mX3_firstNotRefused (d + 3) 0 0 [zR p, zI c, zI w, zI y] n I R (zP1 (fun r I' R' => r = sSoon (cS I p) c w y ∧ I' = I ∧ R' = R)) := by
  refine MT.of (by decide +kernel) tX3_firstNotRefused_ok (Nat.le_of_ble_eq_true rfl) (fun hI0 => ?_)
  obtain ⟨hl0, hl1, hl2, hl3, hl4, hl5, hp1⟩ := zpl hp
  obtain ⟨hr0, hr1, hr2, hr3, hr4, hr5⟩ := zpr hp hW hn
  obtain ⟨f1, f2, f3, f4, f5, f6⟩ := cS_facts hch hpl
  have hco := hch.1
  have hli := hch.2.1
  have hpo := hch.2.2.1
  have hcc := hch.2.2.2.2.1 c hc.1 hc.2
  have hlo := hcc.2.2.2.2 w hw.1 hw.2
  have hT := f5 c w hc.1 hc.2 hw.1 hw.2
  have hnot : ∀ x, zin (sNot (cS I p) c x) := fun x => sNot_in (by omega)
  have hbeg : ∀ x, zin (sBeg (cS I p) c x) := fun x => sBeg_in (by omega)
  have key : ∀ (m : Nat) (i f : Int) (x7 : Option zV), -1 ≤ i → i ≤ I 34 2 → (I 34 2 - i).toNat = m → sInv (cS I p) c w y f i → -4 ≤ f ∧ f ≤ 1010000 →
      WP G mX3_firstNotRefused (d + 3) 0 0 0 0 15 [some (zR p), some (zI c), some (zI w), some (zI y), some (zI (sT (cS I p) c w)), some (zI f), some (zI i), x7] [] n I R (zP1 (fun r I' R' => r = sSoon (cS I p) c w y ∧ I' = I ∧ R' = R)) := by
    intro m
    induction m with
    | zero =>
      intro i f x7 h0 h1 hmm hs hf
      refine wp_iload (t := 9) rfl rfl ?_
      refine wp_aload_n (t := 10) rfl rfl ?_
      refine wp_getR (t := 11) (ji := 0) rfl fX3_27 rfl rfl (by omega) (by first | rfl | assumption) (by first | exact hW _ _ _ (by omega) rfl | assumption) ?_
      refine wp_getI (t := 12) (ji := 2) rfl fX3_63 rfl rfl (by omega) (by first | rfl | assumption) ?_
      refine wp_icmp_ge (t := 13) (tgt := 168) rfl (by decide) (by first | assumption | exact hI0 _ _ | exact zin_and _ _ | (unfold zin; omega) | (unfold zin at *; omega)) (by first | assumption | exact hI0 _ _ | exact zin_and _ _ | (unfold zin; omega) | (unfold zin at *; omega)) (fun h24 => ?_) (fun h24 => ?_)
      · refine wp_iload (t := 85) rfl rfl ?_
        refine wp_ireturn (t := 86) rfl rfl ?_
        refine ⟨_, rfl, sInv_end (S := cS I p) ?_ f1 (by omega) f2.1 f6, rfl, rfl⟩
        have ea : i = I 34 2 := by omega
        rw [ea] at hs
        exact hs
      · exact absurd h24 (by omega)
    | succ m ih =>
      intro i f x7 h0 h1 hmm hs hf
      have body : ∀ t7 : Int, 0 ≤ t7 → t7 ≤ 1010000 → t7 = sTj (sU (cS I p)) i → WP G mX3_firstNotRefused (d + 3) 0 0 0 0 45 [some (zR p), some (zI c), some (zI w), some (zI y), some (zI (sT (cS I p) c w)), some (zI f), some (zI i), some (zI t7)] [] n I R (zP1 (fun r I' R' => r = sSoon (cS I p) c w y ∧ I' = I ∧ R' = R)) := by
        intro t7 t0 t1 te
        have hq := sOk_iff4 (S := cS I p) (c := c) (w := w) t0
        refine wp_iload (t := 23) rfl rfl ?_
        refine wp_iload (t := 24) rfl rfl ?_
        refine wp_iadd (t := 25) rfl ?_
        refine wp_iload_n (t := 26) rfl rfl ?_
        refine wp_icmp_ge (t := 27) (tgt := 162) rfl (by decide) (by first | assumption | exact hI0 _ _ | exact zin_and _ _ | (unfold zin; omega) | (unfold zin at *; omega)) (by first | assumption | exact hI0 _ _ | exact zin_and _ _ | (unfold zin; omega) | (unfold zin at *; omega)) (fun h51 => ?_) (fun h51 => ?_)
        · refine wp_iinc (t := 83) rfl rfl (by decide) rfl ?_
          refine wp_goto (t := 84) (tgt := 15) rfl (by decide) ?_
          refine ih (i + 1) f _ (by omega) (by omega) (by omega) (sInv_keep hs ?_) hf
          rw [← te]
          first | exact Or.inl (by omega) | exact Or.inr (Or.inl ⟨by omega, by omega⟩) | exact Or.inr (Or.inr (fun g => h80 (hq.mp g).1)) | exact Or.inr (Or.inr (fun g => h95 (hq.mp g).2.1)) | exact Or.inr (Or.inr (fun g => h121 (hq.mp g).2.2.1)) | exact Or.inr (Or.inr (fun g => h155 (hq.mp g).2.2.2))
        · refine wp_iload (t := 28) rfl rfl ?_
          refine wp_bipush (t := 29) rfl (by decide) ?_
          refine wp_icmp_eq (t := 30) (tgt := 71) rfl (by decide) (by first | assumption | exact hI0 _ _ | exact zin_and _ _ | (unfold zin; omega) | (unfold zin at *; omega)) (by first | assumption | exact hI0 _ _ | exact zin_and _ _ | (unfold zin; omega) | (unfold zin at *; omega)) (fun h58 => ?_) (fun h58 => ?_)
          · refine wp_aload_n (t := 35) rfl rfl ?_
            refine wp_iload_n (t := 36) rfl rfl ?_
            refine wp_iload (t := 37) rfl rfl ?_
            refine wp_vi (ci := 3) (c_X3_notDoneAhead (d := d + 2) hp hW hn hch hpl ⟨hc.1, by omega⟩ (by unfold zin; omega)) (t := 38) rfl kX3_76 rfl rfl (by omega) (by first | rfl | assumption) ⟨_, _, rfl⟩ (Nat.le_of_ble_eq_true rfl) ⟨Nat.le_refl _, Nat.le_refl _⟩ (fun r75 I75 R75 c75 => ?_)
            refine wp_canon (fun hI1 => ?_)
            obtain ⟨rfl, rfl, rfl⟩ := c75
            refine wp_bipush (t := 39) rfl (by decide) ?_
            refine wp_icmp_ne (t := 40) (tgt := 162) rfl (by decide) (hnot _) (by first | assumption | exact hI1 _ _ | exact hI0 _ _ | exact zin_and _ _ | (unfold zin; omega) | (unfold zin at *; omega)) (fun h80 => ?_) (fun h80 => ?_)
            · refine wp_iinc (t := 83) rfl rfl (by decide) rfl ?_
              refine wp_goto (t := 84) (tgt := 15) rfl (by decide) ?_
              refine ih (i + 1) f _ (by omega) (by omega) (by omega) (sInv_keep hs ?_) hf
              rw [← te]
              first | exact Or.inl (by omega) | exact Or.inr (Or.inl ⟨by omega, by omega⟩) | exact Or.inr (Or.inr (fun g => h80 (hq.mp g).1)) | exact Or.inr (Or.inr (fun g => h95 (hq.mp g).2.1)) | exact Or.inr (Or.inr (fun g => h121 (hq.mp g).2.2.1)) | exact Or.inr (Or.inr (fun g => h155 (hq.mp g).2.2.2))
            · refine wp_aload_n (t := 41) rfl rfl ?_
              refine wp_iload_n (t := 42) rfl rfl ?_
              refine wp_iload (t := 43) rfl rfl ?_
              refine wp_iload (t := 44) rfl rfl ?_
              refine wp_iadd (t := 45) rfl ?_
              refine wp_vi (ci := 3) (c_X3_begunBehind (d := d + 2) hp hW hn hch hpl ⟨hc.1, by omega⟩ (by unfold zin; omega)) (t := 46) rfl kX3_79 rfl rfl (by omega) (by first | rfl | assumption) ⟨_, _, rfl⟩ (Nat.le_of_ble_eq_true rfl) ⟨Nat.le_refl _, Nat.le_refl _⟩ (fun r90 I90 R90 c90 => ?_)
              refine wp_canon (fun hI2 => ?_)
              obtain ⟨rfl, rfl, rfl⟩ := c90
              refine wp_bipush (t := 47) rfl (by decide) ?_
              refine wp_icmp_ne (t := 48) (tgt := 162) rfl (by decide) (hbeg _) (by first | assumption | exact hI2 _ _ | exact hI1 _ _ | exact hI0 _ _ | exact zin_and _ _ | (unfold zin; omega) | (unfold zin at *; omega)) (fun h95 => ?_) (fun h95 => ?_)
              · refine wp_iinc (t := 83) rfl rfl (by decide) rfl ?_
                refine wp_goto (t := 84) (tgt := 15) rfl (by decide) ?_
                refine ih (i + 1) f _ (by omega) (by omega) (by omega) (sInv_keep hs ?_) hf
                rw [← te]
                first | exact Or.inl (by omega) | exact Or.inr (Or.inl ⟨by omega, by omega⟩) | exact Or.inr (Or.inr (fun g => h80 (hq.mp g).1)) | exact Or.inr (Or.inr (fun g => h95 (hq.mp g).2.1)) | exact Or.inr (Or.inr (fun g => h121 (hq.mp g).2.2.1)) | exact Or.inr (Or.inr (fun g => h155 (hq.mp g).2.2.2))
              · refine wp_aload_n (t := 49) rfl rfl ?_
                refine wp_iconst (t := 50) rfl ?_
                refine wp_aload_n (t := 51) rfl rfl ?_
                refine wp_getR (t := 52) (ji := 0) rfl fX3_27 rfl rfl (by omega) (by first | rfl | assumption) (by first | exact hW _ _ _ (by omega) rfl | assumption) ?_
                refine wp_getI (t := 53) (ji := 0) rfl fX3_55 rfl rfl (by omega) (by first | rfl | assumption) ?_
                refine wp_iload_n (t := 54) rfl rfl ?_
                refine wp_isub (t := 55) rfl ?_
                refine wp_iload (t := 56) rfl rfl ?_
                refine wp_iload (t := 57) rfl rfl ?_
                refine wp_iload (t := 58) rfl rfl ?_
                refine wp_iadd (t := 59) rfl ?_
                refine wp_vi (ci := 3) (c_X3_firstOver (d := d + 1) (most := sL (cS I90 p) - w) hp hW hn hch hpl (Or.inl rfl) (by show zin (I90 34 0 - w); unfold zin; omega) ⟨by omega, by omega⟩ ⟨by omega, by omega⟩) (t := 60) rfl kX3_82 rfl rfl (by omega) (by first | rfl | assumption) ⟨_, _, rfl⟩ (Nat.le_of_ble_eq_true rfl) ⟨Nat.le_refl _, Nat.le_refl _⟩ (fun r116 I116 R116 c116 => ?_)
                refine wp_canon (fun hI3 => ?_)
                obtain ⟨rfl, rfl, rfl⟩ := c116
                refine wp_bipush (t := 61) rfl (by decide) ?_
                refine wp_icmp_ne (t := 62) (tgt := 162) rfl (by decide) (sOver_in (by omega) (by omega) (by omega)) (by first | assumption | exact hI3 _ _ | exact hI2 _ _ | exact hI1 _ _ | exact hI0 _ _ | exact zin_and _ _ | (unfold zin; omega) | (unfold zin at *; omega)) (fun h121 => ?_) (fun h121 => ?_)
                · refine wp_iinc (t := 83) rfl rfl (by decide) rfl ?_
                  refine wp_goto (t := 84) (tgt := 15) rfl (by decide) ?_
                  refine ih (i + 1) f _ (by omega) (by omega) (by omega) (sInv_keep hs ?_) hf
                  rw [← te]
                  first | exact Or.inl (by omega) | exact Or.inr (Or.inl ⟨by omega, by omega⟩) | exact Or.inr (Or.inr (fun g => h80 (hq.mp g).1)) | exact Or.inr (Or.inr (fun g => h95 (hq.mp g).2.1)) | exact Or.inr (Or.inr (fun g => h121 (hq.mp g).2.2.1)) | exact Or.inr (Or.inr (fun g => h155 (hq.mp g).2.2.2))
                · refine wp_aload_n (t := 63) rfl rfl ?_
                  refine wp_iconst (t := 64) rfl ?_
                  refine wp_aload_n (t := 65) rfl rfl ?_
                  refine wp_getR (t := 66) (ji := 0) rfl fX3_27 rfl rfl (by omega) (by first | rfl | assumption) (by first | exact hW _ _ _ (by omega) rfl | assumption) ?_
                  refine wp_getI (t := 67) (ji := 1) rfl fX3_86 rfl rfl (by omega) (by first | rfl | assumption) ?_
                  refine wp_aload_n (t := 68) rfl rfl ?_
                  refine wp_getR (t := 69) (ji := 0) rfl fX3_27 rfl rfl (by omega) (by first | rfl | assumption) (by first | exact hW _ _ _ (by omega) rfl | assumption) ?_
                  refine wp_getR (t := 70) (ji := 6) rfl fX3_73 rfl rfl (by omega) (by first | rfl | assumption) (by first | exact hW _ _ _ (by omega) rfl | assumption) ?_
                  refine wp_iload_n (t := 71) rfl rfl ?_
                  refine wp_iaload (t := 72) rfl (by omega) (by first | rfl | assumption) (by omega) (by omega) (by decide) ?_
                  refine wp_isub (t := 73) rfl ?_
                  refine wp_iload (t := 74) rfl rfl ?_
                  refine wp_iload (t := 75) rfl rfl ?_
                  refine wp_iload (t := 76) rfl rfl ?_
                  refine wp_iadd (t := 77) rfl ?_
                  refine wp_vi (ci := 3) (c_X3_firstOver (d := d + 1) (most := sP (cS I116 p) - sD (cS I116 p) c) hp hW hn hch hpl (Or.inr rfl) (by show zin (I116 34 1 - I116 37 c); unfold zin; omega) ⟨by omega, by omega⟩ ⟨by omega, by omega⟩) (t := 78) rfl kX3_82 rfl rfl (by omega) (by first | rfl | assumption) ⟨_, _, rfl⟩ (Nat.le_of_ble_eq_true rfl) ⟨Nat.le_refl _, Nat.le_refl _⟩ (fun r150 I150 R150 c150 => ?_)
                  refine wp_canon (fun hI4 => ?_)
                  obtain ⟨rfl, rfl, rfl⟩ := c150
                  refine wp_bipush (t := 79) rfl (by decide) ?_
                  refine wp_icmp_ne (t := 80) (tgt := 162) rfl (by decide) (sOver_in (by omega) (by omega) (by omega)) (by first | assumption | exact hI4 _ _ | exact hI3 _ _ | exact hI2 _ _ | exact hI1 _ _ | exact hI0 _ _ | exact zin_and _ _ | (unfold zin; omega) | (unfold zin at *; omega)) (fun h155 => ?_) (fun h155 => ?_)
                  · refine wp_iinc (t := 83) rfl rfl (by decide) rfl ?_
                    refine wp_goto (t := 84) (tgt := 15) rfl (by decide) ?_
                    refine ih (i + 1) f _ (by omega) (by omega) (by omega) (sInv_keep hs ?_) hf
                    rw [← te]
                    first | exact Or.inl (by omega) | exact Or.inr (Or.inl ⟨by omega, by omega⟩) | exact Or.inr (Or.inr (fun g => h80 (hq.mp g).1)) | exact Or.inr (Or.inr (fun g => h95 (hq.mp g).2.1)) | exact Or.inr (Or.inr (fun g => h121 (hq.mp g).2.2.1)) | exact Or.inr (Or.inr (fun g => h155 (hq.mp g).2.2.2))
                  · refine wp_iload (t := 81) rfl rfl ?_
                    refine wp_istore (t := 82) rfl (by decide) rfl ?_
                    refine wp_iinc (t := 83) rfl rfl (by decide) rfl ?_
                    refine wp_goto (t := 84) (tgt := 15) rfl (by decide) ?_
                    refine ih (i + 1) t7 _ (by omega) (by omega) (by omega) ?_ ⟨by omega, by omega⟩
                    rw [te]
                    refine sInv_new hs (by omega) (by omega) ?_ (by omega)
                    rw [← te]
                    exact hq.mpr ⟨h80, h95, h121, h155⟩
          · refine wp_iload (t := 31) rfl rfl ?_
            refine wp_iload (t := 32) rfl rfl ?_
            refine wp_icmp_lt (t := 33) (tgt := 71) rfl (by decide) (by first | assumption | exact hI0 _ _ | exact zin_and _ _ | (unfold zin; omega) | (unfold zin at *; omega)) (by first | assumption | exact hI0 _ _ | exact zin_and _ _ | (unfold zin; omega) | (unfold zin at *; omega)) (fun h65 => ?_) (fun h65 => ?_)
            · refine wp_aload_n (t := 35) rfl rfl ?_
              refine wp_iload_n (t := 36) rfl rfl ?_
              refine wp_iload (t := 37) rfl rfl ?_
              refine wp_vi (ci := 3) (c_X3_notDoneAhead (d := d + 2) hp hW hn hch hpl ⟨hc.1, by omega⟩ (by unfold zin; omega)) (t := 38) rfl kX3_76 rfl rfl (by omega) (by first | rfl | assumption) ⟨_, _, rfl⟩ (Nat.le_of_ble_eq_true rfl) ⟨Nat.le_refl _, Nat.le_refl _⟩ (fun r75 I75 R75 c75 => ?_)
              refine wp_canon (fun hI1 => ?_)
              obtain ⟨rfl, rfl, rfl⟩ := c75
              refine wp_bipush (t := 39) rfl (by decide) ?_
              refine wp_icmp_ne (t := 40) (tgt := 162) rfl (by decide) (hnot _) (by first | assumption | exact hI1 _ _ | exact hI0 _ _ | exact zin_and _ _ | (unfold zin; omega) | (unfold zin at *; omega)) (fun h80 => ?_) (fun h80 => ?_)
              · refine wp_iinc (t := 83) rfl rfl (by decide) rfl ?_
                refine wp_goto (t := 84) (tgt := 15) rfl (by decide) ?_
                refine ih (i + 1) f _ (by omega) (by omega) (by omega) (sInv_keep hs ?_) hf
                rw [← te]
                first | exact Or.inl (by omega) | exact Or.inr (Or.inl ⟨by omega, by omega⟩) | exact Or.inr (Or.inr (fun g => h80 (hq.mp g).1)) | exact Or.inr (Or.inr (fun g => h95 (hq.mp g).2.1)) | exact Or.inr (Or.inr (fun g => h121 (hq.mp g).2.2.1)) | exact Or.inr (Or.inr (fun g => h155 (hq.mp g).2.2.2))
              · refine wp_aload_n (t := 41) rfl rfl ?_
                refine wp_iload_n (t := 42) rfl rfl ?_
                refine wp_iload (t := 43) rfl rfl ?_
                refine wp_iload (t := 44) rfl rfl ?_
                refine wp_iadd (t := 45) rfl ?_
                refine wp_vi (ci := 3) (c_X3_begunBehind (d := d + 2) hp hW hn hch hpl ⟨hc.1, by omega⟩ (by unfold zin; omega)) (t := 46) rfl kX3_79 rfl rfl (by omega) (by first | rfl | assumption) ⟨_, _, rfl⟩ (Nat.le_of_ble_eq_true rfl) ⟨Nat.le_refl _, Nat.le_refl _⟩ (fun r90 I90 R90 c90 => ?_)
                refine wp_canon (fun hI2 => ?_)
                obtain ⟨rfl, rfl, rfl⟩ := c90
                refine wp_bipush (t := 47) rfl (by decide) ?_
                refine wp_icmp_ne (t := 48) (tgt := 162) rfl (by decide) (hbeg _) (by first | assumption | exact hI2 _ _ | exact hI1 _ _ | exact hI0 _ _ | exact zin_and _ _ | (unfold zin; omega) | (unfold zin at *; omega)) (fun h95 => ?_) (fun h95 => ?_)
                · refine wp_iinc (t := 83) rfl rfl (by decide) rfl ?_
                  refine wp_goto (t := 84) (tgt := 15) rfl (by decide) ?_
                  refine ih (i + 1) f _ (by omega) (by omega) (by omega) (sInv_keep hs ?_) hf
                  rw [← te]
                  first | exact Or.inl (by omega) | exact Or.inr (Or.inl ⟨by omega, by omega⟩) | exact Or.inr (Or.inr (fun g => h80 (hq.mp g).1)) | exact Or.inr (Or.inr (fun g => h95 (hq.mp g).2.1)) | exact Or.inr (Or.inr (fun g => h121 (hq.mp g).2.2.1)) | exact Or.inr (Or.inr (fun g => h155 (hq.mp g).2.2.2))
                · refine wp_aload_n (t := 49) rfl rfl ?_
                  refine wp_iconst (t := 50) rfl ?_
                  refine wp_aload_n (t := 51) rfl rfl ?_
                  refine wp_getR (t := 52) (ji := 0) rfl fX3_27 rfl rfl (by omega) (by first | rfl | assumption) (by first | exact hW _ _ _ (by omega) rfl | assumption) ?_
                  refine wp_getI (t := 53) (ji := 0) rfl fX3_55 rfl rfl (by omega) (by first | rfl | assumption) ?_
                  refine wp_iload_n (t := 54) rfl rfl ?_
                  refine wp_isub (t := 55) rfl ?_
                  refine wp_iload (t := 56) rfl rfl ?_
                  refine wp_iload (t := 57) rfl rfl ?_
                  refine wp_iload (t := 58) rfl rfl ?_
                  refine wp_iadd (t := 59) rfl ?_
                  refine wp_vi (ci := 3) (c_X3_firstOver (d := d + 1) (most := sL (cS I90 p) - w) hp hW hn hch hpl (Or.inl rfl) (by show zin (I90 34 0 - w); unfold zin; omega) ⟨by omega, by omega⟩ ⟨by omega, by omega⟩) (t := 60) rfl kX3_82 rfl rfl (by omega) (by first | rfl | assumption) ⟨_, _, rfl⟩ (Nat.le_of_ble_eq_true rfl) ⟨Nat.le_refl _, Nat.le_refl _⟩ (fun r116 I116 R116 c116 => ?_)
                  refine wp_canon (fun hI3 => ?_)
                  obtain ⟨rfl, rfl, rfl⟩ := c116
                  refine wp_bipush (t := 61) rfl (by decide) ?_
                  refine wp_icmp_ne (t := 62) (tgt := 162) rfl (by decide) (sOver_in (by omega) (by omega) (by omega)) (by first | assumption | exact hI3 _ _ | exact hI2 _ _ | exact hI1 _ _ | exact hI0 _ _ | exact zin_and _ _ | (unfold zin; omega) | (unfold zin at *; omega)) (fun h121 => ?_) (fun h121 => ?_)
                  · refine wp_iinc (t := 83) rfl rfl (by decide) rfl ?_
                    refine wp_goto (t := 84) (tgt := 15) rfl (by decide) ?_
                    refine ih (i + 1) f _ (by omega) (by omega) (by omega) (sInv_keep hs ?_) hf
                    rw [← te]
                    first | exact Or.inl (by omega) | exact Or.inr (Or.inl ⟨by omega, by omega⟩) | exact Or.inr (Or.inr (fun g => h80 (hq.mp g).1)) | exact Or.inr (Or.inr (fun g => h95 (hq.mp g).2.1)) | exact Or.inr (Or.inr (fun g => h121 (hq.mp g).2.2.1)) | exact Or.inr (Or.inr (fun g => h155 (hq.mp g).2.2.2))
                  · refine wp_aload_n (t := 63) rfl rfl ?_
                    refine wp_iconst (t := 64) rfl ?_
                    refine wp_aload_n (t := 65) rfl rfl ?_
                    refine wp_getR (t := 66) (ji := 0) rfl fX3_27 rfl rfl (by omega) (by first | rfl | assumption) (by first | exact hW _ _ _ (by omega) rfl | assumption) ?_
                    refine wp_getI (t := 67) (ji := 1) rfl fX3_86 rfl rfl (by omega) (by first | rfl | assumption) ?_
                    refine wp_aload_n (t := 68) rfl rfl ?_
                    refine wp_getR (t := 69) (ji := 0) rfl fX3_27 rfl rfl (by omega) (by first | rfl | assumption) (by first | exact hW _ _ _ (by omega) rfl | assumption) ?_
                    refine wp_getR (t := 70) (ji := 6) rfl fX3_73 rfl rfl (by omega) (by first | rfl | assumption) (by first | exact hW _ _ _ (by omega) rfl | assumption) ?_
                    refine wp_iload_n (t := 71) rfl rfl ?_
                    refine wp_iaload (t := 72) rfl (by omega) (by first | rfl | assumption) (by omega) (by omega) (by decide) ?_
                    refine wp_isub (t := 73) rfl ?_
                    refine wp_iload (t := 74) rfl rfl ?_
                    refine wp_iload (t := 75) rfl rfl ?_
                    refine wp_iload (t := 76) rfl rfl ?_
                    refine wp_iadd (t := 77) rfl ?_
                    refine wp_vi (ci := 3) (c_X3_firstOver (d := d + 1) (most := sP (cS I116 p) - sD (cS I116 p) c) hp hW hn hch hpl (Or.inr rfl) (by show zin (I116 34 1 - I116 37 c); unfold zin; omega) ⟨by omega, by omega⟩ ⟨by omega, by omega⟩) (t := 78) rfl kX3_82 rfl rfl (by omega) (by first | rfl | assumption) ⟨_, _, rfl⟩ (Nat.le_of_ble_eq_true rfl) ⟨Nat.le_refl _, Nat.le_refl _⟩ (fun r150 I150 R150 c150 => ?_)
                    refine wp_canon (fun hI4 => ?_)
                    obtain ⟨rfl, rfl, rfl⟩ := c150
                    refine wp_bipush (t := 79) rfl (by decide) ?_
                    refine wp_icmp_ne (t := 80) (tgt := 162) rfl (by decide) (sOver_in (by omega) (by omega) (by omega)) (by first | assumption | exact hI4 _ _ | exact hI3 _ _ | exact hI2 _ _ | exact hI1 _ _ | exact hI0 _ _ | exact zin_and _ _ | (unfold zin; omega) | (unfold zin at *; omega)) (fun h155 => ?_) (fun h155 => ?_)
                    · refine wp_iinc (t := 83) rfl rfl (by decide) rfl ?_
                      refine wp_goto (t := 84) (tgt := 15) rfl (by decide) ?_
                      refine ih (i + 1) f _ (by omega) (by omega) (by omega) (sInv_keep hs ?_) hf
                      rw [← te]
                      first | exact Or.inl (by omega) | exact Or.inr (Or.inl ⟨by omega, by omega⟩) | exact Or.inr (Or.inr (fun g => h80 (hq.mp g).1)) | exact Or.inr (Or.inr (fun g => h95 (hq.mp g).2.1)) | exact Or.inr (Or.inr (fun g => h121 (hq.mp g).2.2.1)) | exact Or.inr (Or.inr (fun g => h155 (hq.mp g).2.2.2))
                    · refine wp_iload (t := 81) rfl rfl ?_
                      refine wp_istore (t := 82) rfl (by decide) rfl ?_
                      refine wp_iinc (t := 83) rfl rfl (by decide) rfl ?_
                      refine wp_goto (t := 84) (tgt := 15) rfl (by decide) ?_
                      refine ih (i + 1) t7 _ (by omega) (by omega) (by omega) ?_ ⟨by omega, by omega⟩
                      rw [te]
                      refine sInv_new hs (by omega) (by omega) ?_ (by omega)
                      rw [← te]
                      exact hq.mpr ⟨h80, h95, h121, h155⟩
            · refine wp_goto (t := 34) (tgt := 162) rfl (by decide) ?_
              refine wp_iinc (t := 83) rfl rfl (by decide) rfl ?_
              refine wp_goto (t := 84) (tgt := 15) rfl (by decide) ?_
              refine ih (i + 1) f _ (by omega) (by omega) (by omega) (sInv_keep hs ?_) hf
              rw [← te]
              first | exact Or.inl (by omega) | exact Or.inr (Or.inl ⟨by omega, by omega⟩) | exact Or.inr (Or.inr (fun g => h80 (hq.mp g).1)) | exact Or.inr (Or.inr (fun g => h95 (hq.mp g).2.1)) | exact Or.inr (Or.inr (fun g => h121 (hq.mp g).2.2.1)) | exact Or.inr (Or.inr (fun g => h155 (hq.mp g).2.2.2))
      refine wp_iload (t := 9) rfl rfl ?_
      refine wp_aload_n (t := 10) rfl rfl ?_
      refine wp_getR (t := 11) (ji := 0) rfl fX3_27 rfl rfl (by omega) (by first | rfl | assumption) (by first | exact hW _ _ _ (by omega) rfl | assumption) ?_
      refine wp_getI (t := 12) (ji := 2) rfl fX3_63 rfl rfl (by omega) (by first | rfl | assumption) ?_
      refine wp_icmp_ge (t := 13) (tgt := 168) rfl (by decide) (by first | assumption | exact hI0 _ _ | exact zin_and _ _ | (unfold zin; omega) | (unfold zin at *; omega)) (by first | assumption | exact hI0 _ _ | exact zin_and _ _ | (unfold zin; omega) | (unfold zin at *; omega)) (fun h24 => ?_) (fun h24 => ?_)
      · exact absurd h24 (by omega)
      · refine wp_iload (t := 14) rfl rfl ?_
        refine wp_if_ge (t := 15) (tgt := 36) rfl (by decide) (by first | assumption | exact hI0 _ _ | exact zin_and _ _ | (unfold zin; omega) | (unfold zin at *; omega)) (fun h29 => ?_) (fun h29 => ?_)
        · have hui := (hpl i (by omega) (by omega)).2.2.2.1
          refine wp_aload_n (t := 18) rfl rfl ?_
          refine wp_getR (t := 19) (ji := 4) rfl fX3_21 rfl rfl (by omega) (by first | rfl | assumption) (by first | exact hW _ _ _ (by omega) rfl | assumption) ?_
          refine wp_iload (t := 20) rfl rfl ?_
          refine wp_iaload (t := 21) rfl (by omega) (by first | rfl | assumption) (by omega) (by omega) (by decide) ?_
          refine wp_istore (t := 22) rfl (by decide) rfl ?_
          exact body _ hui.1 hui.2 (if_neg (by omega)).symm
        · refine wp_iconst (t := 16) rfl ?_
          refine wp_goto (t := 17) (tgt := 43) rfl (by decide) ?_
          refine wp_istore (t := 22) rfl (by decide) rfl ?_
          exact body _ (by omega) (by omega) (if_pos (by omega)).symm
  refine wp_ls (ls' := [some (zR p), some (zI c), some (zI w), some (zI y), none, none, none, none]) rfl ?_
  refine wp_aload_n (t := 0) rfl rfl ?_
  refine wp_iload_n (t := 1) rfl rfl ?_
  refine wp_iload_n (t := 2) rfl rfl ?_
  refine wp_vi (ci := 3) (c_X3_takes hp hW hn ⟨hc.1, by omega⟩ ⟨by omega, by omega⟩ ⟨by omega, by omega⟩ ⟨by omega, by omega⟩) (t := 3) rfl kX3_47 rfl rfl (by omega) (by first | rfl | assumption) ⟨_, _, rfl⟩ (Nat.le_of_ble_eq_true rfl) ⟨Nat.le_refl _, Nat.le_refl _⟩ (fun r3 I3 R3 c3 => ?_)
  refine wp_canon (fun hI1 => ?_)
  obtain ⟨rfl, rfl, rfl⟩ := c3
  refine wp_istore (t := 4) rfl (by decide) rfl ?_
  refine wp_bipush (t := 5) rfl (by decide) ?_
  refine wp_istore (t := 6) rfl (by decide) rfl ?_
  refine wp_iconst (t := 7) rfl ?_
  refine wp_istore (t := 8) rfl (by decide) rfl ?_
  exact key _ (-1) (-4) _ (by omega) (by omega) rfl (Or.inl ⟨rfl, fun j j0 j1 => absurd j1 (by omega)⟩) (by omega)
end
section
set_option maxHeartbeats 4000000 in
set_option maxRecDepth 100000 in
theorem c_X3_placeDoneFirst {G : zG} {d n : Nat} {I : zMem} {R : zRef} {p : Nat} {c y : Int} (hp : p = 64 ∨ p = 86) (hW : zWir n R) (hn : 115 ≤ n) (hch : zCh I) (hpl : zPl I p) (hc : 0 ≤ c ∧ c < I 34 2) (hy : 0 ≤ y ∧ y ≤ 2000000) : MT G mX3_placeDoneFirst (d + 4) 0 0 [zR p, zI c, zI y] n I R (zP1 (fun r I' R' => (((r = 0 ∧ (sFl (cS I p) c y (I 34 0).toNat).1 = 0 ∧ I' = I) ∨ (r = 1 ∧ (sFl (cS I p) c y (I 34 0).toNat).1 ≠ 0 ∧ I' = zput I p c (sFl (cS I p) c y (I 34 0).toNat).1 (sFl (cS I p) c y (I 34 0).toNat).2.1))) ∧ R' = R)) := by
  refine MT.of (by decide +kernel) tX3_placeDoneFirst_ok (Nat.le_of_ble_eq_true rfl) (fun hI0 => ?_)
  obtain ⟨hl0, hl1, hl2, hl3, hl4, hl5, hp1⟩ := zpl hp
  obtain ⟨hr0, hr1, hr2, hr3, hr4, hr5⟩ := zpr hp hW hn
  obtain ⟨f1, f2, f3, f4, f5, f6⟩ := cS_facts hch hpl
  have hco := hch.1
  have hli := hch.2.1
  have hcc := hch.2.2.2.2.1 c hc.1 hc.2
  have hM : ∀ n : Nat, n ≤ (I 34 0).toNat → (sFl (cS I p) c y n).2.1 ≤ 1010000 := fun n hn9 => sFl_le f1 (by omega) (fun a a0 a1 a2 => (hpl a a0 a1).2.2.2.1.2) n (fun w g0 g1 => by
    have := f5 c w hc.1 hc.2 g0 (by show w ≤ I 34 0; omega)
    omega)
  have key : ∀ (m : Nat) (w le : Int) (z : Int × Int × Int) (x8 x9 : Option zV), 1 ≤ w → w ≤ I 34 0 + 1 → (I 34 0 + 1 - w).toNat = m → z = sFl (cS I p) c y (w - 1).toNat → (∀ w' : Int, 1 ≤ w' → w' < w → le ≤ sT (cS I p) c w') → zAtt (cS I p) c w le →
      WP G mX3_placeDoneFirst (d + 4) 0 0 0 0 15 [some (zR p), some (zI c), some (zI y), some (zI z.1), some (zI z.2.1), some (zI z.2.2), some (zI le), some (zI w), x8, x9] [] n I R (zP1 (fun r I' R' => (((r = 0 ∧ (sFl (cS I p) c y (I 34 0).toNat).1 = 0 ∧ I' = I) ∨ (r = 1 ∧ (sFl (cS I p) c y (I 34 0).toNat).1 ≠ 0 ∧ I' = zput I p c (sFl (cS I p) c y (I 34 0).toNat).1 (sFl (cS I p) c y (I 34 0).toNat).2.1))) ∧ R' = R)) := by
    intro m
    induction m with
    | zero =>
      intro w le z x8 x9 h0 h1 hmm hz g1 g2
      have hz' : z = sFl (cS I p) c y (I 34 0).toNat := by rw [hz, show w - 1 = I 34 0 by omega]
      have sp := sFl_spec (S := cS I p) (c := c) (y := y) (I 34 0).toNat
      have hm9 := hM _ (Nat.le_refl _)
      rw [← hz'] at sp hm9 ⊢
      have zb : 0 ≤ z.1 ∧ z.1 ≤ 8 := by
        rcases sp.2.2 with q | q <;> omega
      refine wp_iload (t := 10) rfl rfl ?_
      refine wp_aload_n (t := 11) rfl rfl ?_
      refine wp_getR (t := 12) (ji := 0) rfl fX3_27 rfl rfl (by omega) (by first | rfl | assumption) (by first | exact hW _ _ _ (by omega) rfl | assumption) ?_
      refine wp_getI (t := 13) (ji := 0) rfl fX3_55 rfl rfl (by omega) (by first | rfl | assumption) ?_
      refine wp_icmp_gt (t := 14) (tgt := 88) rfl (by decide) (by first | assumption | exact hI0 _ _ | exact zin_and _ _ | (unfold zin; omega) | (unfold zin at *; omega)) (by first | assumption | exact hI0 _ _ | exact zin_and _ _ | (unfold zin; omega) | (unfold zin at *; omega)) (fun h24 => ?_) (fun h24 => ?_)
      · refine wp_iload_n (t := 45) rfl rfl ?_
        refine wp_if_ne (t := 46) (tgt := 94) rfl (by decide) (by first | assumption | exact hI0 _ _ | exact zin_and _ _ | (unfold zin; omega) | (unfold zin at *; omega)) (fun h89 => ?_) (fun h89 => ?_)
        · have sq : 1 ≤ z.1 ∧ z.1 ≤ I 34 0 ∧ 0 ≤ z.2.1 := by rcases sp.2.2 with q | q <;> omega
          have hlo := hcc.2.2.2.2 z.1 sq.1 sq.2.1
          refine wp_aload_n (t := 49) rfl rfl ?_
          refine wp_iload_n (t := 50) rfl rfl ?_
          refine wp_iload_n (t := 51) rfl rfl ?_
          refine wp_iload (t := 52) rfl rfl ?_
          refine wp_vv (ci := 3) (c_X3_place hp hW hn ⟨hc.1, by omega⟩ ⟨by omega, by omega⟩ hcc.1 hlo ⟨by omega, hm9⟩) (t := 53) rfl kX3_95 rfl rfl (by omega) (by first | rfl | assumption) ⟨_, _, rfl⟩ (Nat.le_of_ble_eq_true rfl) ⟨Nat.le_refl _, Nat.le_refl _⟩ (fun I99 R99 c99 => ?_)
          refine wp_canon (fun hI1 => ?_)
          obtain ⟨rfl, rfl⟩ := c99
          refine wp_iconst (t := 54) rfl ?_
          refine wp_zreturn (t := 55) rfl rfl (by omega) ?_
          exact ⟨_, rfl, Or.inr ⟨rfl, by omega, rfl⟩, rfl⟩
        · refine wp_iconst (t := 47) rfl ?_
          refine wp_zreturn (t := 48) rfl rfl (by omega) ?_
          exact ⟨_, rfl, Or.inl ⟨rfl, by omega, rfl⟩, rfl⟩
      · exact absurd h24 (by omega)
    | succ m ih =>
      intro w le z x8 x9 h0 h1 hmm hz g1 g2
      have hT := f5 c w hc.1 hc.2 h0 (by show w ≤ I 34 0; omega)
      have hlo := hcc.2.2.2.2 w h0 (by omega)
      have sp := sFl_spec (S := cS I p) (c := c) (y := y) (w - 1).toNat
      rw [← hz] at sp
      have zb : 0 ≤ z.2.2 ∧ z.2.2 ≤ 2000000 := by
        rcases sp.2.2 with q | q
        · omega
        · have := f5 c z.1 hc.1 hc.2 (by omega) (by show z.1 ≤ I 34 0; omega)
          omega
      have sle := sSoon_le (S := cS I p) (c := c) (w := w) (y := z.2.2) (M := 1010000) f1 (by omega) (by omega) (fun a a0 a1 a2 => (hpl a a0 a1).2.2.2.1.2)
      have sge : -4 ≤ sSoon (cS I p) c w z.2.2 := by
        rcases sSoon_spec (S := cS I p) (c := c) (w := w) (y := z.2.2) with q | q <;> omega
      have hs := sFl_succ (S := cS I p) (c := c) (y := y) h0
      rw [← hz] at hs
      have eww : (w + 1 - 1).toNat = w.toNat := by rw [show w + 1 - 1 = w by omega]
      have leb : 2 ≤ le ∧ le ≤ 1000000 := by
        rcases g2 with q | ⟨w', q0, q1, q2⟩
        · omega
        · have := f5 c w' hc.1 hc.2 q0 (by show w' ≤ I 34 0; omega)
          omega
      refine wp_iload (t := 10) rfl rfl ?_
      refine wp_aload_n (t := 11) rfl rfl ?_
      refine wp_getR (t := 12) (ji := 0) rfl fX3_27 rfl rfl (by omega) (by first | rfl | assumption) (by first | exact hW _ _ _ (by omega) rfl | assumption) ?_
      refine wp_getI (t := 13) (ji := 0) rfl fX3_55 rfl rfl (by omega) (by first | rfl | assumption) ?_
      refine wp_icmp_gt (t := 14) (tgt := 88) rfl (by decide) (by first | assumption | exact hI0 _ _ | exact zin_and _ _ | (unfold zin; omega) | (unfold zin at *; omega)) (by first | assumption | exact hI0 _ _ | exact zin_and _ _ | (unfold zin; omega) | (unfold zin at *; omega)) (fun h24 => ?_) (fun h24 => ?_)
      · exact absurd h24 (by omega)
      · refine wp_aload_n (t := 15) rfl rfl ?_
        refine wp_iload_n (t := 16) rfl rfl ?_
        refine wp_iload (t := 17) rfl rfl ?_
        refine wp_vi (ci := 3) (c_X3_takes (d := d + 1) hp hW hn ⟨hc.1, by omega⟩ ⟨by omega, by omega⟩ ⟨by omega, by omega⟩ ⟨by omega, by omega⟩) (t := 18) rfl kX3_47 rfl rfl (by omega) (by first | rfl | assumption) ⟨_, _, rfl⟩ (Nat.le_of_ble_eq_true rfl) ⟨Nat.le_refl _, Nat.le_refl _⟩ (fun r31 I31 R31 c31 => ?_)
        refine wp_canon (fun hI1 => ?_)
        obtain ⟨rfl, rfl, rfl⟩ := c31
        refine wp_istore (t := 19) rfl (by decide) rfl ?_
        refine wp_iload (t := 20) rfl rfl ?_
        refine wp_iload (t := 21) rfl rfl ?_
        refine wp_icmp_lt (t := 22) (tgt := 46) rfl (by decide) (by first | assumption | exact hI1 _ _ | exact hI0 _ _ | exact zin_and _ _ | (unfold zin; omega) | (unfold zin at *; omega)) (by first | assumption | exact hI1 _ _ | exact hI0 _ _ | exact zin_and _ _ | (unfold zin; omega) | (unfold zin at *; omega)) (fun h40 => ?_) (fun h40 => ?_)
        · refine wp_iload (t := 24) rfl rfl ?_
          refine wp_istore (t := 25) rfl (by decide) rfl ?_
          refine wp_aload_n (t := 26) rfl rfl ?_
          refine wp_iload_n (t := 27) rfl rfl ?_
          refine wp_iload (t := 28) rfl rfl ?_
          refine wp_iload (t := 29) rfl rfl ?_
          refine wp_vi (ci := 3) (c_X3_firstNotRefused hp hW hn hch hpl hc ⟨h0, by omega⟩ (by unfold zin; omega)) (t := 30) rfl kX3_92 rfl rfl (by omega) (by first | rfl | assumption) ⟨_, _, rfl⟩ (Nat.le_of_ble_eq_true rfl) ⟨Nat.le_refl _, Nat.le_refl _⟩ (fun r56 I56 R56 c56 => ?_)
          refine wp_canon (fun hI2 => ?_)
          obtain ⟨rfl, rfl, rfl⟩ := c56
          refine wp_istore (t := 31) rfl (by decide) rfl ?_
          refine wp_iload (t := 32) rfl rfl ?_
          refine wp_bipush (t := 33) rfl (by decide) ?_
          refine wp_icmp_eq (t := 34) (tgt := 82) rfl (by decide) (by first | assumption | exact hI2 _ _ | exact hI1 _ _ | exact hI0 _ _ | exact zin_and _ _ | (unfold zin; omega) | (unfold zin at *; omega)) (by first | assumption | exact hI2 _ _ | exact hI1 _ _ | exact hI0 _ _ | exact zin_and _ _ | (unfold zin; omega) | (unfold zin at *; omega)) (fun h65 => ?_) (fun h65 => ?_)
          · refine wp_iinc (t := 43) rfl rfl (by decide) rfl ?_
            refine wp_goto (t := 44) (tgt := 15) rfl (by decide) ?_
            exact ih (w + 1) _ z _ _ (by omega) (by omega) (by omega) (by rw [eww, hs, if_neg (by omega)]) (fun w' q0 q1 => by
                by_cases e : w' = w
                · rw [e]; exact Int.le_refl _
                · have := g1 w' q0 (by omega)
                  omega) (Or.inr ⟨w, h0, by omega, rfl⟩)
          · refine wp_iload (t := 35) rfl rfl ?_
            refine wp_istore_n (t := 36) rfl (by decide) rfl ?_
            refine wp_iload (t := 37) rfl rfl ?_
            refine wp_istore (t := 38) rfl (by decide) rfl ?_
            refine wp_iload (t := 39) rfl rfl ?_
            refine wp_iload (t := 40) rfl rfl ?_
            refine wp_iadd (t := 41) rfl ?_
            refine wp_istore (t := 42) rfl (by decide) rfl ?_
            refine wp_iinc (t := 43) rfl rfl (by decide) rfl ?_
            refine wp_goto (t := 44) (tgt := 15) rfl (by decide) ?_
            exact ih (w + 1) _ (w, sSoon (cS I56 p) c w z.2.2, sSoon (cS I56 p) c w z.2.2 + sT (cS I56 p) c w) _ _ (by omega) (by omega) (by omega) (by rw [eww, hs, if_pos h65]) (fun w' q0 q1 => by
                by_cases e : w' = w
                · rw [e]; exact Int.le_refl _
                · have := g1 w' q0 (by omega)
                  omega) (Or.inr ⟨w, h0, by omega, rfl⟩)
        · refine wp_goto (t := 23) (tgt := 82) rfl (by decide) ?_
          refine wp_iinc (t := 43) rfl rfl (by decide) rfl ?_
          refine wp_goto (t := 44) (tgt := 15) rfl (by decide) ?_
          have sk2 := sFl_skip (S := cS I31 p) (c := c) (y := y) (w := w) (n := (w - 1).toNat) (by
            rcases g2 with q | ⟨w', q0, q1, q2⟩
            · omega
            · exact ⟨w', q0, by omega, by omega, by omega⟩)
          rw [← hz] at sk2
          exact ih (w + 1) _ z _ _ (by omega) (by omega) (by omega) (by rw [eww, hs, if_neg (by omega)]) (fun w' q0 q1 => by
              by_cases e : w' = w
              · rw [e]; omega
              · exact g1 w' q0 (by omega)) (Or.inr (by
              rcases g2 with q | ⟨w', q0, q1, q2⟩
              · omega
              · exact ⟨w', q0, by omega, q2⟩))
  refine wp_ls (ls' := [some (zR p), some (zI c), some (zI y), none, none, none, none, none, none, none]) rfl ?_
  refine wp_iconst (t := 0) rfl ?_
  refine wp_istore_n (t := 1) rfl (by decide) rfl ?_
  refine wp_iconst (t := 2) rfl ?_
  refine wp_istore (t := 3) rfl (by decide) rfl ?_
  refine wp_iload_n (t := 4) rfl rfl ?_
  refine wp_istore (t := 5) rfl (by decide) rfl ?_
  refine wp_ldc (1000000) (t := 6) rfl (wsL_law_r20_l (List.mem_of_getElem? (i := 7) rfl)) (by decide) ?_
  refine wp_istore (t := 7) rfl (by decide) rfl ?_
  refine wp_iconst (t := 8) rfl ?_
  refine wp_istore (t := 9) rfl (by decide) rfl ?_
  exact key _ 1 1000000 (0, 0, y) _ _ (by omega) (by omega) rfl rfl (fun w' q0 q1 => absurd q1 (by omega)) (Or.inl ⟨rfl, rfl⟩)
set_option maxHeartbeats 4000000 in
set_option maxRecDepth 100000 in
theorem c_X3_length {G : zG} {d n : Nat} {I : zMem} {R : zRef} {p : Nat} (hp : p = 64 ∨ p = 86) (hW : zWir n R) (hn : 115 ≤ n) (hco : 0 ≤ I 34 2 ∧ I 34 2 ≤ 6) (hu : ∀ c : Int, 0 ≤ c → c < I 34 2 → 0 ≤ I (p + 4) c ∧ I (p + 4) c ≤ 1010000) : MT G mX3_length (d + 1) 0 0 [zR p] n I R (zP1 (fun r I' R' => r = sLen (cS I p) (I 34 2).toNat ∧ I' = I ∧ R' = R)) := by
  refine MT.of (by decide +kernel) tX3_length_ok (Nat.le_of_ble_eq_true rfl) (fun hI0 => ?_)
  obtain ⟨hl0, hl1, hl2, hl3, hl4, hl5, hp1⟩ := zpl hp
  obtain ⟨hr0, hr1, hr2, hr3, hr4, hr5⟩ := zpr hp hW hn
  have key : ∀ (m : Nat) (c s : Int), 0 ≤ c → c ≤ I 34 2 → (I 34 2 - c).toNat = m → s = sLen (cS I p) c.toNat → 0 ≤ s ∧ s ≤ 1010000 → WP G mX3_length (d + 1) 0 0 0 0 4 [some (zR p), some (zI s), some (zI c)] [] n I R (zP1 (fun r I' R' => r = sLen (cS I p) (I 34 2).toNat ∧ I' = I ∧ R' = R)) := by
    intro m
    induction m with
    | zero =>
      intro c s h0 h1 hm hs hb
      refine wp_iload_n (t := 4) rfl rfl ?_
      refine wp_aload_n (t := 5) rfl rfl ?_
      refine wp_getR (t := 6) (ji := 0) rfl fX3_27 rfl rfl (by omega) (by first | rfl | assumption) (by first | exact hW _ _ _ (by omega) rfl | assumption) ?_
      refine wp_getI (t := 7) (ji := 2) rfl fX3_63 rfl rfl (by omega) (by first | rfl | assumption) ?_
      refine wp_icmp_ge (t := 8) (tgt := 40) rfl (by decide) (by first | assumption | exact hI0 _ _ | exact zin_and _ _ | (unfold zin; omega) | (unfold zin at *; omega)) (by first | assumption | exact hI0 _ _ | exact zin_and _ _ | (unfold zin; omega) | (unfold zin at *; omega)) (fun h12 => ?_) (fun h12 => ?_)
      · refine wp_iload_n (t := 22) rfl rfl ?_
        refine wp_ireturn (t := 23) rfl rfl ?_
        exact ⟨_, rfl, by rw [hs, show c = I 34 2 by omega], rfl, rfl⟩
      · exact absurd h12 (by omega)
    | succ m ih =>
      intro c s h0 h1 hm hs hb
      have huc := hu c h0 (by omega)
      refine wp_iload_n (t := 4) rfl rfl ?_
      refine wp_aload_n (t := 5) rfl rfl ?_
      refine wp_getR (t := 6) (ji := 0) rfl fX3_27 rfl rfl (by omega) (by first | rfl | assumption) (by first | exact hW _ _ _ (by omega) rfl | assumption) ?_
      refine wp_getI (t := 7) (ji := 2) rfl fX3_63 rfl rfl (by omega) (by first | rfl | assumption) ?_
      refine wp_icmp_ge (t := 8) (tgt := 40) rfl (by decide) (by first | assumption | exact hI0 _ _ | exact zin_and _ _ | (unfold zin; omega) | (unfold zin at *; omega)) (by first | assumption | exact hI0 _ _ | exact zin_and _ _ | (unfold zin; omega) | (unfold zin at *; omega)) (fun h12 => ?_) (fun h12 => ?_)
      · exact absurd h12 (by omega)
      · refine wp_aload_n (t := 9) rfl rfl ?_
        refine wp_iload_n (t := 10) rfl rfl ?_
        refine wp_vi (ci := 3) (c_X3_isPut (d := d) hp hW hn ⟨h0, by omega⟩) (t := 11) rfl kX3_66 rfl rfl (by omega) (by first | rfl | assumption) ⟨_, _, rfl⟩ (Nat.le_of_ble_eq_true rfl) ⟨Nat.le_refl _, Nat.le_refl _⟩ (fun r17 I17 R17 c17 => ?_)
        refine wp_canon (fun hI1 => ?_)
        obtain ⟨e17, rfl, rfl⟩ := c17
        refine wp_if_eq (t := 12) (tgt := 34) rfl (by decide) (by rw [e17]; unfold zin; split <;> omega) (fun h20 => ?_) (fun h20 => ?_)
        · refine wp_iinc (t := 20) rfl rfl (by decide) rfl ?_
          refine wp_goto (t := 21) (tgt := 4) rfl (by decide) ?_
          refine ih (c + 1) _ (by omega) (by omega) (by omega) ?_ hb
          rw [sLen_succ _ h0, if_neg (show ¬ 0 < sW (cS I17 p) c from fun q => by rw [if_pos (show 0 < I17 (p + 2) c from q)] at e17; omega), ← hs]
        · refine wp_iload_n (t := 13) rfl rfl ?_
          refine wp_aload_n (t := 14) rfl rfl ?_
          refine wp_getR (t := 15) (ji := 4) rfl fX3_21 rfl rfl (by omega) (by first | rfl | assumption) (by first | exact hW _ _ _ (by omega) rfl | assumption) ?_
          refine wp_iload_n (t := 16) rfl rfl ?_
          refine wp_iaload (t := 17) rfl (by omega) (by first | rfl | assumption) (by omega) (by omega) (by decide) ?_
          refine wp_max (t := 18) rfl (wsL_law_r26_l (List.mem_of_getElem? (i := 19) rfl)) (by first | assumption | exact hI1 _ _ | exact hI0 _ _ | exact zin_and _ _ | (unfold zin; omega) | (unfold zin at *; omega)) (by first | assumption | exact hI1 _ _ | exact hI0 _ _ | exact zin_and _ _ | (unfold zin; omega) | (unfold zin at *; omega)) (Nat.le_of_ble_eq_true rfl) ⟨Nat.le_refl _, Nat.le_refl _⟩ ?_
          refine wp_istore_n (t := 19) rfl (by decide) rfl ?_
          refine wp_iinc (t := 20) rfl rfl (by decide) rfl ?_
          refine wp_goto (t := 21) (tgt := 4) rfl (by decide) ?_
          refine ih (c + 1) _ (by omega) (by omega) (by omega) ?_ (by omega)
          rw [sLen_succ _ h0, if_pos (by show 0 < I17 (p + 2) c; by_cases q : 0 < I17 (p + 2) c; exact q; rw [if_neg q] at e17; omega), ← hs]
          rfl
  refine wp_ls (ls' := [some (zR p), none, none]) rfl ?_
  refine wp_iconst (t := 0) rfl ?_
  refine wp_istore_n (t := 1) rfl (by decide) rfl ?_
  refine wp_iconst (t := 2) rfl ?_
  refine wp_istore_n (t := 3) rfl (by decide) rfl ?_
  exact key _ 0 0 (by omega) (by omega) rfl rfl (by omega)
set_option maxHeartbeats 4000000 in
set_option maxRecDepth 100000 in
theorem c_X3_manyPut {G : zG} {d n : Nat} {I : zMem} {R : zRef} {p : Nat} (hp : p = 64 ∨ p = 86) (hW : zWir n R) (hn : 115 ≤ n) (hco : 0 ≤ I 34 2 ∧ I 34 2 ≤ 6) : MT G mX3_manyPut (d + 1) 0 0 [zR p] n I R (zP1 (fun r I' R' => r = zsum (fun c => if 0 < I (p + 2) c then 1 else 0) (I 34 2).toNat ∧ I' = I ∧ R' = R)) := by
  refine MT.of (by decide +kernel) tX3_manyPut_ok (Nat.le_of_ble_eq_true rfl) (fun hI0 => ?_)
  obtain ⟨hl0, hl1, hl2, hl3, hl4, hl5, hp1⟩ := zpl hp
  obtain ⟨hr0, hr1, hr2, hr3, hr4, hr5⟩ := zpr hp hW hn
  have key : ∀ (m : Nat) (c s : Int), 0 ≤ c → c ≤ I 34 2 → (I 34 2 - c).toNat = m → s = zsum (fun c => if 0 < I (p + 2) c then 1 else 0) c.toNat → WP G mX3_manyPut (d + 1) 0 0 0 0 4 [some (zR p), some (zI s), some (zI c)] [] n I R (zP1 (fun r I' R' => r = zsum (fun c => if 0 < I (p + 2) c then 1 else 0) (I 34 2).toNat ∧ I' = I ∧ R' = R)) := by
    intro m
    induction m with
    | zero =>
      intro c s h0 h1 hm hs
      refine wp_iload_n (t := 4) rfl rfl ?_
      refine wp_aload_n (t := 5) rfl rfl ?_
      refine wp_getR (t := 6) (ji := 0) rfl fX3_27 rfl rfl (by omega) (by first | rfl | assumption) (by first | exact hW _ _ _ (by omega) rfl | assumption) ?_
      refine wp_getI (t := 7) (ji := 2) rfl fX3_63 rfl rfl (by omega) (by first | rfl | assumption) ?_
      refine wp_icmp_ge (t := 8) (tgt := 32) rfl (by decide) (by first | assumption | exact hI0 _ _ | exact zin_and _ _ | (unfold zin; omega) | (unfold zin at *; omega)) (by first | assumption | exact hI0 _ _ | exact zin_and _ _ | (unfold zin; omega) | (unfold zin at *; omega)) (fun h12 => ?_) (fun h12 => ?_)
      · refine wp_iload_n (t := 16) rfl rfl ?_
        refine wp_ireturn (t := 17) rfl rfl ?_
        exact ⟨_, rfl, by rw [hs, show c = I 34 2 by omega], rfl, rfl⟩
      · exact absurd h12 (by omega)
    | succ m ih =>
      intro c s h0 h1 hm hs
      refine wp_iload_n (t := 4) rfl rfl ?_
      refine wp_aload_n (t := 5) rfl rfl ?_
      refine wp_getR (t := 6) (ji := 0) rfl fX3_27 rfl rfl (by omega) (by first | rfl | assumption) (by first | exact hW _ _ _ (by omega) rfl | assumption) ?_
      refine wp_getI (t := 7) (ji := 2) rfl fX3_63 rfl rfl (by omega) (by first | rfl | assumption) ?_
      refine wp_icmp_ge (t := 8) (tgt := 32) rfl (by decide) (by first | assumption | exact hI0 _ _ | exact zin_and _ _ | (unfold zin; omega) | (unfold zin at *; omega)) (by first | assumption | exact hI0 _ _ | exact zin_and _ _ | (unfold zin; omega) | (unfold zin at *; omega)) (fun h12 => ?_) (fun h12 => ?_)
      · exact absurd h12 (by omega)
      · refine wp_aload_n (t := 9) rfl rfl ?_
        refine wp_iload_n (t := 10) rfl rfl ?_
        refine wp_vi (ci := 3) (c_X3_isPut (d := d) hp hW hn ⟨h0, by omega⟩) (t := 11) rfl kX3_66 rfl rfl (by omega) (by first | rfl | assumption) ⟨_, _, rfl⟩ (Nat.le_of_ble_eq_true rfl) ⟨Nat.le_refl _, Nat.le_refl _⟩ (fun r17 I17 R17 c17 => ?_)
        refine wp_canon (fun hI1 => ?_)
        obtain ⟨e17, rfl, rfl⟩ := c17
        refine wp_if_eq (t := 12) (tgt := 26) rfl (by decide) (by rw [e17]; unfold zin; split <;> omega) (fun h20 => ?_) (fun h20 => ?_)
        · refine wp_iinc (t := 14) rfl rfl (by decide) rfl ?_
          refine wp_goto (t := 15) (tgt := 4) rfl (by decide) ?_
          refine ih (c + 1) _ (by omega) (by omega) (by omega) ?_
          rw [zsum_succ _ h0, if_neg (show ¬ 0 < I17 (p + 2) c from fun q => by rw [if_pos q] at e17; omega), ← hs, Int.add_zero]
        · refine wp_iinc (t := 13) rfl rfl (by decide) rfl ?_
          refine wp_iinc (t := 14) rfl rfl (by decide) rfl ?_
          refine wp_goto (t := 15) (tgt := 4) rfl (by decide) ?_
          refine ih (c + 1) _ (by omega) (by omega) (by omega) ?_
          rw [zsum_succ _ h0, if_pos (by by_cases q : 0 < I17 (p + 2) c; exact q; rw [if_neg q] at e17; omega), ← hs]
  refine wp_ls (ls' := [some (zR p), none, none]) rfl ?_
  refine wp_iconst (t := 0) rfl ?_
  refine wp_istore_n (t := 1) rfl (by decide) rfl ?_
  refine wp_iconst (t := 2) rfl ?_
  refine wp_istore_n (t := 3) rfl (by decide) rfl ?_
  exact key _ 0 0 (by omega) (by omega) rfl rfl
set_option maxHeartbeats 4000000 in
set_option maxRecDepth 100000 in
theorem c_X3_leastTaken {G : zG} {d n : Nat} {I : zMem} {R : zRef} {p : Nat} {c : Int} (hp : p = 64 ∨ p = 86) (hW : zWir n R) (hn : 115 ≤ n) (hch : zCh I) (hpl : zPl I p) (hc : 0 ≤ c ∧ c < I 34 2) : MT G mX3_leastTaken (d + 3) 0 0 [zR p, zI c] n I R (zP1 (fun r I' R' => r = zminf (sT (cS I p) c) (I 34 0).toNat ∧ I' = I ∧ R' = R)) := by
  refine MT.of (by decide +kernel) tX3_leastTaken_ok (Nat.le_of_ble_eq_true rfl) (fun hI0 => ?_)
  obtain ⟨hl0, hl1, hl2, hl3, hl4, hl5, hp1⟩ := zpl hp
  obtain ⟨hr0, hr1, hr2, hr3, hr4, hr5⟩ := zpr hp hW hn
  obtain ⟨f1, f2, f3, f4, f5, f6⟩ := cS_facts hch hpl
  have hco := hch.1
  have hli := hch.2.1
  have hcc := hch.2.2.2.2.1 c hc.1 hc.2
  have key : ∀ (m : Nat) (w s : Int), 1 ≤ w → w ≤ I 34 0 + 1 → (I 34 0 + 1 - w).toNat = m → s = zminf (sT (cS I p) c) (w - 1).toNat → 0 ≤ s ∧ s ≤ 1000000 → WP G mX3_leastTaken (d + 3) 0 0 0 0 5 [some (zR p), some (zI c), some (zI s), some (zI w)] [] n I R (zP1 (fun r I' R' => r = zminf (sT (cS I p) c) (I 34 0).toNat ∧ I' = I ∧ R' = R)) := by
    intro m
    induction m with
    | zero =>
      intro w s h0 h1 hm hs hb
      refine wp_iload_n (t := 4) rfl rfl ?_
      refine wp_aload_n (t := 5) rfl rfl ?_
      refine wp_getR (t := 6) (ji := 0) rfl fX3_27 rfl rfl (by omega) (by first | rfl | assumption) (by first | exact hW _ _ _ (by omega) rfl | assumption) ?_
      refine wp_getI (t := 7) (ji := 0) rfl fX3_55 rfl rfl (by omega) (by first | rfl | assumption) ?_
      refine wp_icmp_gt (t := 8) (tgt := 33) rfl (by decide) (by first | assumption | exact hI0 _ _ | exact zin_and _ _ | (unfold zin; omega) | (unfold zin at *; omega)) (by first | assumption | exact hI0 _ _ | exact zin_and _ _ | (unfold zin; omega) | (unfold zin at *; omega)) (fun h13 => ?_) (fun h13 => ?_)
      · refine wp_iload_n (t := 18) rfl rfl ?_
        refine wp_ireturn (t := 19) rfl rfl ?_
        exact ⟨_, rfl, by rw [hs, show w - 1 = I 34 0 by omega], rfl, rfl⟩
      · exact absurd h13 (by omega)
    | succ m ih =>
      intro w s h0 h1 hm hs hb
      have hT := f5 c w hc.1 hc.2 h0 (by show w ≤ I 34 0; omega)
      have hlo := hcc.2.2.2.2 w h0 (by omega)
      refine wp_iload_n (t := 4) rfl rfl ?_
      refine wp_aload_n (t := 5) rfl rfl ?_
      refine wp_getR (t := 6) (ji := 0) rfl fX3_27 rfl rfl (by omega) (by first | rfl | assumption) (by first | exact hW _ _ _ (by omega) rfl | assumption) ?_
      refine wp_getI (t := 7) (ji := 0) rfl fX3_55 rfl rfl (by omega) (by first | rfl | assumption) ?_
      refine wp_icmp_gt (t := 8) (tgt := 33) rfl (by decide) (by first | assumption | exact hI0 _ _ | exact zin_and _ _ | (unfold zin; omega) | (unfold zin at *; omega)) (by first | assumption | exact hI0 _ _ | exact zin_and _ _ | (unfold zin; omega) | (unfold zin at *; omega)) (fun h13 => ?_) (fun h13 => ?_)
      · exact absurd h13 (by omega)
      · refine wp_iload_n (t := 9) rfl rfl ?_
        refine wp_aload_n (t := 10) rfl rfl ?_
        refine wp_iload_n (t := 11) rfl rfl ?_
        refine wp_iload_n (t := 12) rfl rfl ?_
        refine wp_vi (ci := 3) (c_X3_takes (d := d) hp hW hn ⟨hc.1, by omega⟩ ⟨by omega, by omega⟩ ⟨by omega, by omega⟩ ⟨by omega, by omega⟩) (t := 13) rfl kX3_47 rfl rfl (by omega) (by first | rfl | assumption) ⟨_, _, rfl⟩ (Nat.le_of_ble_eq_true rfl) ⟨Nat.le_refl _, Nat.le_refl _⟩ (fun r20 I20 R20 c20 => ?_)
        refine wp_canon (fun hI1 => ?_)
        obtain ⟨rfl, rfl, rfl⟩ := c20
        refine wp_min (t := 14) rfl (wsL_law_r34_l (List.mem_of_getElem? (i := 9) rfl)) (by first | assumption | exact hI1 _ _ | exact hI0 _ _ | exact zin_and _ _ | (unfold zin; omega) | (unfold zin at *; omega)) (by first | assumption | exact hI1 _ _ | exact hI0 _ _ | exact zin_and _ _ | (unfold zin; omega) | (unfold zin at *; omega)) (Nat.le_of_ble_eq_true rfl) ⟨Nat.le_refl _, Nat.le_refl _⟩ ?_
        refine wp_istore_n (t := 15) rfl (by decide) rfl ?_
        refine wp_iinc (t := 16) rfl rfl (by decide) rfl ?_
        refine wp_goto (t := 17) (tgt := 5) rfl (by decide) ?_
        refine ih (w + 1) _ (by omega) (by omega) (by omega) ?_ (by omega)
        rw [show w + 1 - 1 = w by omega, zminf_succ _ h0, ← hs]
  refine wp_ls (ls' := [some (zR p), some (zI c), none, none]) rfl ?_
  refine wp_ldc (1000000) (t := 0) rfl (wsL_law_r20_l (List.mem_of_getElem? (i := 7) rfl)) (by decide) ?_
  refine wp_istore_n (t := 1) rfl (by decide) rfl ?_
  refine wp_iconst (t := 2) rfl ?_
  refine wp_istore_n (t := 3) rfl (by decide) rfl ?_
  exact key _ 1 1000000 (by omega) (by omega) rfl rfl (by omega)
set_option maxHeartbeats 4000000 in
set_option maxRecDepth 100000 in
theorem c_X3_stairs {G : zG} {d n : Nat} {I : zMem} {R : zRef} {p : Nat} {c : Int} (hp : p = 64 ∨ p = 86) (hW : zWir n R) (hn : 115 ≤ n) (hch : zCh I) (hpl : zPl I p) (hc : 0 ≤ c ∧ c < I 34 2) : MT G mX3_stairs (d + 3) 0 0 [zR p, zI c] n I R (zP1 (fun r I' R' => r = (zst (sT (cS I p) c) (I 34 0).toNat).1 ∧ I' = I ∧ R' = R)) := by
  refine MT.of (by decide +kernel) tX3_stairs_ok (Nat.le_of_ble_eq_true rfl) (fun hI0 => ?_)
  obtain ⟨hl0, hl1, hl2, hl3, hl4, hl5, hp1⟩ := zpl hp
  obtain ⟨hr0, hr1, hr2, hr3, hr4, hr5⟩ := zpr hp hW hn
  obtain ⟨f1, f2, f3, f4, f5, f6⟩ := cS_facts hch hpl
  have hco := hch.1
  have hli := hch.2.1
  have hcc := hch.2.2.2.2.1 c hc.1 hc.2
  have key : ∀ (m : Nat) (w : Int) (z : Int × Int), 1 ≤ w → w ≤ I 34 0 + 1 → (I 34 0 + 1 - w).toNat = m → z = zst (sT (cS I p) c) (w - 1).toNat → 0 ≤ z.2 ∧ z.2 ≤ 1000000 → WP G mX3_stairs (d + 3) 0 0 0 0 8 [some (zR p), some (zI c), some (zI z.1), some (zI z.2), some (zI w)] [] n I R (zP1 (fun r I' R' => r = (zst (sT (cS I p) c) (I 34 0).toNat).1 ∧ I' = I ∧ R' = R)) := by
    intro m
    induction m with
    | zero =>
      intro w z h0 h1 hm hs hb
      refine wp_iload (t := 6) rfl rfl ?_
      refine wp_aload_n (t := 7) rfl rfl ?_
      refine wp_getR (t := 8) (ji := 0) rfl fX3_27 rfl rfl (by omega) (by first | rfl | assumption) (by first | exact hW _ _ _ (by omega) rfl | assumption) ?_
      refine wp_getI (t := 9) (ji := 0) rfl fX3_55 rfl rfl (by omega) (by first | rfl | assumption) ?_
      refine wp_icmp_gt (t := 10) (tgt := 52) rfl (by decide) (by first | assumption | exact hI0 _ _ | exact zin_and _ _ | (unfold zin; omega) | (unfold zin at *; omega)) (by first | assumption | exact hI0 _ _ | exact zin_and _ _ | (unfold zin; omega) | (unfold zin at *; omega)) (fun h17 => ?_) (fun h17 => ?_)
      · refine wp_iload_n (t := 30) rfl rfl ?_
        refine wp_ireturn (t := 31) rfl rfl ?_
        exact ⟨_, rfl, by rw [hs, show w - 1 = I 34 0 by omega], rfl, rfl⟩
      · exact absurd h17 (by omega)
    | succ m ih =>
      intro w z h0 h1 hm hs hb
      have hT := f5 c w hc.1 hc.2 h0 (by show w ≤ I 34 0; omega)
      have hlo := hcc.2.2.2.2 w h0 (by omega)
      have hq := zst_succ (sT (cS I p) c) h0
      rw [← hs] at hq
      refine wp_iload (t := 6) rfl rfl ?_
      refine wp_aload_n (t := 7) rfl rfl ?_
      refine wp_getR (t := 8) (ji := 0) rfl fX3_27 rfl rfl (by omega) (by first | rfl | assumption) (by first | exact hW _ _ _ (by omega) rfl | assumption) ?_
      refine wp_getI (t := 9) (ji := 0) rfl fX3_55 rfl rfl (by omega) (by first | rfl | assumption) ?_
      refine wp_icmp_gt (t := 10) (tgt := 52) rfl (by decide) (by first | assumption | exact hI0 _ _ | exact zin_and _ _ | (unfold zin; omega) | (unfold zin at *; omega)) (by first | assumption | exact hI0 _ _ | exact zin_and _ _ | (unfold zin; omega) | (unfold zin at *; omega)) (fun h17 => ?_) (fun h17 => ?_)
      · exact absurd h17 (by omega)
      · refine wp_aload_n (t := 11) rfl rfl ?_
        refine wp_iload_n (t := 12) rfl rfl ?_
        refine wp_iload (t := 13) rfl rfl ?_
        refine wp_vi (ci := 3) (c_X3_takes (d := d) hp hW hn ⟨hc.1, by omega⟩ ⟨by omega, by omega⟩ ⟨by omega, by omega⟩ ⟨by omega, by omega⟩) (t := 14) rfl kX3_47 rfl rfl (by omega) (by first | rfl | assumption) ⟨_, _, rfl⟩ (Nat.le_of_ble_eq_true rfl) ⟨Nat.le_refl _, Nat.le_refl _⟩ (fun r24 I24 R24 c24 => ?_)
        refine wp_canon (fun hI1 => ?_)
        obtain ⟨rfl, rfl, rfl⟩ := c24
        refine wp_iload_n (t := 15) rfl rfl ?_
        refine wp_icmp_ge (t := 16) (tgt := 46) rfl (by decide) (by first | assumption | exact hI1 _ _ | exact hI0 _ _ | exact zin_and _ _ | (unfold zin; omega) | (unfold zin at *; omega)) (by first | assumption | exact hI1 _ _ | exact hI0 _ _ | exact zin_and _ _ | (unfold zin; omega) | (unfold zin at *; omega)) (fun h28 => ?_) (fun h28 => ?_)
        · refine wp_iinc (t := 28) rfl rfl (by decide) rfl ?_
          refine wp_goto (t := 29) (tgt := 8) rfl (by decide) ?_
          exact ih (w + 1) z (by omega) (by omega) (by omega) (by rw [show w + 1 - 1 = w by omega, hq, if_neg (by omega)]) hb
        · refine wp_aload_n (t := 17) rfl rfl ?_
          refine wp_iload_n (t := 18) rfl rfl ?_
          refine wp_iload (t := 19) rfl rfl ?_
          refine wp_vi (ci := 3) (c_X3_takes (d := d) hp hW hn ⟨hc.1, by omega⟩ ⟨by omega, by omega⟩ ⟨by omega, by omega⟩ ⟨by omega, by omega⟩) (t := 20) rfl kX3_47 rfl rfl (by omega) (by first | rfl | assumption) ⟨_, _, rfl⟩ (Nat.le_of_ble_eq_true rfl) ⟨Nat.le_refl _, Nat.le_refl _⟩ (fun r35 I35 R35 c35 => ?_)
          refine wp_canon (fun hI2 => ?_)
          obtain ⟨rfl, rfl, rfl⟩ := c35
          refine wp_istore_n (t := 21) rfl (by decide) rfl ?_
          refine wp_iload_n (t := 22) rfl rfl ?_
          refine wp_iconst (t := 23) rfl ?_
          refine wp_iload (t := 24) rfl rfl ?_
          refine wp_ishl (t := 25) rfl ?_
          refine wp_ior (t := 26) rfl ?_
          refine wp_istore_n (t := 27) rfl (by decide) rfl ?_
          refine wp_iinc (t := 28) rfl rfl (by decide) rfl ?_
          refine wp_goto (t := 29) (tgt := 8) rfl (by decide) ?_
          exact ih (w + 1) (zior z.1 (zishl 1 w), sT (cS I35 p) c w) (by omega) (by omega) (by omega) (by rw [show w + 1 - 1 = w by omega, hq, if_pos (by omega)]) (by show 0 ≤ sT (cS I35 p) c w ∧ sT (cS I35 p) c w ≤ 1000000; omega)
  refine wp_ls (ls' := [some (zR p), some (zI c), none, none, none]) rfl ?_
  refine wp_iconst (t := 0) rfl ?_
  refine wp_istore_n (t := 1) rfl (by decide) rfl ?_
  refine wp_ldc (1000000) (t := 2) rfl (wsL_law_r20_l (List.mem_of_getElem? (i := 7) rfl)) (by decide) ?_
  refine wp_istore_n (t := 3) rfl (by decide) rfl ?_
  refine wp_iconst (t := 4) rfl ?_
  refine wp_istore (t := 5) rfl (by decide) rfl ?_
  exact key _ 1 (0, 1000000) (by omega) (by omega) rfl rfl (by decide)
set_option maxHeartbeats 4000000 in
set_option maxRecDepth 100000 in
theorem c_X3_writeTo {G : zG} {d n : Nat} {I : zMem} {R : zRef} {p r : Nat} (hp : p = 64 ∨ p = 86) (hW : zWir n R) (hn : 115 ≤ n) (hr : r < n) (hlr : zlay r = (20, 24)) : MT G mX3_writeTo (d + 1) 0 0 [zR p, zR r] n I R (zP0 (fun I' R' => I' = zwr I p r ∧ R' = R)) := by
  refine MT.of (by decide +kernel) tX3_writeTo_ok (Nat.le_of_ble_eq_true rfl) (fun hI0 => ?_)
  obtain ⟨hl0, hl1, hl2, hl3, hl4, hl5, hp1⟩ := zpl hp
  obtain ⟨hr0, hr1, hr2, hr3, hr4, hr5⟩ := zpr hp hW hn
  refine wp_ls (ls' := [some (zR p), some (zR r)]) rfl ?_
  refine wp_aload_n (t := 0) rfl rfl ?_
  refine wp_alen (t := 1) rfl (by omega) (Or.inl rfl) hlr rfl ?_
  refine wp_bipush (t := 2) rfl (by decide) ?_
  refine wp_icmp_ge (t := 3) (tgt := 8) rfl (by decide) (by first | assumption | exact hI0 _ _ | exact zin_and _ _ | (unfold zin; omega) | (unfold zin at *; omega)) (by first | assumption | exact hI0 _ _ | exact zin_and _ _ | (unfold zin; omega) | (unfold zin at *; omega)) (fun h4 => ?_) (fun h4 => ?_)
  · refine wp_aload_n (t := 5) rfl rfl ?_
    refine wp_getR (t := 6) (ji := 1) rfl fX3_9 rfl rfl (by omega) (by first | rfl | assumption) (by first | exact hW _ _ _ (by omega) rfl | assumption) ?_
    refine wp_iconst (t := 7) rfl ?_
    refine wp_aload_n (t := 8) rfl rfl ?_
    refine wp_iconst (t := 9) rfl ?_
    refine wp_bipush (t := 10) rfl (by decide) ?_
    refine wp_copy (t := 11) rfl (wsL_law_r26_l (List.mem_of_getElem? (i := 2) rfl)) (by omega) (by first | rfl | assumption) (by omega) (by first | rfl | assumption) (by omega) (by omega) (by omega) (by omega) (by omega) (by decide) (by decide) (Nat.le_of_ble_eq_true rfl) ?_
    refine wp_canon (fun hI1 => ?_)
    refine wp_aload_n (t := 12) rfl rfl ?_
    refine wp_getR (t := 13) (ji := 2) rfl fX3_15 rfl rfl (by omega) (by first | rfl | assumption) (by first | exact hW _ _ _ (by omega) rfl | assumption) ?_
    refine wp_iconst (t := 14) rfl ?_
    refine wp_aload_n (t := 15) rfl rfl ?_
    refine wp_bipush (t := 16) rfl (by decide) ?_
    refine wp_bipush (t := 17) rfl (by decide) ?_
    refine wp_copy (t := 18) rfl (wsL_law_r26_l (List.mem_of_getElem? (i := 2) rfl)) (by omega) (by first | rfl | assumption) (by omega) (by first | rfl | assumption) (by omega) (by omega) (by omega) (by omega) (by omega) (by decide) (by decide) (Nat.le_of_ble_eq_true rfl) ?_
    refine wp_canon (fun hI2 => ?_)
    refine wp_aload_n (t := 19) rfl rfl ?_
    refine wp_getR (t := 20) (ji := 3) rfl fX3_18 rfl rfl (by omega) (by first | rfl | assumption) (by first | exact hW _ _ _ (by omega) rfl | assumption) ?_
    refine wp_iconst (t := 21) rfl ?_
    refine wp_aload_n (t := 22) rfl rfl ?_
    refine wp_bipush (t := 23) rfl (by decide) ?_
    refine wp_bipush (t := 24) rfl (by decide) ?_
    refine wp_copy (t := 25) rfl (wsL_law_r26_l (List.mem_of_getElem? (i := 2) rfl)) (by omega) (by first | rfl | assumption) (by omega) (by first | rfl | assumption) (by omega) (by omega) (by omega) (by omega) (by omega) (by decide) (by decide) (Nat.le_of_ble_eq_true rfl) ?_
    refine wp_canon (fun hI3 => ?_)
    refine wp_aload_n (t := 26) rfl rfl ?_
    refine wp_getR (t := 27) (ji := 4) rfl fX3_21 rfl rfl (by omega) (by first | rfl | assumption) (by first | exact hW _ _ _ (by omega) rfl | assumption) ?_
    refine wp_iconst (t := 28) rfl ?_
    refine wp_aload_n (t := 29) rfl rfl ?_
    refine wp_bipush (t := 30) rfl (by decide) ?_
    refine wp_bipush (t := 31) rfl (by decide) ?_
    refine wp_copy (t := 32) rfl (wsL_law_r26_l (List.mem_of_getElem? (i := 2) rfl)) (by omega) (by first | rfl | assumption) (by omega) (by first | rfl | assumption) (by omega) (by omega) (by omega) (by omega) (by omega) (by decide) (by decide) (Nat.le_of_ble_eq_true rfl) ?_
    refine wp_canon (fun hI4 => ?_)
    refine wp_return (t := 33) rfl rfl ?_
    exact ⟨rfl, rfl, rfl⟩
  · refine wp_return (t := 4) rfl rfl ?_
    exact absurd h4 (by decide)
set_option maxHeartbeats 4000000 in
set_option maxRecDepth 100000 in
theorem c_X3_readFrom {G : zG} {d n : Nat} {I : zMem} {R : zRef} {p r : Nat} (hp : p = 64 ∨ p = 86) (hW : zWir n R) (hn : 115 ≤ n) (hr : r < n) (hlr : zlay r = (20, 24)) : MT G mX3_readFrom (d + 1) 0 0 [zR p, zR r] n I R (zP0 (fun I' R' => I' = zrd I p r ∧ R' = R)) := by
  refine MT.of (by decide +kernel) tX3_readFrom_ok (Nat.le_of_ble_eq_true rfl) (fun hI0 => ?_)
  obtain ⟨hl0, hl1, hl2, hl3, hl4, hl5, hp1⟩ := zpl hp
  obtain ⟨hr0, hr1, hr2, hr3, hr4, hr5⟩ := zpr hp hW hn
  refine wp_ls (ls' := [some (zR p), some (zR r)]) rfl ?_
  refine wp_aload_n (t := 0) rfl rfl ?_
  refine wp_alen (t := 1) rfl (by omega) (Or.inl rfl) hlr rfl ?_
  refine wp_bipush (t := 2) rfl (by decide) ?_
  refine wp_icmp_ge (t := 3) (tgt := 8) rfl (by decide) (by first | assumption | exact hI0 _ _ | exact zin_and _ _ | (unfold zin; omega) | (unfold zin at *; omega)) (by first | assumption | exact hI0 _ _ | exact zin_and _ _ | (unfold zin; omega) | (unfold zin at *; omega)) (fun h4 => ?_) (fun h4 => ?_)
  · refine wp_aload_n (t := 5) rfl rfl ?_
    refine wp_iconst (t := 6) rfl ?_
    refine wp_aload_n (t := 7) rfl rfl ?_
    refine wp_getR (t := 8) (ji := 1) rfl fX3_9 rfl rfl (by omega) (by first | rfl | assumption) (by first | exact hW _ _ _ (by omega) rfl | assumption) ?_
    refine wp_iconst (t := 9) rfl ?_
    refine wp_bipush (t := 10) rfl (by decide) ?_
    refine wp_copy (t := 11) rfl (wsL_law_r26_l (List.mem_of_getElem? (i := 2) rfl)) (by omega) (by first | rfl | assumption) (by omega) (by first | rfl | assumption) (by omega) (by omega) (by omega) (by omega) (by omega) (by decide) (by decide) (Nat.le_of_ble_eq_true rfl) ?_
    refine wp_canon (fun hI1 => ?_)
    refine wp_aload_n (t := 12) rfl rfl ?_
    refine wp_bipush (t := 13) rfl (by decide) ?_
    refine wp_aload_n (t := 14) rfl rfl ?_
    refine wp_getR (t := 15) (ji := 2) rfl fX3_15 rfl rfl (by omega) (by first | rfl | assumption) (by first | exact hW _ _ _ (by omega) rfl | assumption) ?_
    refine wp_iconst (t := 16) rfl ?_
    refine wp_bipush (t := 17) rfl (by decide) ?_
    refine wp_copy (t := 18) rfl (wsL_law_r26_l (List.mem_of_getElem? (i := 2) rfl)) (by omega) (by first | rfl | assumption) (by omega) (by first | rfl | assumption) (by omega) (by omega) (by omega) (by omega) (by omega) (by decide) (by decide) (Nat.le_of_ble_eq_true rfl) ?_
    refine wp_canon (fun hI2 => ?_)
    refine wp_aload_n (t := 19) rfl rfl ?_
    refine wp_bipush (t := 20) rfl (by decide) ?_
    refine wp_aload_n (t := 21) rfl rfl ?_
    refine wp_getR (t := 22) (ji := 3) rfl fX3_18 rfl rfl (by omega) (by first | rfl | assumption) (by first | exact hW _ _ _ (by omega) rfl | assumption) ?_
    refine wp_iconst (t := 23) rfl ?_
    refine wp_bipush (t := 24) rfl (by decide) ?_
    refine wp_copy (t := 25) rfl (wsL_law_r26_l (List.mem_of_getElem? (i := 2) rfl)) (by omega) (by first | rfl | assumption) (by omega) (by first | rfl | assumption) (by omega) (by omega) (by omega) (by omega) (by omega) (by decide) (by decide) (Nat.le_of_ble_eq_true rfl) ?_
    refine wp_canon (fun hI3 => ?_)
    refine wp_aload_n (t := 26) rfl rfl ?_
    refine wp_bipush (t := 27) rfl (by decide) ?_
    refine wp_aload_n (t := 28) rfl rfl ?_
    refine wp_getR (t := 29) (ji := 4) rfl fX3_21 rfl rfl (by omega) (by first | rfl | assumption) (by first | exact hW _ _ _ (by omega) rfl | assumption) ?_
    refine wp_iconst (t := 30) rfl ?_
    refine wp_bipush (t := 31) rfl (by decide) ?_
    refine wp_copy (t := 32) rfl (wsL_law_r26_l (List.mem_of_getElem? (i := 2) rfl)) (by omega) (by first | rfl | assumption) (by omega) (by first | rfl | assumption) (by omega) (by omega) (by omega) (by omega) (by omega) (by decide) (by decide) (Nat.le_of_ble_eq_true rfl) ?_
    refine wp_canon (fun hI4 => ?_)
    refine wp_return (t := 33) rfl rfl ?_
    exact ⟨rfl, rfl, rfl⟩
  · refine wp_return (t := 4) rfl rfl ?_
    exact absurd h4 (by decide)
end
section
/-! the two shelves; a plan begun anew -/
/-- the rows of the shelf at o, of m places: rho tells which -/
def zShf (o m : Nat) (R : zRef) (rho : Int → Nat) : Prop := (∀ k : Int, 0 ≤ k → k < m → R (o + 1) k = some (rho k) ∧ o + 2 ≤ rho k ∧ rho k < o + 2 + m) ∧ ∀ j k : Int, 0 ≤ j → j < m → 0 ≤ k → k < m → rho j = rho k → j = k
theorem zshl {o m : Nat} (ho : (o = 95 ∧ m = 8) ∨ (o = 105 ∧ m = 2)) : (zlay o).1 = 6 ∧ zlay (o + 1) = (21, m) ∧ (∀ r : Nat, o + 2 ≤ r → r < o + 2 + m → zlay r = (20, 24)) ∧ o < 110 ∧ 2 ≤ m ∧ m ≤ 8 ∧ 95 ≤ o ∧ o + 2 + m < 115 := by
  rcases ho with ⟨rfl, rfl⟩ | ⟨rfl, rfl⟩
  · refine ⟨rfl, rfl, fun r h0 h1 => ?_, by omega, by omega, by omega, by omega, by omega⟩
    rcases (show r = 97 ∨ r = 98 ∨ r = 99 ∨ r = 100 ∨ r = 101 ∨ r = 102 ∨ r = 103 ∨ r = 104 by omega) with rfl | rfl | rfl | rfl | rfl | rfl | rfl | rfl <;> rfl
  · refine ⟨rfl, rfl, fun r h0 h1 => ?_, by omega, by omega, by omega, by omega, by omega⟩
    rcases (show r = 107 ∨ r = 108 by omega) with rfl | rfl <;> rfl
theorem zshr {o m N : Nat} {R : zRef} (ho : (o = 95 ∧ m = 8) ∨ (o = 105 ∧ m = 2)) (hW : zWir N R) (hN : 115 ≤ N) : R o 0 = some (o + 1) := by
  rcases ho with ⟨rfl, rfl⟩ | ⟨rfl, rfl⟩
  · exact hW 95 0 _ (by omega) rfl
  · exact hW 105 0 _ (by omega) rfl
set_option maxHeartbeats 4000000 in
set_option maxRecDepth 100000 in
theorem c_X6_clear {G : zG} {d n o m : Nat} {I : zMem} {R : zRef} (ho : (o = 95 ∧ m = 8) ∨ (o = 105 ∧ m = 2)) (hn : 115 ≤ n) : MT G mX6_clear d 0 0 [zR o] n I R (zP0 (fun I' R' => I' = zu I o 1 0 ∧ R' = R)) := by
  refine MT.of (by decide +kernel) tX6_clear_ok (Nat.le_of_ble_eq_true rfl) (fun hI0 => ?_)
  obtain ⟨hl0, hl1, hl2, hl3, hl4, hl5, hl6, hl7⟩ := zshl ho
  refine wp_ls (ls' := [some (zR o)]) rfl ?_
  refine wp_aload_n (t := 0) rfl rfl ?_
  refine wp_iconst (t := 1) rfl ?_
  refine wp_putI (t := 2) (ji := 1) rfl fX6_9 p6_1 rfl rfl (by omega) (by first | rfl | assumption) (by first | assumption | exact hI0 _ _ | exact zin_and _ _ | (unfold zin; omega) | (unfold zin at *; omega)) ?_
  refine wp_canon (fun hI1 => ?_)
  refine wp_return (t := 3) rfl rfl ?_
  exact ⟨rfl, rfl, rfl⟩
set_option maxHeartbeats 4000000 in
set_option maxRecDepth 100000 in
theorem c_X6_popInto {G : zG} {d n o m : Nat} {I : zMem} {R : zRef} {rho : Int → Nat} (ho : (o = 95 ∧ m = 8) ∨ (o = 105 ∧ m = 2)) (hW : zWir n R) (hn : 115 ≤ n) (hsh : zShf o m R rho) (hh : 0 ≤ I o 1 ∧ I o 1 ≤ m) : MT G mX6_popInto (d + 2) 0 0 [zR o, zR 64] n I R (zP1 (fun r I' R' => ((I o 1 < 1 ∧ r = 0 ∧ I' = I) ∨ (1 ≤ I o 1 ∧ r = 1 ∧ I' = zrd (zu I o 1 (I o 1 - 1)) 64 (rho (I o 1 - 1)))) ∧ R' = R)) := by
  refine MT.of (by decide +kernel) tX6_popInto_ok (Nat.le_of_ble_eq_true rfl) (fun hI0 => ?_)
  obtain ⟨hl0, hl1, hl2, hl3, hl4, hl5, hl6, hl7⟩ := zshl ho
  have hr0 := zshr ho hW hn
  have e1 : zu I o 1 (I o 1 - 1) o 1 = I o 1 - 1 := zu_eq
  refine wp_ls (ls' := [some (zR o), some (zR 64)]) rfl ?_
  refine wp_aload_n (t := 0) rfl rfl ?_
  refine wp_getI (t := 1) (ji := 1) rfl fX6_9 rfl rfl (by omega) (by first | rfl | assumption) ?_
  refine wp_iconst (t := 2) rfl ?_
  refine wp_icmp_ge (t := 3) (tgt := 10) rfl (by decide) (by first | assumption | exact hI0 _ _ | exact zin_and _ _ | (unfold zin; omega) | (unfold zin at *; omega)) (by first | assumption | exact hI0 _ _ | exact zin_and _ _ | (unfold zin; omega) | (unfold zin at *; omega)) (fun h5 => ?_) (fun h5 => ?_)
  · refine wp_aload_n (t := 6) rfl rfl ?_
    refine wp_dup (t := 7) rfl rfl ?_
    refine wp_getI (t := 8) (ji := 1) rfl fX6_9 rfl rfl (by omega) (by first | rfl | assumption) ?_
    refine wp_iconst (t := 9) rfl ?_
    refine wp_isub (t := 10) rfl ?_
    refine wp_putI (t := 11) (ji := 1) rfl fX6_9 p6_1 rfl rfl (by omega) (by first | rfl | assumption) (by first | assumption | exact hI0 _ _ | exact zin_and _ _ | (unfold zin; omega) | (unfold zin at *; omega)) ?_
    refine wp_canon (fun hI1 => ?_)
    have hrr := hsh.1 (I o 1 - 1) (by omega) (by omega)
    have hrr1 := hrr.1
    refine wp_aload_n (t := 12) rfl rfl ?_
    refine wp_aload_n (t := 13) rfl rfl ?_
    refine wp_getR (t := 14) (ji := 0) rfl fX6_23 rfl rfl (by omega) (by first | rfl | assumption) (by first | exact hW _ _ _ (by omega) rfl | assumption) ?_
    refine wp_aload_n (t := 15) rfl rfl ?_
    refine wp_getI (t := 16) (ji := 1) rfl fX6_9 rfl rfl (by omega) (by first | rfl | assumption) ?_
    rw [e1]
    refine wp_aaload (t := 17) rfl (by omega) (by first | rfl | assumption) (by omega) (by omega) (by omega) (by first | exact hW _ _ _ (by omega) rfl | assumption) ?_
    refine wp_vv (ci := 3) (c_X3_readFrom (d := d) (r := rho (I o 1 - 1)) (Or.inl rfl) hW hn (by omega) (hl2 _ hrr.2.1 hrr.2.2)) (t := 18) rfl kX6_32 rfl rfl (by omega) (by first | rfl | assumption) ⟨_, _, rfl⟩ (Nat.le_of_ble_eq_true rfl) ⟨Nat.le_refl _, Nat.le_refl _⟩ (fun I30 R30 c30 => ?_)
    refine wp_canon (fun hI2 => ?_)
    obtain ⟨rfl, rfl⟩ := c30
    refine wp_iconst (t := 19) rfl ?_
    refine wp_zreturn (t := 20) rfl rfl (by omega) ?_
    exact ⟨_, rfl, Or.inr ⟨by omega, rfl, rfl⟩, rfl⟩
  · refine wp_iconst (t := 4) rfl ?_
    refine wp_zreturn (t := 5) rfl rfl (by omega) ?_
    exact ⟨_, rfl, Or.inl ⟨by omega, rfl, rfl⟩, rfl⟩
/-- a row put on the shelf behind the others: where there is no room, the oldest goes -/
def zPush (o m : Nat) (I I' : zMem) (R' : zRef) (rho : Int → Nat) (r : Nat) : Prop := ∃ rho' : Int → Nat, zShf o m R' rho' ∧ I' o 1 = (if I o 1 < m then I o 1 else m - 1) + 1 ∧
  (∀ k j : Int, 0 ≤ k → k < (if I o 1 < m then I o 1 else m - 1) → I' (rho' k) j = I (rho (if I o 1 < m then k else k + 1)) j) ∧ (∀ j : Int, 0 ≤ j → j < 24 → I' (rho' (if I o 1 < m then I o 1 else m - 1)) j = I r j) ∧ (∀ b : Nat, (b < o ∨ o + 2 + m ≤ b) → I' b = I b)
set_option maxHeartbeats 4000000 in
set_option maxRecDepth 100000 in
theorem c_X6_push {G : zG} {d n o m : Nat} {I : zMem} {R : zRef} {rho : Int → Nat} (ho : (o = 95 ∧ m = 8) ∨ (o = 105 ∧ m = 2)) (hW : zWir n R) (hn : 115 ≤ n) (hsh : zShf o m R rho) (hh : 0 ≤ I o 1 ∧ I o 1 ≤ m) : MT G mX6_push (d + 1) 0 0 [zR o, zR 94] n I R (zP0 (fun I' R' => zPush o m I I' R' rho 94 ∧ zWir n R' ∧ ∀ b : Nat, b ≠ o + 1 → R' b = R b)) := by
  refine MT.of (by decide +kernel) tX6_push_ok (Nat.le_of_ble_eq_true rfl) (fun hI0 => ?_)
  obtain ⟨hl0, hl1, hl2, hl3, hl4, hl5, hl6, hl7⟩ := zshl ho
  obtain ⟨hsh1, hsh2⟩ := id hsh
  have hr0 := zshr ho hW hn
  have tail : ∀ (h : Int) (J : zMem) (R2 : zRef) (rho' : Int → Nat) (x2 x3 : Option zV), zWir n R2 → (∀ b : Nat, b ≠ o + 1 → R2 b = R b) → zShf o m R2 rho' → (∀ b : Nat, b ≠ o → J b = I b) → J o 1 = h → 0 ≤ h → h < m → h = (if I o 1 < m then I o 1 else m - 1) → (∀ k : Int, 0 ≤ k → k < h → rho' k = rho (if I o 1 < m then k else k + 1)) → WP G mX6_push (d + 1) 0 0 0 0 74 [some (zR o), some (zR 94), x2, x3] [] n J R2 (zP0 (fun I' R' => zPush o m I I' R' rho 94 ∧ zWir n R' ∧ ∀ b : Nat, b ≠ o + 1 → R' b = R b)) := by
    intro h J R2 rho' x2 x3 hW2 hR2 hs2 hJ hJ1 h0 h1 hh2 hk
    have hW := hW2
    have hr0 := zshr ho hW2 hn
    have hrr := hs2.1 h h0 h1
    have hrr1 := hrr.1
    have hl9 := hl2 _ hrr.2.1 hrr.2.2
    have ho9 : rho' h ≠ o := by omega
    refine wp_canon (fun hI0 => ?_)
    refine wp_aload_n (t := 46) rfl rfl ?_
    refine wp_alen (t := 47) rfl (by omega) (Or.inl rfl) rfl rfl ?_
    refine wp_bipush (t := 48) rfl (by decide) ?_
    refine wp_icmp_ge (t := 49) (tgt := 82) rfl (by decide) (by first | assumption | exact hI0 _ _ | exact zin_and _ _ | (unfold zin; omega) | (unfold zin at *; omega)) (by first | assumption | exact hI0 _ _ | exact zin_and _ _ | (unfold zin; omega) | (unfold zin at *; omega)) (fun h78 => ?_) (fun h78 => ?_)
    · refine wp_aload_n (t := 51) rfl rfl ?_
      refine wp_iconst (t := 52) rfl ?_
      refine wp_aload_n (t := 53) rfl rfl ?_
      refine wp_getR (t := 54) (ji := 0) rfl fX6_23 rfl rfl (by omega) (by first | rfl | assumption) (by first | exact hW _ _ _ (by omega) rfl | assumption) ?_
      refine wp_aload_n (t := 55) rfl rfl ?_
      refine wp_getI (t := 56) (ji := 1) rfl fX6_9 rfl rfl (by omega) (by first | rfl | assumption) ?_
      rw [hJ1]
      refine wp_aaload (t := 57) rfl (by omega) (by first | rfl | assumption) (by omega) (by omega) (by omega) (by first | exact hW _ _ _ (by omega) rfl | assumption) ?_
      refine wp_iconst (t := 58) rfl ?_
      refine wp_bipush (t := 59) rfl (by decide) ?_
      refine wp_copy (t := 60) rfl (wsL_law_r26_l (List.mem_of_getElem? (i := 10) rfl)) (by omega) rfl (by omega) hl9 (by omega) (by omega) (by omega) (by omega) (by omega) (by decide) (by decide) (Nat.le_of_ble_eq_true rfl) ?_
      refine wp_canon (fun hI1 => ?_)
      refine wp_aload_n (t := 61) rfl rfl ?_
      refine wp_dup (t := 62) rfl rfl ?_
      refine wp_getI (t := 63) (ji := 1) rfl fX6_9 rfl rfl (by omega) (by first | rfl | assumption) ?_
      have ez : zcp J 94 0 (rho' h) 0 24 o 1 = h := by
        unfold zcp
        rw [if_neg (fun g => ho9 g.1.symm)]
        exact hJ1
      rw [ez]
      refine wp_iconst (t := 64) rfl ?_
      refine wp_iadd (t := 65) rfl ?_
      refine wp_putI (t := 66) (ji := 1) rfl fX6_9 p6_1 rfl rfl (by omega) (by first | rfl | assumption) (by first | assumption | exact hI1 _ _ | exact hI0 _ _ | exact zin_and _ _ | (unfold zin; omega) | (unfold zin at *; omega)) ?_
      refine wp_canon (fun hI2 => ?_)
      refine wp_return (t := 67) rfl rfl ?_
      refine ⟨rfl, ⟨rho', hs2, ?_, fun k j k0 k1 => ?_, fun j j0 j1 => ?_, fun b hb => ?_⟩, hW2, hR2⟩
      · rw [zu_eq, ← hh2]
      · rw [← hh2] at k1
        have hkk := hs2.1 k k0 (by omega)
        rw [zu_ne (by omega)]
        unfold zcp
        rw [if_neg (fun g => by have := hs2.2 k h k0 (by omega) h0 h1 g.1; omega), hJ _ (by omega), hk k k0 k1]
      · rw [← hh2, zu_ne ho9]
        unfold zcp
        rw [if_pos ⟨rfl, j0, by omega⟩, show (0 : Int) + (j - 0) = j by omega, hJ 94 (by omega)]
      · rw [zu_ne (by omega)]
        funext j
        unfold zcp
        rw [if_neg (fun g => by have := g.1; omega), hJ b (by omega)]
    · refine wp_return (t := 50) rfl rfl ?_
      exact absurd h78 (by decide)
  have loop : ∀ (k : Nat) (i : Int) (R2 : zRef), 1 ≤ i → i ≤ m → ((m : Int) - i).toNat = k → ¬ I o 1 < m → zWir n R2 → (∀ b : Nat, b ≠ o + 1 → R2 b = R b) → (∀ j : Int, 0 ≤ j → j < i - 1 → R2 (o + 1) j = some (rho (j + 1))) → (∀ j : Int, i - 1 ≤ j → j < m → R2 (o + 1) j = some (rho j)) → WP G mX6_push (d + 1) 0 0 0 0 21 [some (zR o), some (zR 94), some (zR (rho 0)), some (zI i)] [] n I R2 (zP0 (fun I' R' => zPush o m I I' R' rho 94 ∧ zWir n R' ∧ ∀ b : Nat, b ≠ o + 1 → R' b = R b)) := by
    intro k
    induction k with
    | zero =>
      intro i R2 i0 i1 hk hIm hW2 hR2 hj1 hj2
      have hW := hW2
      have hr0 := zshr ho hW2 hn
      have g0 := hsh1 0 (by omega) (by omega)
      have hl9 := hl2 _ g0.2.1 g0.2.2
      refine wp_iload_n (t := 13) rfl rfl ?_
      refine wp_aload_n (t := 14) rfl rfl ?_
      refine wp_getR (t := 15) (ji := 0) rfl fX6_23 rfl rfl (by omega) (by first | rfl | assumption) (by first | exact hW _ _ _ (by omega) rfl | assumption) ?_
      refine wp_alen (t := 16) rfl (by omega) (Or.inr rfl) (by first | rfl | assumption) rfl ?_
      refine wp_icmp_ge (t := 17) (tgt := 50) rfl (by decide) (by first | assumption | exact hI0 _ _ | exact zin_and _ _ | (unfold zin; omega) | (unfold zin at *; omega)) (by first | assumption | exact hI0 _ _ | exact zin_and _ _ | (unfold zin; omega) | (unfold zin at *; omega)) (fun h27 => ?_) (fun h27 => ?_)
      · refine wp_aload_n (t := 30) rfl rfl ?_
        refine wp_getR (t := 31) (ji := 0) rfl fX6_23 rfl rfl (by omega) (by first | rfl | assumption) (by first | exact hW _ _ _ (by omega) rfl | assumption) ?_
        refine wp_aload_n (t := 32) rfl rfl ?_
        refine wp_getR (t := 33) (ji := 0) rfl fX6_23 rfl rfl (by omega) (by first | rfl | assumption) (by first | exact hW _ _ _ (by omega) rfl | assumption) ?_
        refine wp_alen (t := 34) rfl (by omega) (Or.inr rfl) (by first | rfl | assumption) rfl ?_
        refine wp_iconst (t := 35) rfl ?_
        refine wp_isub (t := 36) rfl ?_
        refine wp_aload_n (t := 37) rfl rfl ?_
        refine wp_aastore (t := 38) rfl (by omega) (by first | rfl | assumption) (by omega) (by first | rfl | assumption) (by omega) (by omega) (by omega) ?_
        have hr0 : zur R2 (o + 1) ((m : Int) - 1) (some (rho 0)) o 0 = some (o + 1) := by rw [zur_ne (by omega)]; exact hr0
        refine wp_aload_n (t := 39) rfl rfl ?_
        refine wp_aload_n (t := 40) rfl rfl ?_
        refine wp_getR (t := 41) (ji := 0) rfl fX6_23 rfl rfl (by omega) (by first | rfl | assumption) (by first | exact hW _ _ _ (by omega) rfl | assumption) ?_
        refine wp_alen (t := 42) rfl (by omega) (Or.inr rfl) (by first | rfl | assumption) rfl ?_
        refine wp_iconst (t := 43) rfl ?_
        refine wp_isub (t := 44) rfl ?_
        refine wp_putI (t := 45) (ji := 1) rfl fX6_9 p6_1 rfl rfl (by omega) (by first | rfl | assumption) (by first | assumption | exact hI0 _ _ | exact zin_and _ _ | (unfold zin; omega) | (unfold zin at *; omega)) ?_
        refine wp_canon (fun hI1 => ?_)
        refine tail ((m : Int) - 1) _ (zur R2 (o + 1) ((m : Int) - 1) (some (rho 0))) (fun j => if j = (m : Int) - 1 then rho 0 else rho (j + 1)) _ _ (by rcases ho with ⟨rfl, rfl⟩ | ⟨rfl, rfl⟩; exact zWir_shelf hW2 (Or.inl rfl); exact zWir_shelf hW2 (Or.inr rfl)) (fun b hb => by rw [zur_ne hb]; exact hR2 b hb) ⟨fun j j0 j1 => ?_, fun j k j0 j1 k0 k1 hjk => ?_⟩ (fun b hb => zu_ne hb) zu_eq (by omega) (by omega) (by rw [if_neg hIm]) (fun j j0 j1 => by rw [if_neg hIm, if_neg (by omega)])
        · dsimp only
          by_cases e : j = (m : Int) - 1
          · rw [if_pos e, e, zur_eq]; exact ⟨rfl, g0.2⟩
          · rw [if_neg e, zur_canon_R (Or.inr e), hj1 j j0 (by omega)]
            exact ⟨rfl, (hsh1 (j + 1) (by omega) (by omega)).2⟩
        · have hjk : (if j = (m : Int) - 1 then rho 0 else rho (j + 1)) = (if k = (m : Int) - 1 then rho 0 else rho (k + 1)) := hjk
          by_cases e1 : j = (m : Int) - 1
          · by_cases e2 : k = (m : Int) - 1
            · omega
            · rw [if_pos e1, if_neg e2] at hjk
              have := hsh2 0 (k + 1) (by omega) (by omega) (by omega) (by omega) hjk
              omega
          · by_cases e2 : k = (m : Int) - 1
            · rw [if_neg e1, if_pos e2] at hjk
              have := hsh2 (j + 1) 0 (by omega) (by omega) (by omega) (by omega) hjk
              omega
            · rw [if_neg e1, if_neg e2] at hjk
              have := hsh2 (j + 1) (k + 1) (by omega) (by omega) (by omega) (by omega) hjk
              omega
      · exact absurd h27 (by omega)
    | succ k ih =>
      intro i R2 i0 i1 hk hIm hW2 hR2 hj1 hj2
      have hW := hW2
      have hr0 := zshr ho hW2 hn
      have hji := hj2 i (by omega)
      refine wp_iload_n (t := 13) rfl rfl ?_
      refine wp_aload_n (t := 14) rfl rfl ?_
      refine wp_getR (t := 15) (ji := 0) rfl fX6_23 rfl rfl (by omega) (by first | rfl | assumption) (by first | exact hW _ _ _ (by omega) rfl | assumption) ?_
      refine wp_alen (t := 16) rfl (by omega) (Or.inr rfl) (by first | rfl | assumption) rfl ?_
      refine wp_icmp_ge (t := 17) (tgt := 50) rfl (by decide) (by first | assumption | exact hI0 _ _ | exact zin_and _ _ | (unfold zin; omega) | (unfold zin at *; omega)) (by first | assumption | exact hI0 _ _ | exact zin_and _ _ | (unfold zin; omega) | (unfold zin at *; omega)) (fun h27 => ?_) (fun h27 => ?_)
      · exact absurd h27 (by omega)
      · have hji := hji (by omega)
        have g0 := hsh1 i (by omega) (by omega)
        have hl9 := hl2 _ g0.2.1 g0.2.2
        refine wp_aload_n (t := 18) rfl rfl ?_
        refine wp_getR (t := 19) (ji := 0) rfl fX6_23 rfl rfl (by omega) (by first | rfl | assumption) (by first | exact hW _ _ _ (by omega) rfl | assumption) ?_
        refine wp_iload_n (t := 20) rfl rfl ?_
        refine wp_iconst (t := 21) rfl ?_
        refine wp_isub (t := 22) rfl ?_
        refine wp_aload_n (t := 23) rfl rfl ?_
        refine wp_getR (t := 24) (ji := 0) rfl fX6_23 rfl rfl (by omega) (by first | rfl | assumption) (by first | exact hW _ _ _ (by omega) rfl | assumption) ?_
        refine wp_iload_n (t := 25) rfl rfl ?_
        refine wp_aaload (t := 26) rfl (by omega) (by first | rfl | assumption) (by omega) (by omega) (by omega) (by first | exact hW _ _ _ (by omega) rfl | assumption) ?_
        refine wp_aastore (t := 27) rfl (by omega) (by first | rfl | assumption) (by omega) (by first | rfl | assumption) (by omega) (by omega) (by omega) ?_
        refine wp_iinc (t := 28) rfl rfl (by decide) rfl ?_
        refine wp_goto (t := 29) (tgt := 21) rfl (by decide) ?_
        refine ih (i + 1) (zur R2 (o + 1) (i - 1) (some (rho i))) (by omega) (by omega) (by omega) hIm (by rcases ho with ⟨rfl, rfl⟩ | ⟨rfl, rfl⟩; exact zWir_shelf hW2 (Or.inl rfl); exact zWir_shelf hW2 (Or.inr rfl)) (fun b hb => by rw [zur_ne hb]; exact hR2 b hb) (fun j j0 j1 => ?_) (fun j j0 j1 => ?_)
        · by_cases e : j = i - 1
          · rw [e, zur_eq, show i - 1 + 1 = i by omega]
          · rw [zur_canon_R (Or.inr e)]; exact hj1 j j0 (by omega)
        · rw [zur_canon_R (Or.inr (by omega))]; exact hj2 j (by omega) j1
  refine wp_ls (ls' := [some (zR o), some (zR 94), none, none]) rfl ?_
  have g0 := hsh1 0 (by omega) (by omega)
  have g01 := g0.1
  refine wp_aload_n (t := 0) rfl rfl ?_
  refine wp_getI (t := 1) (ji := 1) rfl fX6_9 rfl rfl (by omega) (by first | rfl | assumption) ?_
  refine wp_aload_n (t := 2) rfl rfl ?_
  refine wp_getR (t := 3) (ji := 0) rfl fX6_23 rfl rfl (by omega) (by first | rfl | assumption) (by first | exact hW _ _ _ (by omega) rfl | assumption) ?_
  refine wp_alen (t := 4) rfl (by omega) (Or.inr rfl) (by first | rfl | assumption) rfl ?_
  refine wp_icmp_lt (t := 5) (tgt := 74) rfl (by decide) (by first | assumption | exact hI0 _ _ | exact zin_and _ _ | (unfold zin; omega) | (unfold zin at *; omega)) (by first | assumption | exact hI0 _ _ | exact zin_and _ _ | (unfold zin; omega) | (unfold zin at *; omega)) (fun h9 => ?_) (fun h9 => ?_)
  · exact tail (I o 1) I R rho _ _ hW (fun _ _ => rfl) hsh (fun _ _ => rfl) rfl hh.1 (by omega) (by rw [if_pos (by omega)]) (fun k k0 k1 => by rw [if_pos (by omega)])
  · refine wp_aload_n (t := 6) rfl rfl ?_
    refine wp_getR (t := 7) (ji := 0) rfl fX6_23 rfl rfl (by omega) (by first | rfl | assumption) (by first | exact hW _ _ _ (by omega) rfl | assumption) ?_
    refine wp_iconst (t := 8) rfl ?_
    refine wp_aaload (t := 9) rfl (by omega) (by first | rfl | assumption) (by omega) (by omega) (by omega) (by first | exact hW _ _ _ (by omega) rfl | assumption) ?_
    refine wp_astore_n (t := 10) rfl (by decide) rfl ?_
    refine wp_iconst (t := 11) rfl ?_
    refine wp_istore_n (t := 12) rfl (by decide) rfl ?_
    exact loop _ 1 R (by omega) (by omega) rfl (by omega) hW (fun _ _ => rfl) (fun j j0 j1 => absurd j1 (by omega)) (fun j j0 j1 => (hsh1 j (by omega) j1).1)
/-- a plan with nothing put, under all rules but one -/
def zStart (I I' : zMem) (p : Nat) (lo : Int) : Prop := (∀ b : Nat, (b < p + 2 ∨ p + 5 < b) → I' b = I b) ∧ ∀ c : Int, 0 ≤ c → c < 6 → I' (p + 2) c = 0 ∧ I' (p + 3) c = 0 ∧ I' (p + 4) c = 0 ∧ (0 ≤ I' (p + 5) c ∧ I' (p + 5) c < 64) ∧ ∀ a : Int, 0 ≤ a → a < 6 → (zbt (I' (p + 5) c) a = true ↔ ∃ b : Int, 0 ≤ b ∧ b < I 34 3 ∧ b ≠ lo ∧ I 46 b = a ∧ I 47 b = c)
set_option maxHeartbeats 4000000 in
set_option maxRecDepth 100000 in
theorem c_X3_startOver {G : zG} {d n : Nat} {I : zMem} {R : zRef} {p : Nat} {lo : Int} (hp : p = 64 ∨ p = 86) (hW : zWir n R) (hn : 115 ≤ n) (hru : 0 ≤ I 34 3 ∧ I 34 3 ≤ 8) (hr : ∀ b : Int, 0 ≤ b → b < I 34 3 → 0 ≤ I 46 b ∧ I 46 b < 6 ∧ 0 ≤ I 47 b ∧ I 47 b < 6) (hlo : zin lo) : MT G mX3_startOver (d + 1) 0 0 [zR p, zI lo] n I R (zP0 (fun I' R' => zStart I I' p lo ∧ R' = R)) := by
  refine MT.of (by decide +kernel) tX3_startOver_ok (Nat.le_of_ble_eq_true rfl) (fun hI0 => ?_)
  obtain ⟨hl0, hl1, hl2, hl3, hl4, hl5, hp1⟩ := zpl hp
  obtain ⟨hr0, hr1, hr2, hr3, hr4, hr5⟩ := zpr hp hW hn
  have second : ∀ (k : Nat) (b : Int) (J : zMem), 0 ≤ b → b ≤ I 34 3 → (I 34 3 - b).toNat = k → (∀ x : Nat, (x < p + 2 ∨ p + 5 < x) → J x = I x) → (∀ c : Int, 0 ≤ c → c < 6 → J (p + 2) c = 0 ∧ J (p + 3) c = 0 ∧ J (p + 4) c = 0 ∧ (0 ≤ J (p + 5) c ∧ J (p + 5) c < 64) ∧ ∀ a : Int, 0 ≤ a → a < 6 → (zbt (J (p + 5) c) a = true ↔ ∃ x : Int, 0 ≤ x ∧ x < b ∧ x ≠ lo ∧ I 46 x = a ∧ I 47 x = c)) → WP G mX3_startOver (d + 1) 0 0 0 0 28 [some (zR p), some (zI lo), some (zI b)] [] n J R (zP0 (fun I' R' => zStart I I' p lo ∧ R' = R)) := by
    intro k
    induction k with
    | zero =>
      intro b J b0 b1 hk hf hs
      have e34 : J 34 = I 34 := hf 34 (by omega)
      refine wp_canon (fun hI0 => ?_)
      refine wp_iload_n (t := 17) rfl rfl ?_
      refine wp_aload_n (t := 18) rfl rfl ?_
      refine wp_getR (t := 19) (ji := 0) rfl fX3_27 rfl rfl (by omega) (by first | rfl | assumption) (by first | exact hW _ _ _ (by omega) rfl | assumption) ?_
      refine wp_getI (t := 20) (ji := 3) rfl fX3_35 rfl rfl (by omega) (by first | rfl | assumption) ?_
      rw [e34]
      refine wp_icmp_ge (t := 21) (tgt := 78) rfl (by decide) (by first | assumption | exact hI0 _ _ | exact zin_and _ _ | (unfold zin; omega) | (unfold zin at *; omega)) (by first | assumption | exact hI0 _ _ | exact zin_and _ _ | (unfold zin; omega) | (unfold zin at *; omega)) (fun h36 => ?_) (fun h36 => ?_)
      · refine wp_return (t := 45) rfl rfl ?_
        refine ⟨rfl, ⟨hf, fun c c0 c1 => ?_⟩, rfl⟩
        have g := hs c c0 c1
        rw [show b = I 34 3 by omega] at g
        exact g
      · exact absurd h36 (by omega)
    | succ k ih =>
      intro b J b0 b1 hk hf hs
      have e34 : J 34 = I 34 := hf 34 (by omega)
      have e46 : J 46 = I 46 := hf 46 (by omega)
      have e47 : J 47 = I 47 := hf 47 (by omega)
      refine wp_canon (fun hI0 => ?_)
      refine wp_iload_n (t := 17) rfl rfl ?_
      refine wp_aload_n (t := 18) rfl rfl ?_
      refine wp_getR (t := 19) (ji := 0) rfl fX3_27 rfl rfl (by omega) (by first | rfl | assumption) (by first | exact hW _ _ _ (by omega) rfl | assumption) ?_
      refine wp_getI (t := 20) (ji := 3) rfl fX3_35 rfl rfl (by omega) (by first | rfl | assumption) ?_
      rw [e34]
      refine wp_icmp_ge (t := 21) (tgt := 78) rfl (by decide) (by first | assumption | exact hI0 _ _ | exact zin_and _ _ | (unfold zin; omega) | (unfold zin at *; omega)) (by first | assumption | exact hI0 _ _ | exact zin_and _ _ | (unfold zin; omega) | (unfold zin at *; omega)) (fun h36 => ?_) (fun h36 => ?_)
      · exact absurd h36 (by omega)
      · refine wp_iload_n (t := 22) rfl rfl ?_
        refine wp_iload_n (t := 23) rfl rfl ?_
        refine wp_icmp_eq (t := 24) (tgt := 72) rfl (by decide) (by first | assumption | exact hI0 _ _ | exact zin_and _ _ | (unfold zin; omega) | (unfold zin at *; omega)) (by first | assumption | exact hI0 _ _ | exact zin_and _ _ | (unfold zin; omega) | (unfold zin at *; omega)) (fun h41 => ?_) (fun h41 => ?_)
        · refine wp_iinc (t := 43) rfl rfl (by decide) rfl ?_
          refine wp_goto (t := 44) (tgt := 28) rfl (by decide) ?_
          refine ih (b + 1) J (by omega) (by omega) (by omega) hf (fun c c0 c1 => ?_)
          have g := hs c c0 c1
          refine ⟨g.1, g.2.1, g.2.2.1, g.2.2.2.1, fun a a0 a1 => (g.2.2.2.2 a a0 a1).trans ⟨fun ⟨x, x0, x1, x2, x3⟩ => ⟨x, x0, by omega, x2, x3⟩, fun ⟨x, x0, x1, x2, x3⟩ => ⟨x, x0, by omega, x2, x3⟩⟩⟩
        · refine wp_aload_n (t := 25) rfl rfl ?_
          refine wp_getR (t := 26) (ji := 5) rfl fX3_24 rfl rfl (by omega) (by first | rfl | assumption) (by first | exact hW _ _ _ (by omega) rfl | assumption) ?_
          refine wp_aload_n (t := 27) rfl rfl ?_
          refine wp_getR (t := 28) (ji := 0) rfl fX3_27 rfl rfl (by omega) (by first | rfl | assumption) (by first | exact hW _ _ _ (by omega) rfl | assumption) ?_
          refine wp_getR (t := 29) (ji := 10) rfl fX3_41 rfl rfl (by omega) (by first | rfl | assumption) (by first | exact hW _ _ _ (by omega) rfl | assumption) ?_
          refine wp_iload_n (t := 30) rfl rfl ?_
          refine wp_iaload (t := 31) rfl (by omega) (by first | rfl | assumption) (by omega) (by omega) (by omega) ?_
          rw [e47]
          have hrb := hr b b0 (by omega)
          have hsb := hs (I 47 b) (by omega) (by omega)
          have hset := zbt_set (x := J (p + 5) (I 47 b)) (a := I 46 b) hsb.2.2.2.1 (by omega)
          refine wp_dup2 (t := 32) rfl rfl rfl ?_
          refine wp_iaload (t := 33) rfl (by omega) (by first | rfl | assumption) (by omega) (by omega) (by omega) ?_
          refine wp_iconst (t := 34) rfl ?_
          refine wp_aload_n (t := 35) rfl rfl ?_
          refine wp_getR (t := 36) (ji := 0) rfl fX3_27 rfl rfl (by omega) (by first | rfl | assumption) (by first | exact hW _ _ _ (by omega) rfl | assumption) ?_
          refine wp_getR (t := 37) (ji := 9) rfl fX3_44 rfl rfl (by omega) (by first | rfl | assumption) (by first | exact hW _ _ _ (by omega) rfl | assumption) ?_
          refine wp_iload_n (t := 38) rfl rfl ?_
          refine wp_iaload (t := 39) rfl (by omega) (by first | rfl | assumption) (by omega) (by omega) (by omega) ?_
          rw [e46]
          refine wp_ishl (t := 40) rfl ?_
          refine wp_ior (t := 41) rfl ?_
          refine wp_iastore (t := 42) rfl (by omega) (by first | rfl | assumption) (by omega) (by omega) (by omega) (zin_or _ _) ?_
          refine wp_canon (fun hI1 => ?_)
          refine wp_iinc (t := 43) rfl rfl (by decide) rfl ?_
          refine wp_goto (t := 44) (tgt := 28) rfl (by decide) ?_
          refine ih (b + 1) _ (by omega) (by omega) (by omega) (fun x hx => by rw [zu_ne (by omega)]; exact hf x hx) (fun c c0 c1 => ?_)
          have g := hs c c0 c1
          rw [zu_na (by omega), zu_na (by omega), zu_na (by omega)]
          by_cases e : c = I 47 b
          · rw [e, zu_eq]
            rw [← e] at hset ⊢
            refine ⟨g.1, g.2.1, g.2.2.1, hset.1, fun a a0 a1 => ?_⟩
            rw [hset.2 a a0 a1, Bool.or_eq_true, g.2.2.2.2 a a0 a1, decide_eq_true_iff]
            constructor
            · rintro (⟨x, x0, x1, x2, x3, x4⟩ | rfl)
              · exact ⟨x, x0, by omega, x2, x3, x4⟩
              · exact ⟨b, b0, by omega, h41, rfl, e.symm⟩
            · rintro ⟨x, x0, x1, x2, x3, x4⟩
              by_cases hx : x = b
              · exact Or.inr (by rw [← x3, hx])
              · exact Or.inl ⟨x, x0, by omega, x2, x3, x4⟩
          · rw [zu_ni e]
            refine ⟨g.1, g.2.1, g.2.2.1, g.2.2.2.1, fun a a0 a1 => (g.2.2.2.2 a a0 a1).trans ⟨fun ⟨x, x0, x1, x2, x3⟩ => ⟨x, x0, by omega, x2, x3⟩, fun ⟨x, x0, x1, x2, x3, x4⟩ => ⟨x, x0, ?_, x2, x3, x4⟩⟩⟩
            by_cases hx : x = b
            · rw [hx] at x4; exact absurd x4.symm e
            · omega
  have first : ∀ (k : Nat) (i : Int) (J : zMem), 0 ≤ i → i ≤ 6 → (6 - i).toNat = k → (∀ x : Nat, (x < p + 2 ∨ p + 5 < x) → J x = I x) → (∀ c : Int, 0 ≤ c → c < i → J (p + 2) c = 0 ∧ J (p + 3) c = 0 ∧ J (p + 4) c = 0 ∧ J (p + 5) c = 0) → WP G mX3_startOver (d + 1) 0 0 0 0 2 [some (zR p), some (zI lo), some (zI i)] [] n J R (zP0 (fun I' R' => zStart I I' p lo ∧ R' = R)) := by
    intro k
    induction k with
    | zero =>
      intro i J i0 i1 hk hf hz
      refine wp_canon (fun hI0 => ?_)
      refine wp_iload_n (t := 2) rfl rfl ?_
      refine wp_bipush (t := 3) rfl (by decide) ?_
      refine wp_icmp_ge (t := 4) (tgt := 26) rfl (by decide) (by first | assumption | exact hI0 _ _ | exact zin_and _ _ | (unfold zin; omega) | (unfold zin at *; omega)) (by first | assumption | exact hI0 _ _ | exact zin_and _ _ | (unfold zin; omega) | (unfold zin at *; omega)) (fun h5 => ?_) (fun h5 => ?_)
      · refine wp_iconst (t := 15) rfl ?_
        refine wp_istore_n (t := 16) rfl (by decide) rfl ?_
        refine second _ 0 J (by omega) (by omega) rfl hf (fun c c0 c1 => ?_)
        have g := hz c c0 (by omega)
        refine ⟨g.1, g.2.1, g.2.2.1, by omega, fun a a0 a1 => ?_⟩
        rw [g.2.2.2, zbt_zero a0 a1]
        exact ⟨fun h => (by cases h), fun ⟨x, x0, x1, _⟩ => absurd x1 (by omega)⟩
      · exact absurd h5 (by omega)
    | succ k ih =>
      intro i J i0 i1 hk hf hz
      refine wp_canon (fun hI0 => ?_)
      refine wp_iload_n (t := 2) rfl rfl ?_
      refine wp_bipush (t := 3) rfl (by decide) ?_
      refine wp_icmp_ge (t := 4) (tgt := 26) rfl (by decide) (by first | assumption | exact hI0 _ _ | exact zin_and _ _ | (unfold zin; omega) | (unfold zin at *; omega)) (by first | assumption | exact hI0 _ _ | exact zin_and _ _ | (unfold zin; omega) | (unfold zin at *; omega)) (fun h5 => ?_) (fun h5 => ?_)
      · refine wp_iconst (t := 15) rfl ?_
        refine wp_istore_n (t := 16) rfl (by decide) rfl ?_
        exact absurd h5 (by omega)
      · refine wp_aload_n (t := 5) rfl rfl ?_
        refine wp_iload_n (t := 6) rfl rfl ?_
        refine wp_vv (ci := 3) (c_X3_takeOff (d := d) hp hW hn ⟨i0, by omega⟩) (t := 7) rfl kX3_31 rfl rfl (by omega) (by first | rfl | assumption) ⟨_, _, rfl⟩ (Nat.le_of_ble_eq_true rfl) ⟨Nat.le_refl _, Nat.le_refl _⟩ (fun I10 R10 c10 => ?_)
        refine wp_canon (fun hI1 => ?_)
        obtain ⟨rfl, rfl⟩ := c10
        refine wp_aload_n (t := 8) rfl rfl ?_
        refine wp_getR (t := 9) (ji := 5) rfl fX3_24 rfl rfl (by omega) (by first | rfl | assumption) (by first | exact hW _ _ _ (by omega) rfl | assumption) ?_
        refine wp_iload_n (t := 10) rfl rfl ?_
        refine wp_iconst (t := 11) rfl ?_
        refine wp_iastore (t := 12) rfl (by omega) (by first | rfl | assumption) (by omega) (by omega) (by omega) (by first | assumption | exact hI1 _ _ | exact hI0 _ _ | exact zin_and _ _ | (unfold zin; omega) | (unfold zin at *; omega)) ?_
        refine wp_canon (fun hI2 => ?_)
        refine wp_iinc (t := 13) rfl rfl (by decide) rfl ?_
        refine wp_goto (t := 14) (tgt := 2) rfl (by decide) ?_
        refine ih (i + 1) _ (by omega) (by omega) (by omega) (fun x hx => by rw [zu_ne (by omega), zu_ne (by omega), zu_ne (by omega), zu_ne (by omega)]; exact hf x hx) (fun c c0 c1 => ?_)
        obtain ⟨q1, q2, q3, q4⟩ := zu3_eq (I := J) (p := p) (c := i) (w := 0) (t := 0) (u := 0)
        generalize zu (zu (zu J (p + 2) i 0) (p + 3) i 0) (p + 4) i 0 = J3 at q1 q2 q3 q4 ⊢
        rw [zu_na (by omega), zu_na (by omega), zu_na (by omega), q1, q2, q3]
        by_cases e : c = i
        · dsimp only
          rw [if_pos e, if_pos e, if_pos e, e, zu_eq]
          exact ⟨rfl, rfl, rfl, rfl⟩
        · have g := hz c c0 (by omega)
          dsimp only
          rw [if_neg e, if_neg e, if_neg e, zu_ni e, q4 _ (by omega) (by omega) (by omega)]
          exact g
  refine wp_ls (ls' := [some (zR p), some (zI lo), none]) rfl ?_
  refine wp_iconst (t := 0) rfl ?_
  refine wp_istore_n (t := 1) rfl (by decide) rfl ?_
  exact first _ 0 I (by omega) (by omega) rfl (fun _ _ => rfl) (fun c c0 c1 => absurd c1 (by omega))
end
section
/-! the bounds from below -/
def zmxf (P : Int → Bool) (v : Int → Int) : Nat → Int
  | 0 => 0
  | n + 1 => if P n then max (zmxf P v n) (v n) else zmxf P v n
theorem zmxf_succ (P : Int → Bool) (v : Int → Int) {c : Int} (h : 0 ≤ c) : zmxf P v (c + 1).toNat = if P c then max (zmxf P v c.toNat) (v c) else zmxf P v c.toNat := by
  rw [show (c + 1).toNat = c.toNat + 1 by omega]
  show (if P (c.toNat : Int) then max (zmxf P v c.toNat) (v (c.toNat : Int)) else zmxf P v c.toNat) = _
  rw [Int.toNat_of_nonneg h]
theorem zmxf_congr {P P' : Int → Bool} {v v' : Int → Int} : ∀ {n : Nat}, (∀ i : Int, 0 ≤ i → i < n → P i = P' i ∧ v i = v' i) → zmxf P v n = zmxf P' v' n := by
  intro n
  induction n with
  | zero => intro _; rfl
  | succ n ih =>
    intro h
    have g := h n (by omega) (by omega)
    show (if P n then max (zmxf P v n) (v n) else zmxf P v n) = (if P' n then max (zmxf P' v' n) (v' n) else zmxf P' v' n)
    rw [ih (fun i h0 h1 => h i h0 (by omega)), g.1, g.2]
theorem zmxf_b {P : Int → Bool} {v : Int → Int} {B : Int} (hB : 0 ≤ B) : ∀ {n : Nat}, (∀ i : Int, 0 ≤ i → i < n → 0 ≤ v i ∧ v i ≤ B) → 0 ≤ zmxf P v n ∧ zmxf P v n ≤ B := by
  intro n
  induction n with
  | zero => intro _; exact ⟨Int.le_refl _, hB⟩
  | succ n ih =>
    intro h
    have g := h n (by omega) (by omega)
    have g2 := ih (fun i h0 h1 => h i h0 (by omega))
    show 0 ≤ (if P n then max (zmxf P v n) (v n) else zmxf P v n) ∧ (if P n then max (zmxf P v n) (v n) else zmxf P v n) ≤ B
    split <;> omega
/-- of each core below n the longest path that ends with it -/
def zup (ah : Int → Int → Bool) (le : Int → Int) : Nat → Int → Int
  | 0 => fun _ => 0
  | n + 1 => fun x => if x = n then zmxf (fun a => ah a n) (zup ah le n) n + le n else zup ah le n x
theorem zup_succ (ah : Int → Int → Bool) (le : Int → Int) {c : Int} (h : 0 ≤ c) (x : Int) : zup ah le (c + 1).toNat x = if x = c then zmxf (fun a => ah a c) (zup ah le c.toNat) c.toNat + le c else zup ah le c.toNat x := by
  rw [show (c + 1).toNat = c.toNat + 1 by omega]
  show (if x = (c.toNat : Int) then zmxf (fun a => ah a (c.toNat : Int)) (zup ah le c.toNat) c.toNat + le (c.toNat : Int) else zup ah le c.toNat x) = _
  rw [Int.toNat_of_nonneg h]
theorem zup_b {ah : Int → Int → Bool} {le : Int → Int} : ∀ n : Nat, (∀ c : Int, 0 ≤ c → c < n → 0 ≤ le c ∧ le c ≤ 2234) → ∀ x : Int, 0 ≤ zup ah le n x ∧ zup ah le n x ≤ 2234 * n := by
  intro n
  induction n with
  | zero => intro _ x; exact ⟨Int.le_refl _, Int.le_refl _⟩
  | succ n ih =>
    intro h x
    have g := ih (fun c h0 h1 => h c h0 (by omega))
    have g2 := h n (by omega) (by omega)
    have g3 := zmxf_b (P := fun a => ah a n) (v := zup ah le n) (B := 2234 * n) (n := n) (by omega) (fun i _ _ => g i)
    have g4 := g x
    show 0 ≤ (if x = n then zmxf (fun a => ah a n) (zup ah le n) n + le n else zup ah le n x) ∧ (if x = n then zmxf (fun a => ah a n) (zup ah le n) n + le n else zup ah le n x) ≤ 2234 * ((n + 1 : Nat) : Int)
    split <;> omega
theorem zminf_b {f : Int → Int} {A B : Int} (hA : 0 ≤ A) (hAB : A ≤ 1000000) : ∀ n : Nat, (∀ w : Int, 1 ≤ w → w ≤ n → A ≤ f w ∧ f w ≤ B) → A ≤ zminf f n ∧ zminf f n ≤ 1000000 ∧ (0 < n → zminf f n ≤ B) := by
  intro n
  induction n with
  | zero => intro _; exact ⟨hAB, Int.le_refl _, fun h => absurd h (by omega)⟩
  | succ n ih =>
    intro h
    have g := ih (fun w h0 h1 => h w h0 (by omega))
    have g2 := h (n + 1) (by omega) (by omega)
    show A ≤ min (zminf f n) (f (n + 1)) ∧ min (zminf f n) (f (n + 1)) ≤ 1000000 ∧ (0 < n + 1 → min (zminf f n) (f (n + 1)) ≤ B)
    omega
def sLeast (S : zS) (c : Int) : Int := zminf (sT S c) (sL S).toNat
def sArea (S : zS) : Int := (zsum (fun c => zminf (fun w => w * sT S c w) (sL S).toNat) (sN S).toNat + sL S - 1) / sL S
def sPath (S : zS) : Int := zmxf (fun _ => true) (zup (sA S) (sLeast S) (sN S).toNat) (sN S).toNat
def sDrawn (S : zS) : Int := (zsum (fun c => sLeast S c * sD S c) (sN S).toNat + sP S - 1) / sP S
def sGreat (S : zS) : Int := max (max (sArea S) (sPath S)) (sDrawn S)
set_option maxHeartbeats 4000000 in
set_option maxRecDepth 100000 in
theorem c_X0_upward {G : zG} {d n : Nat} {I : zMem} {R : zRef} {x y : Int} (hx : 0 ≤ x ∧ x ≤ 10000000) (hy : 1 ≤ y ∧ y ≤ 1000) : MT G mX0_upward d 0 0 [zI x, zI y] n I R (zP1 (fun r I' R' => r = (x + y - 1) / y ∧ I' = I ∧ R' = R)) := by
  refine MT.of (by decide +kernel) tX0_upward_ok (Nat.le_of_ble_eq_true rfl) (fun hI0 => ?_)
  refine wp_ls (ls' := [some (zI x), some (zI y)]) rfl ?_
  refine wp_iload_n (t := 0) rfl rfl ?_
  refine wp_iconst (t := 1) rfl ?_
  refine wp_icmp_ge (t := 2) (tgt := 10) rfl (by decide) (by first | assumption | exact hI0 _ _ | exact zin_and _ _ | (unfold zin; omega) | (unfold zin at *; omega)) (by first | assumption | exact hI0 _ _ | exact zin_and _ _ | (unfold zin; omega) | (unfold zin at *; omega)) (fun h2 => ?_) (fun h2 => ?_)
  · refine wp_iload_n (t := 5) rfl rfl ?_
    refine wp_iload_n (t := 6) rfl rfl ?_
    refine wp_iadd (t := 7) rfl ?_
    refine wp_iconst (t := 8) rfl ?_
    refine wp_isub (t := 9) rfl ?_
    refine wp_iload_n (t := 10) rfl rfl ?_
    refine wp_idiv (t := 11) rfl (by first | assumption | exact hI0 _ _ | exact zin_and _ _ | (unfold zin; omega) | (unfold zin at *; omega)) (by first | assumption | exact hI0 _ _ | exact zin_and _ _ | (unfold zin; omega) | (unfold zin at *; omega)) (by omega) ?_
    refine wp_ireturn (t := 12) rfl rfl ?_
    exact ⟨_, rfl, Int.tdiv_eq_ediv_of_nonneg (by omega), rfl, rfl⟩
  · exact absurd h2 (by omega)
theorem zbo {o : Nat} (ho : o = 70 ∨ o = 92) : (zlay o).1 = 0 ∧ zlay (o + 1) = (20, 6) ∧ o < 110 ∧ 70 ≤ o := by
  rcases ho with rfl | rfl <;> decide
theorem zbr {o N : Nat} {R : zRef} (ho : o = 70 ∨ o = 92) (hW : zWir N R) (hN : 115 ≤ N) : R o 0 = some 34 ∧ R o 1 = some (o + 1) := by
  rcases ho with rfl | rfl
  · exact ⟨hW 70 0 _ (by omega) rfl, hW 70 1 _ (by omega) rfl⟩
  · exact ⟨hW 92 0 _ (by omega) rfl, hW 92 1 _ (by omega) rfl⟩
set_option maxHeartbeats 4000000 in
set_option maxRecDepth 100000 in
theorem c_X0_area {G : zG} {d n o : Nat} {I : zMem} {R : zRef} {p : Nat} (ho : o = 70 ∨ o = 92) (hp : p = 64 ∨ p = 86) (hW : zWir n R) (hn : 115 ≤ n) (hch : zCh I) (hpl : zPl I p) : MT G mX0_area (d + 3) 0 0 [zR o, zR p] n I R (zP1 (fun r I' R' => r = sArea (cS I p) ∧ I' = I ∧ R' = R)) := by
  refine MT.of (by decide +kernel) tX0_area_ok (Nat.le_of_ble_eq_true rfl) (fun hI0 => ?_)
  obtain ⟨hl0, hl1, hl2, hl3, hl4, hl5, hp1⟩ := zpl hp
  obtain ⟨hr0, hr1, hr2, hr3, hr4, hr5⟩ := zpr hp hW hn
  obtain ⟨hb0, hb1, hb2, hb3⟩ := zbo ho
  obtain ⟨hq0, hq1⟩ := zbr ho hW hn
  obtain ⟨f1, f2, f3, f4, f5, f6⟩ := cS_facts hch hpl
  have hco := hch.1
  have hli := hch.2.1
  have hmul : ∀ c w : Int, 0 ≤ c → c < I 34 2 → 1 ≤ w → w ≤ I 34 0 → 0 ≤ w * sT (cS I p) c w ∧ w * sT (cS I p) c w ≤ 17872 := fun c w c0 c1 w0 w1 => by
    have hT := f5 c w c0 c1 w0 w1
    exact zmulb (A := 8) (B := 2234) (by omega) (by omega) (by omega) hT.2
  have hmin : ∀ c : Int, 0 ≤ c → c < I 34 2 → 0 ≤ zminf (fun w => w * sT (cS I p) c w) (I 34 0).toNat ∧ zminf (fun w => w * sT (cS I p) c w) (I 34 0).toNat ≤ 17872 := fun c c0 c1 => by
    have := zminf_b (f := fun w => w * sT (cS I p) c w) (A := 0) (B := 17872) (by omega) (by omega) (I 34 0).toNat (fun w w0 w1 => hmul c w c0 c1 w0 (by omega))
    omega
  have hsum := fun k : Nat => zsum_bounds (a := 0) (b := 17872) (n := k) (f := fun c => zminf (fun w => w * sT (cS I p) c w) (I 34 0).toNat)
  have key : ∀ (m : Nat) (c s : Int) (x4 x5 : Option zV), 0 ≤ c → c ≤ I 34 2 → (I 34 2 - c).toNat = m → s = zsum (fun c => zminf (fun w => w * sT (cS I p) c w) (I 34 0).toNat) c.toNat → WP G mX0_area (d + 3) 0 0 0 0 4 [some (zR o), some (zR p), some (zI s), some (zI c), x4, x5] [] n I R (zP1 (fun r I' R' => r = sArea (cS I p) ∧ I' = I ∧ R' = R)) := by
    intro m
    induction m with
    | zero =>
      intro c s x4 x5 h0 h1 hm hs
      have hsb := hsum c.toNat (fun i i0 i1 => hmin i i0 (by omega))
      rw [← hs] at hsb
      refine wp_iload_n (t := 4) rfl rfl ?_
      refine wp_aload_n (t := 5) rfl rfl ?_
      refine wp_getR (t := 6) (ji := 0) rfl fX0_15 rfl rfl (by omega) (by first | rfl | assumption) (by first | exact hW _ _ _ (by omega) rfl | assumption) ?_
      refine wp_getI (t := 7) (ji := 2) rfl fX0_19 rfl rfl (by omega) (by first | rfl | assumption) ?_
      refine wp_icmp_ge (t := 8) (tgt := 68) rfl (by decide) (by first | assumption | exact hI0 _ _ | exact zin_and _ _ | (unfold zin; omega) | (unfold zin at *; omega)) (by first | assumption | exact hI0 _ _ | exact zin_and _ _ | (unfold zin; omega) | (unfold zin at *; omega)) (fun h12 => ?_) (fun h12 => ?_)
      · refine wp_iload_n (t := 35) rfl rfl ?_
        refine wp_aload_n (t := 36) rfl rfl ?_
        refine wp_getR (t := 37) (ji := 0) rfl fX0_15 rfl rfl (by omega) (by first | rfl | assumption) (by first | exact hW _ _ _ (by omega) rfl | assumption) ?_
        refine wp_getI (t := 38) (ji := 0) rfl fX0_26 rfl rfl (by omega) (by first | rfl | assumption) ?_
        refine wp_si (c_X0_upward (d := d + 2) (by omega) (by omega)) (t := 39) rfl kX0_40 rfl rfl (Nat.le_of_ble_eq_true rfl) ⟨Nat.le_refl _, Nat.le_refl _⟩ (fun r76 I76 R76 c76 => ?_)
        refine wp_canon (fun hI1 => ?_)
        obtain ⟨rfl, rfl, rfl⟩ := c76
        refine wp_ireturn (t := 40) rfl rfl ?_
        exact ⟨_, rfl, by rw [hs, show c = I76 34 2 by omega]; rfl, rfl, rfl⟩
      · exact absurd h12 (by omega)
    | succ m ih =>
      intro c s x4 x5 h0 h1 hm hs
      have inner : ∀ (k : Nat) (w le : Int), 1 ≤ w → w ≤ I 34 0 + 1 → (I 34 0 + 1 - w).toNat = k → c < I 34 2 → le = zminf (fun w => w * sT (cS I p) c w) (w - 1).toNat → 0 ≤ le ∧ le ≤ 1000000 → WP G mX0_area (d + 3) 0 0 0 0 22 [some (zR o), some (zR p), some (zI s), some (zI c), some (zI le), some (zI w)] [] n I R (zP1 (fun r I' R' => r = sArea (cS I p) ∧ I' = I ∧ R' = R)) := by
        intro k
        induction k with
        | zero =>
          intro w le w0 w1 hk hc9 hle hb
          refine wp_iload (t := 13) rfl rfl ?_
          refine wp_aload_n (t := 14) rfl rfl ?_
          refine wp_getR (t := 15) (ji := 0) rfl fX0_15 rfl rfl (by omega) (by first | rfl | assumption) (by first | exact hW _ _ _ (by omega) rfl | assumption) ?_
          refine wp_getI (t := 16) (ji := 0) rfl fX0_26 rfl rfl (by omega) (by first | rfl | assumption) ?_
          refine wp_icmp_gt (t := 17) (tgt := 57) rfl (by decide) (by first | assumption | exact hI0 _ _ | exact zin_and _ _ | (unfold zin; omega) | (unfold zin at *; omega)) (by first | assumption | exact hI0 _ _ | exact zin_and _ _ | (unfold zin; omega) | (unfold zin at *; omega)) (fun h31 => ?_) (fun h31 => ?_)
          · refine wp_iload_n (t := 29) rfl rfl ?_
            refine wp_iload (t := 30) rfl rfl ?_
            refine wp_iadd (t := 31) rfl ?_
            refine wp_istore_n (t := 32) rfl (by decide) rfl ?_
            refine wp_iinc (t := 33) rfl rfl (by decide) rfl ?_
            refine wp_goto (t := 34) (tgt := 4) rfl (by decide) ?_
            refine ih (c + 1) _ _ _ (by omega) (by omega) (by omega) ?_
            rw [zsum_succ _ h0, ← hs, hle, show w - 1 = I 34 0 by omega]
          · exact absurd h31 (by omega)
        | succ k ihk =>
          intro w le w0 w1 hk hc9 hle hb
          have hwl : w < I 34 0 + 1 := by omega
          have hT := f5 c w h0 hc9 w0 (by show w ≤ I 34 0; omega)
          have hcc := hch.2.2.2.2.1 c h0 hc9
          have hlo := hcc.2.2.2.2 w w0 (by omega)
          have hmu := hmul c w h0 hc9 w0 (by omega)
          refine wp_iload (t := 13) rfl rfl ?_
          refine wp_aload_n (t := 14) rfl rfl ?_
          refine wp_getR (t := 15) (ji := 0) rfl fX0_15 rfl rfl (by omega) (by first | rfl | assumption) (by first | exact hW _ _ _ (by omega) rfl | assumption) ?_
          refine wp_getI (t := 16) (ji := 0) rfl fX0_26 rfl rfl (by omega) (by first | rfl | assumption) ?_
          refine wp_icmp_gt (t := 17) (tgt := 57) rfl (by decide) (by first | assumption | exact hI0 _ _ | exact zin_and _ _ | (unfold zin; omega) | (unfold zin at *; omega)) (by first | assumption | exact hI0 _ _ | exact zin_and _ _ | (unfold zin; omega) | (unfold zin at *; omega)) (fun h31 => ?_) (fun h31 => ?_)
          · exact absurd h31 (by omega)
          · refine wp_iload (t := 18) rfl rfl ?_
            refine wp_iload (t := 19) rfl rfl ?_
            refine wp_aload_n (t := 20) rfl rfl ?_
            refine wp_iload_n (t := 21) rfl rfl ?_
            refine wp_iload (t := 22) rfl rfl ?_
            refine wp_vi (ci := 3) (c_X3_takes (d := d) hp hW hn ⟨h0, by omega⟩ ⟨by omega, by omega⟩ ⟨by omega, by omega⟩ ⟨by omega, by omega⟩) (t := 23) rfl kX0_29 rfl rfl (by omega) (by first | rfl | assumption) ⟨_, _, rfl⟩ (Nat.le_of_ble_eq_true rfl) ⟨Nat.le_refl _, Nat.le_refl _⟩ (fun r42 I42 R42 c42 => ?_)
            refine wp_canon (fun hI1 => ?_)
            obtain ⟨rfl, rfl, rfl⟩ := c42
            refine wp_imul (t := 24) rfl ?_
            refine wp_min (t := 25) rfl (wsL_law_r33_l (List.mem_of_getElem? (i := 16) rfl)) (by first | assumption | exact hI1 _ _ | exact hI0 _ _ | exact zin_and _ _ | (unfold zin; omega) | (unfold zin at *; omega)) (by first | assumption | exact hI1 _ _ | exact hI0 _ _ | exact zin_and _ _ | (unfold zin; omega) | (unfold zin at *; omega)) (Nat.le_of_ble_eq_true rfl) ⟨Nat.le_refl _, Nat.le_refl _⟩ ?_
            refine wp_istore (t := 26) rfl (by decide) rfl ?_
            refine wp_iinc (t := 27) rfl rfl (by decide) rfl ?_
            refine wp_goto (t := 28) (tgt := 22) rfl (by decide) ?_
            refine ihk (w + 1) _ (by omega) (by omega) (by omega) hc9 ?_ (by omega)
            rw [show w + 1 - 1 = w by omega, zminf_succ _ w0, ← hle]
      refine wp_iload_n (t := 4) rfl rfl ?_
      refine wp_aload_n (t := 5) rfl rfl ?_
      refine wp_getR (t := 6) (ji := 0) rfl fX0_15 rfl rfl (by omega) (by first | rfl | assumption) (by first | exact hW _ _ _ (by omega) rfl | assumption) ?_
      refine wp_getI (t := 7) (ji := 2) rfl fX0_19 rfl rfl (by omega) (by first | rfl | assumption) ?_
      refine wp_icmp_ge (t := 8) (tgt := 68) rfl (by decide) (by first | assumption | exact hI0 _ _ | exact zin_and _ _ | (unfold zin; omega) | (unfold zin at *; omega)) (by first | assumption | exact hI0 _ _ | exact zin_and _ _ | (unfold zin; omega) | (unfold zin at *; omega)) (fun h12 => ?_) (fun h12 => ?_)
      · exact absurd h12 (by omega)
      · refine wp_ldc (1000000) (t := 9) rfl (wsL_law_r33_l (List.mem_of_getElem? (i := 14) rfl)) (by decide) ?_
        refine wp_istore (t := 10) rfl (by decide) rfl ?_
        refine wp_iconst (t := 11) rfl ?_
        refine wp_istore (t := 12) rfl (by decide) rfl ?_
        exact inner _ 1 1000000 (by omega) (by omega) rfl (by omega) rfl (by omega)
  refine wp_ls (ls' := [some (zR o), some (zR p), none, none, none, none]) rfl ?_
  refine wp_iconst (t := 0) rfl ?_
  refine wp_istore_n (t := 1) rfl (by decide) rfl ?_
  refine wp_iconst (t := 2) rfl ?_
  refine wp_istore_n (t := 3) rfl (by decide) rfl ?_
  exact key _ 0 0 _ _ (by omega) (by omega) rfl rfl
set_option maxHeartbeats 4000000 in
set_option maxRecDepth 100000 in
theorem c_X0_drawn {G : zG} {d n o : Nat} {I : zMem} {R : zRef} {p : Nat} (ho : o = 70 ∨ o = 92) (hp : p = 64 ∨ p = 86) (hW : zWir n R) (hn : 115 ≤ n) (hch : zCh I) (hpl : zPl I p) : MT G mX0_drawn (d + 4) 0 0 [zR o, zR p] n I R (zP1 (fun r I' R' => r = sDrawn (cS I p) ∧ I' = I ∧ R' = R)) := by
  refine MT.of (by decide +kernel) tX0_drawn_ok (Nat.le_of_ble_eq_true rfl) (fun hI0 => ?_)
  obtain ⟨hl0, hl1, hl2, hl3, hl4, hl5, hp1⟩ := zpl hp
  obtain ⟨hr0, hr1, hr2, hr3, hr4, hr5⟩ := zpr hp hW hn
  obtain ⟨hb0, hb1, hb2, hb3⟩ := zbo ho
  obtain ⟨hq0, hq1⟩ := zbr ho hW hn
  obtain ⟨f1, f2, f3, f4, f5, f6⟩ := cS_facts hch hpl
  have hco := hch.1
  have hli := hch.2.1
  have hpo := hch.2.2.1
  have hmin : ∀ c : Int, 0 ≤ c → c < I 34 2 → 0 ≤ sLeast (cS I p) c ∧ sLeast (cS I p) c ≤ 2234 := fun c c0 c1 => by
    have := zminf_b (f := sT (cS I p) c) (A := 0) (B := 2234) (by omega) (by omega) (I 34 0).toNat (fun w w0 w1 => by
      have := f5 c w c0 c1 w0 (by show w ≤ I 34 0; omega)
      omega)
    show 0 ≤ zminf (sT (cS I p) c) (I 34 0).toNat ∧ zminf (sT (cS I p) c) (I 34 0).toNat ≤ 2234
    omega
  have hmul : ∀ c : Int, 0 ≤ c → c < I 34 2 → 0 ≤ sLeast (cS I p) c * I 37 c ∧ sLeast (cS I p) c * I 37 c ≤ 67020 := fun c c0 c1 => by
    have g := hmin c c0 c1
    have g2 := (hch.2.2.2.2.1 c c0 c1).2.1
    exact zmulb (A := 2234) (B := 30) g.1 g.2 (by omega) g2.2
  have hsum := fun k : Nat => zsum_bounds (a := 0) (b := 67020) (n := k) (f := fun c => sLeast (cS I p) c * I 37 c)
  have key : ∀ (m : Nat) (c s : Int), 0 ≤ c → c ≤ I 34 2 → (I 34 2 - c).toNat = m → s = zsum (fun c => sLeast (cS I p) c * I 37 c) c.toNat → WP G mX0_drawn (d + 4) 0 0 0 0 4 [some (zR o), some (zR p), some (zI s), some (zI c)] [] n I R (zP1 (fun r I' R' => r = sDrawn (cS I p) ∧ I' = I ∧ R' = R)) := by
    intro m
    induction m with
    | zero =>
      intro c s h0 h1 hm hs
      have hsb := hsum c.toNat (fun i i0 i1 => hmul i i0 (by omega))
      rw [← hs] at hsb
      refine wp_iload_n (t := 4) rfl rfl ?_
      refine wp_aload_n (t := 5) rfl rfl ?_
      refine wp_getR (t := 6) (ji := 0) rfl fX0_15 rfl rfl (by omega) (by first | rfl | assumption) (by first | exact hW _ _ _ (by omega) rfl | assumption) ?_
      refine wp_getI (t := 7) (ji := 2) rfl fX0_19 rfl rfl (by omega) (by first | rfl | assumption) ?_
      refine wp_icmp_ge (t := 8) (tgt := 39) rfl (by decide) (by first | assumption | exact hI0 _ _ | exact zin_and _ _ | (unfold zin; omega) | (unfold zin at *; omega)) (by first | assumption | exact hI0 _ _ | exact zin_and _ _ | (unfold zin; omega) | (unfold zin at *; omega)) (fun h12 => ?_) (fun h12 => ?_)
      · refine wp_iload_n (t := 23) rfl rfl ?_
        refine wp_aload_n (t := 24) rfl rfl ?_
        refine wp_getR (t := 25) (ji := 0) rfl fX0_15 rfl rfl (by omega) (by first | rfl | assumption) (by first | exact hW _ _ _ (by omega) rfl | assumption) ?_
        refine wp_getI (t := 26) (ji := 1) rfl fX0_56 rfl rfl (by omega) (by first | rfl | assumption) ?_
        refine wp_si (c_X0_upward (d := d + 3) (by omega) (by omega)) (t := 27) rfl kX0_40 rfl rfl (Nat.le_of_ble_eq_true rfl) ⟨Nat.le_refl _, Nat.le_refl _⟩ (fun r47 I47 R47 c47 => ?_)
        refine wp_canon (fun hI1 => ?_)
        obtain ⟨rfl, rfl, rfl⟩ := c47
        refine wp_ireturn (t := 28) rfl rfl ?_
        exact ⟨_, rfl, by rw [hs, show c = I47 34 2 by omega]; rfl, rfl, rfl⟩
      · exact absurd h12 (by omega)
    | succ m ih =>
      intro c s h0 h1 hm hs
      refine wp_iload_n (t := 4) rfl rfl ?_
      refine wp_aload_n (t := 5) rfl rfl ?_
      refine wp_getR (t := 6) (ji := 0) rfl fX0_15 rfl rfl (by omega) (by first | rfl | assumption) (by first | exact hW _ _ _ (by omega) rfl | assumption) ?_
      refine wp_getI (t := 7) (ji := 2) rfl fX0_19 rfl rfl (by omega) (by first | rfl | assumption) ?_
      refine wp_icmp_ge (t := 8) (tgt := 39) rfl (by decide) (by first | assumption | exact hI0 _ _ | exact zin_and _ _ | (unfold zin; omega) | (unfold zin at *; omega)) (by first | assumption | exact hI0 _ _ | exact zin_and _ _ | (unfold zin; omega) | (unfold zin at *; omega)) (fun h12 => ?_) (fun h12 => ?_)
      · exact absurd h12 (by omega)
      · refine wp_iload_n (t := 9) rfl rfl ?_
        refine wp_aload_n (t := 10) rfl rfl ?_
        refine wp_iload_n (t := 11) rfl rfl ?_
        refine wp_vi (ci := 3) (c_X3_leastTaken (d := d) hp hW hn hch hpl ⟨h0, by omega⟩) (t := 12) rfl kX0_49 rfl rfl (by omega) (by first | rfl | assumption) ⟨_, _, rfl⟩ (Nat.le_of_ble_eq_true rfl) ⟨Nat.le_refl _, Nat.le_refl _⟩ (fun r18 I18 R18 c18 => ?_)
        refine wp_canon (fun hI1 => ?_)
        obtain ⟨rfl, rfl, rfl⟩ := c18
        refine wp_aload_n (t := 13) rfl rfl ?_
        refine wp_getR (t := 14) (ji := 0) rfl fX0_15 rfl rfl (by omega) (by first | rfl | assumption) (by first | exact hW _ _ _ (by omega) rfl | assumption) ?_
        refine wp_getR (t := 15) (ji := 6) rfl fX0_53 rfl rfl (by omega) (by first | rfl | assumption) (by first | exact hW _ _ _ (by omega) rfl | assumption) ?_
        refine wp_iload_n (t := 16) rfl rfl ?_
        refine wp_iaload (t := 17) rfl (by omega) (by first | rfl | assumption) (by omega) (by omega) (by omega) ?_
        refine wp_imul (t := 18) rfl ?_
        refine wp_iadd (t := 19) rfl ?_
        refine wp_istore_n (t := 20) rfl (by decide) rfl ?_
        refine wp_iinc (t := 21) rfl rfl (by decide) rfl ?_
        refine wp_goto (t := 22) (tgt := 4) rfl (by decide) ?_
        refine ih (c + 1) _ (by omega) (by omega) (by omega) ?_
        rw [zsum_succ _ h0, ← hs]; rfl
  refine wp_ls (ls' := [some (zR o), some (zR p), none, none]) rfl ?_
  refine wp_iconst (t := 0) rfl ?_
  refine wp_istore_n (t := 1) rfl (by decide) rfl ?_
  refine wp_iconst (t := 2) rfl ?_
  refine wp_istore_n (t := 3) rfl (by decide) rfl ?_
  exact key _ 0 0 (by omega) (by omega) rfl rfl
theorem cS_ext {I J : zMem} {p : Nat} (h34 : J 34 = I 34) (h36 : J 36 = I 36) (h37 : J 37 = I 37) (h49 : ∀ b : Nat, 49 ≤ b → b ≤ 54 → J b = I b) (h1 : J (p + 1) = I (p + 1)) (h2 : J (p + 2) = I (p + 2)) (h3 : J (p + 3) = I (p + 3)) (h4 : J (p + 4) = I (p + 4)) (h5 : J (p + 5) = I (p + 5)) : cS J p = cS I p := by
  have eT : (fun (c w : Int) => if 0 ≤ c ∧ c < 6 then tkOf (J (p + 1) c) (J 36 c) (J (49 + c.toNat) w) else 0) = (fun (c w : Int) => if 0 ≤ c ∧ c < 6 then tkOf (I (p + 1) c) (I 36 c) (I (49 + c.toNat) w) else 0) := by
    funext c w
    by_cases g : 0 ≤ c ∧ c < 6
    · rw [if_pos g, if_pos g, h1, h36, h49 _ (by omega) (by omega)]
    · rw [if_neg g, if_neg g]
  show ((J 34 2, J 34 0, J 34 1), J 37, _, (fun a c => zbt (J (p + 5) c) a), J (p + 2), J (p + 3), J (p + 4)) = _
  rw [eT, h34, h37, h2, h3, h4, h5]
  rfl
theorem zCh_ext {I J : zMem} (h : ∀ b : Nat, 34 ≤ b → b ≤ 54 → J b = I b) (hc : zCh I) : zCh J := by
  unfold zCh at hc ⊢
  rw [h 34 (by omega) (by omega), h 36 (by omega) (by omega), h 37 (by omega) (by omega), h 38 (by omega) (by omega), h 46 (by omega) (by omega), h 47 (by omega) (by omega)]
  refine ⟨hc.1, hc.2.1, hc.2.2.1, hc.2.2.2.1, fun c c0 c1 => ?_, hc.2.2.2.2.2⟩
  have g := hc.2.2.2.2.1 c c0 c1
  have g6 := hc.1
  rw [h (40 + c.toNat) (by omega) (by omega), h (49 + c.toNat) (by omega) (by omega)]
  exact g
theorem zPl_ext {I J : zMem} {p : Nat} (h34 : J 34 = I 34) (h1 : J (p + 1) = I (p + 1)) (h2 : J (p + 2) = I (p + 2)) (h3 : J (p + 3) = I (p + 3)) (h4 : J (p + 4) = I (p + 4)) (h5 : J (p + 5) = I (p + 5)) (hp : zPl I p) : zPl J p := by
  unfold zPl at hp ⊢
  rw [h34, h1, h2, h3, h4, h5]
  exact hp
set_option maxHeartbeats 4000000 in
set_option maxRecDepth 100000 in
theorem c_X0_path {G : zG} {d n o : Nat} {I : zMem} {R : zRef} {p : Nat} (ho : o = 70 ∨ o = 92) (hp : p = 64 ∨ p = 86) (hW : zWir n R) (hn : 115 ≤ n) (hch : zCh I) (hpl : zPl I p) : MT G mX0_path (d + 4) 0 0 [zR o, zR p] n I R (zP1 (fun r I' R' => r = sPath (cS I p) ∧ (∀ b : Nat, b ≠ o + 1 → I' b = I b) ∧ R' = R)) := by
  refine MT.of (by decide +kernel) tX0_path_ok (Nat.le_of_ble_eq_true rfl) (fun hI0 => ?_)
  obtain ⟨hl0, hl1, hl2, hl3, hl4, hl5, hp1⟩ := zpl hp
  obtain ⟨hr0, hr1, hr2, hr3, hr4, hr5⟩ := zpr hp hW hn
  obtain ⟨hb0, hb1, hb2, hb3⟩ := zbo ho
  obtain ⟨hq0, hq1⟩ := zbr ho hW hn
  obtain ⟨f1, f2, f3, f4, f5, f6⟩ := cS_facts hch hpl
  have hco := hch.1
  have hli := hch.2.1
  have hmin : ∀ c : Int, 0 ≤ c → c < I 34 2 → 0 ≤ sLeast (cS I p) c ∧ sLeast (cS I p) c ≤ 2234 := fun c c0 c1 => by
    have := zminf_b (f := sT (cS I p) c) (A := 0) (B := 2234) (by omega) (by omega) (I 34 0).toNat (fun w w0 w1 => by
      have := f5 c w c0 c1 w0 (by show w ≤ I 34 0; omega)
      omega)
    show 0 ≤ zminf (sT (cS I p) c) (I 34 0).toNat ∧ zminf (sT (cS I p) c) (I 34 0).toNat ≤ 2234
    omega
  have hup : ∀ k : Nat, (k : Int) ≤ I 34 2 → ∀ x : Int, 0 ≤ zup (sA (cS I p)) (sLeast (cS I p)) k x ∧ zup (sA (cS I p)) (sLeast (cS I p)) k x ≤ 13404 := fun k hk x => by
    have := zup_b (ah := sA (cS I p)) (le := sLeast (cS I p)) k (fun c c0 c1 => hmin c c0 (by omega)) x
    omega
  have ne : o + 1 ≠ 34 ∧ o + 1 ≠ 36 ∧ o + 1 ≠ 37 ∧ o + 1 ≠ p + 1 ∧ o + 1 ≠ p + 2 ∧ o + 1 ≠ p + 3 ∧ o + 1 ≠ p + 4 ∧ o + 1 ≠ p + 5 := by omega
  have hsame : ∀ J : zMem, (∀ b : Nat, b ≠ o + 1 → J b = I b) → cS J p = cS I p ∧ zCh J ∧ zPl J p := fun J hf => ⟨cS_ext (hf _ (by omega)) (hf _ (by omega)) (hf _ (by omega)) (fun b _ _ => hf b (by omega)) (hf _ (by omega)) (hf _ (by omega)) (hf _ (by omega)) (hf _ (by omega)) (hf _ (by omega)), zCh_ext (fun b _ _ => hf b (by omega)) hch, zPl_ext (hf _ (by omega)) (hf _ (by omega)) (hf _ (by omega)) (hf _ (by omega)) (hf _ (by omega)) (hf _ (by omega)) hpl⟩
  have key : ∀ (m : Nat) (c s : Int) (J : zMem) (x4 x5 : Option zV), 0 ≤ c → c ≤ I 34 2 → (I 34 2 - c).toNat = m → (∀ b : Nat, b ≠ o + 1 → J b = I b) → (∀ x : Int, 0 ≤ x → x < c → J (o + 1) x = zup (sA (cS I p)) (sLeast (cS I p)) c.toNat x) → s = zmxf (fun _ => true) (zup (sA (cS I p)) (sLeast (cS I p)) c.toNat) c.toNat → WP G mX0_path (d + 4) 0 0 0 0 4 [some (zR o), some (zR p), some (zI s), some (zI c), x4, x5] [] n J R (zP1 (fun r I' R' => r = sPath (cS I p) ∧ (∀ b : Nat, b ≠ o + 1 → I' b = I b) ∧ R' = R)) := by
    intro m
    induction m with
    | zero =>
      intro c s J x4 x5 h0 h1 hm hf hu hs
      have e34 : J 34 = I 34 := hf 34 (by omega)
      refine wp_canon (fun hI0 => ?_)
      refine wp_iload_n (t := 4) rfl rfl ?_
      refine wp_aload_n (t := 5) rfl rfl ?_
      refine wp_getR (t := 6) (ji := 0) rfl fX0_15 rfl rfl (by omega) (by first | rfl | assumption) (by first | exact hW _ _ _ (by omega) rfl | assumption) ?_
      refine wp_getI (t := 7) (ji := 2) rfl fX0_19 rfl rfl (by omega) (by first | rfl | assumption) ?_
      rw [e34]
      refine wp_icmp_ge (t := 8) (tgt := 93) rfl (by decide) (by first | assumption | exact hI0 _ _ | exact zin_and _ _ | (unfold zin; omega) | (unfold zin at *; omega)) (by first | assumption | exact hI0 _ _ | exact zin_and _ _ | (unfold zin; omega) | (unfold zin at *; omega)) (fun h12 => ?_) (fun h12 => ?_)
      · refine wp_iload_n (t := 53) rfl rfl ?_
        refine wp_ireturn (t := 54) rfl rfl ?_
        exact ⟨_, rfl, by rw [hs, show c = I 34 2 by omega]; rfl, hf, rfl⟩
      · exact absurd h12 (by omega)
    | succ m ih =>
      intro c s J x4 x5 h0 h1 hm hf hu hs
      have e34 : J 34 = I 34 := hf 34 (by omega)
      have e5 : J (p + 5) = I (p + 5) := hf _ (by omega)
      refine wp_canon (fun hI0 => ?_)
      have hupc := hup c.toNat (by omega)
      have hus := zup_succ (sA (cS I p)) (sLeast (cS I p)) h0
      obtain ⟨sm1, sm2, sm3⟩ := hsame J hf
      have hsb := zmxf_b (P := fun _ => true) (v := zup (sA (cS I p)) (sLeast (cS I p)) c.toNat) (B := 13404) (n := c.toNat) (by omega) (fun i _ _ => hupc i)
      rw [← hs] at hsb
      have inner : ∀ (k : Nat) (a be : Int), 0 ≤ a → a ≤ c → (c - a).toNat = k → c < I 34 2 → be = zmxf (fun a => sA (cS I p) a c) (zup (sA (cS I p)) (sLeast (cS I p)) c.toNat) a.toNat → WP G mX0_path (d + 4) 0 0 0 0 21 [some (zR o), some (zR p), some (zI s), some (zI c), some (zI be), some (zI a)] [] n J R (zP1 (fun r I' R' => r = sPath (cS I p) ∧ (∀ b : Nat, b ≠ o + 1 → I' b = I b) ∧ R' = R)) := by
        intro k
        induction k with
        | zero =>
          intro a be a0 a1 hk hc9 hbe
          have hbb := zmxf_b (P := fun a => sA (cS I p) a c) (v := zup (sA (cS I p)) (sLeast (cS I p)) c.toNat) (B := 13404) (n := a.toNat) (by omega) (fun i _ _ => hupc i)
          rw [← hbe] at hbb
          have hmc := hmin c h0 hc9
          refine wp_iload (t := 13) rfl rfl ?_
          refine wp_iload_n (t := 14) rfl rfl ?_
          refine wp_icmp_ge (t := 15) (tgt := 62) rfl (by decide) (by first | assumption | exact hI0 _ _ | exact zin_and _ _ | (unfold zin; omega) | (unfold zin at *; omega)) (by first | assumption | exact hI0 _ _ | exact zin_and _ _ | (unfold zin; omega) | (unfold zin at *; omega)) (fun h24 => ?_) (fun h24 => ?_)
          · refine wp_aload_n (t := 35) rfl rfl ?_
            refine wp_getR (t := 36) (ji := 1) rfl fX0_9 rfl rfl (by omega) (by first | rfl | assumption) (by first | exact hW _ _ _ (by omega) rfl | assumption) ?_
            refine wp_iload_n (t := 37) rfl rfl ?_
            refine wp_iload (t := 38) rfl rfl ?_
            refine wp_aload_n (t := 39) rfl rfl ?_
            refine wp_iload_n (t := 40) rfl rfl ?_
            refine wp_vi (ci := 3) (c_X3_leastTaken (d := d) hp hW hn sm2 sm3 ⟨h0, by rw [e34]; omega⟩) (t := 41) rfl kX0_49 rfl rfl (by omega) (by first | rfl | assumption) ⟨_, _, rfl⟩ (Nat.le_of_ble_eq_true rfl) ⟨Nat.le_refl _, Nat.le_refl _⟩ (fun r71 I71 R71 c71 => ?_)
            refine wp_canon (fun hI1 => ?_)
            obtain ⟨e71, rfl, rfl⟩ := c71
            have e71 : r71 = sLeast (cS I p) c := by rw [e71, sm1, e34]; rfl
            subst e71
            refine wp_iadd (t := 42) rfl ?_
            refine wp_iastore (t := 43) rfl (by omega) (by first | rfl | assumption) (by omega) (by omega) (by omega) (by first | assumption | exact hI1 _ _ | exact hI0 _ _ | exact zin_and _ _ | (unfold zin; omega) | (unfold zin at *; omega)) ?_
            refine wp_canon (fun hI2 => ?_)
            refine wp_iload_n (t := 44) rfl rfl ?_
            refine wp_aload_n (t := 45) rfl rfl ?_
            refine wp_getR (t := 46) (ji := 1) rfl fX0_9 rfl rfl (by omega) (by first | rfl | assumption) (by first | exact hW _ _ _ (by omega) rfl | assumption) ?_
            refine wp_iload_n (t := 47) rfl rfl ?_
            refine wp_iaload (t := 48) rfl (by omega) (by first | rfl | assumption) (by omega) (by omega) (by omega) ?_
            rw [zu_eq]
            refine wp_max (t := 49) rfl (wsL_law_r34_l (List.mem_of_getElem? (i := 4) rfl)) (by first | assumption | exact hI2 _ _ | exact hI1 _ _ | exact hI0 _ _ | exact zin_and _ _ | (unfold zin; omega) | (unfold zin at *; omega)) (by first | assumption | exact hI2 _ _ | exact hI1 _ _ | exact hI0 _ _ | exact zin_and _ _ | (unfold zin; omega) | (unfold zin at *; omega)) (Nat.le_of_ble_eq_true rfl) ⟨Nat.le_refl _, Nat.le_refl _⟩ ?_
            refine wp_istore_n (t := 50) rfl (by decide) rfl ?_
            refine wp_iinc (t := 51) rfl rfl (by decide) rfl ?_
            refine wp_goto (t := 52) (tgt := 4) rfl (by decide) ?_
            have eac : a.toNat = c.toNat := by omega
            refine ih (c + 1) _ _ _ _ (by omega) (by omega) (by omega) (fun b hb => by rw [zu_ne hb]; exact hf b hb) (fun x x0 x1 => ?_) ?_
            · rw [hus x]
              by_cases e : x = c
              · rw [if_pos e, e, zu_eq, hbe, eac]
              · rw [if_neg e, zu_ni e]
                exact hu x x0 (by omega)
            · rw [zmxf_succ _ _ h0, if_pos rfl, hus c, if_pos rfl, hs, hbe, eac]
              congr 1
              exact zmxf_congr (fun i i0 i1 => ⟨rfl, by rw [hus i, if_neg (by omega)]⟩)
          · exact absurd h24 (by omega)
        | succ k ihk =>
          intro a be a0 a1 hk hc9 hbe
          have hbb := zmxf_b (P := fun a => sA (cS I p) a c) (v := zup (sA (cS I p)) (sLeast (cS I p)) c.toNat) (B := 13404) (n := a.toNat) (by omega) (fun i _ _ => hupc i)
          rw [← hbe] at hbb
          have hua := hu a a0 (by omega)
          have hub := hupc a
          have hms := zmxf_succ (fun a => sA (cS I p) a c) (zup (sA (cS I p)) (sLeast (cS I p)) c.toNat) a0
          rw [← hbe] at hms
          refine wp_iload (t := 13) rfl rfl ?_
          refine wp_iload_n (t := 14) rfl rfl ?_
          refine wp_icmp_ge (t := 15) (tgt := 62) rfl (by decide) (by first | assumption | exact hI0 _ _ | exact zin_and _ _ | (unfold zin; omega) | (unfold zin at *; omega)) (by first | assumption | exact hI0 _ _ | exact zin_and _ _ | (unfold zin; omega) | (unfold zin at *; omega)) (fun h24 => ?_) (fun h24 => ?_)
          · exact absurd h24 (by omega)
          · refine wp_aload_n (t := 16) rfl rfl ?_
            refine wp_getR (t := 17) (ji := 5) rfl fX0_43 rfl rfl (by omega) (by first | rfl | assumption) (by first | exact hW _ _ _ (by omega) rfl | assumption) ?_
            refine wp_iload_n (t := 18) rfl rfl ?_
            refine wp_iaload (t := 19) rfl (by omega) (by first | rfl | assumption) (by omega) (by omega) (by omega) ?_
            rw [e5]
            refine wp_iload (t := 20) rfl rfl ?_
            refine wp_ishr (t := 21) rfl ?_
            refine wp_iconst (t := 22) rfl ?_
            refine wp_iand (t := 23) rfl ?_
            refine wp_iconst (t := 24) rfl ?_
            refine wp_icmp_ne (t := 25) (tgt := 56) rfl (by decide) (by first | assumption | exact hI0 _ _ | exact zin_and _ _ | (unfold zin; omega) | (unfold zin at *; omega)) (by first | assumption | exact hI0 _ _ | exact zin_and _ _ | (unfold zin; omega) | (unfold zin at *; omega)) (fun h39 => ?_) (fun h39 => ?_)
            · refine wp_iinc (t := 33) rfl rfl (by decide) rfl ?_
              refine wp_goto (t := 34) (tgt := 21) rfl (by decide) ?_
              refine ihk (a + 1) _ (by omega) (by omega) (by omega) hc9 ?_
              rw [hms, if_neg (show ¬ sA (cS I p) a c = true from fun q => h39 (of_decide_eq_true q))]
            · refine wp_iload (t := 26) rfl rfl ?_
              refine wp_aload_n (t := 27) rfl rfl ?_
              refine wp_getR (t := 28) (ji := 1) rfl fX0_9 rfl rfl (by omega) (by first | rfl | assumption) (by first | exact hW _ _ _ (by omega) rfl | assumption) ?_
              refine wp_iload (t := 29) rfl rfl ?_
              refine wp_iaload (t := 30) rfl (by omega) (by first | rfl | assumption) (by omega) (by omega) (by omega) ?_
              rw [hua]
              refine wp_max (t := 31) rfl (wsL_law_r34_l (List.mem_of_getElem? (i := 4) rfl)) (by first | assumption | exact hI0 _ _ | exact zin_and _ _ | (unfold zin; omega) | (unfold zin at *; omega)) (by first | assumption | exact hI0 _ _ | exact zin_and _ _ | (unfold zin; omega) | (unfold zin at *; omega)) (Nat.le_of_ble_eq_true rfl) ⟨Nat.le_refl _, Nat.le_refl _⟩ ?_
              refine wp_istore (t := 32) rfl (by decide) rfl ?_
              refine wp_iinc (t := 33) rfl rfl (by decide) rfl ?_
              refine wp_goto (t := 34) (tgt := 21) rfl (by decide) ?_
              refine ihk (a + 1) _ (by omega) (by omega) (by omega) hc9 ?_
              rw [hms, if_pos (show sA (cS I p) a c = true from decide_eq_true (by omega))]
      refine wp_iload_n (t := 4) rfl rfl ?_
      refine wp_aload_n (t := 5) rfl rfl ?_
      refine wp_getR (t := 6) (ji := 0) rfl fX0_15 rfl rfl (by omega) (by first | rfl | assumption) (by first | exact hW _ _ _ (by omega) rfl | assumption) ?_
      refine wp_getI (t := 7) (ji := 2) rfl fX0_19 rfl rfl (by omega) (by first | rfl | assumption) ?_
      rw [e34]
      refine wp_icmp_ge (t := 8) (tgt := 93) rfl (by decide) (by first | assumption | exact hI0 _ _ | exact zin_and _ _ | (unfold zin; omega) | (unfold zin at *; omega)) (by first | assumption | exact hI0 _ _ | exact zin_and _ _ | (unfold zin; omega) | (unfold zin at *; omega)) (fun h12 => ?_) (fun h12 => ?_)
      · exact absurd h12 (by omega)
      · refine wp_iconst (t := 9) rfl ?_
        refine wp_istore (t := 10) rfl (by decide) rfl ?_
        refine wp_iconst (t := 11) rfl ?_
        refine wp_istore (t := 12) rfl (by decide) rfl ?_
        exact inner _ 0 0 (by omega) (by omega) rfl (by omega) rfl
  refine wp_ls (ls' := [some (zR o), some (zR p), none, none, none, none]) rfl ?_
  refine wp_iconst (t := 0) rfl ?_
  refine wp_istore_n (t := 1) rfl (by decide) rfl ?_
  refine wp_iconst (t := 2) rfl ?_
  refine wp_istore_n (t := 3) rfl (by decide) rfl ?_
  exact key _ 0 0 I _ _ (by omega) (by omega) rfl (fun _ _ => rfl) (fun x x0 x1 => absurd x1 (by omega)) rfl
theorem sBounds_in {I : zMem} {p : Nat} (hch : zCh I) (hpl : zPl I p) : (0 ≤ sArea (cS I p) ∧ sArea (cS I p) ≤ 1000000) ∧ (0 ≤ sPath (cS I p) ∧ sPath (cS I p) ≤ 1000000) ∧ (0 ≤ sDrawn (cS I p) ∧ sDrawn (cS I p) ≤ 1000000) := by
  obtain ⟨f1, f2, f3, f4, f5, f6⟩ := cS_facts hch hpl
  have hco := hch.1
  have hli := hch.2.1
  have hpo := hch.2.2.1
  have hmin : ∀ c : Int, 0 ≤ c → c < I 34 2 → 0 ≤ sLeast (cS I p) c ∧ sLeast (cS I p) c ≤ 2234 := fun c c0 c1 => by
    have := zminf_b (f := sT (cS I p) c) (A := 0) (B := 2234) (by omega) (by omega) (I 34 0).toNat (fun w w0 w1 => by
      have := f5 c w c0 c1 w0 (by show w ≤ I 34 0; omega)
      omega)
    show 0 ≤ zminf (sT (cS I p) c) (I 34 0).toNat ∧ zminf (sT (cS I p) c) (I 34 0).toNat ≤ 2234
    omega
  refine ⟨?_, ?_, ?_⟩
  · have hsum := zsum_bounds (a := 0) (b := 17872) (n := (I 34 2).toNat) (f := fun c => zminf (fun w => w * sT (cS I p) c w) (I 34 0).toNat) (fun c c0 c1 => by
      have := zminf_b (f := fun w => w * sT (cS I p) c w) (A := 0) (B := 17872) (by omega) (by omega) (I 34 0).toNat (fun w w0 w1 => by
        have hT := f5 c w c0 (by show c < I 34 2; omega) w0 (by show w ≤ I 34 0; omega)
        exact zmulb (A := 8) (B := 2234) (by omega) (by omega) (by omega) hT.2)
      show 0 ≤ zminf (fun w => w * sT (cS I p) c w) (I 34 0).toNat ∧ zminf (fun w => w * sT (cS I p) c w) (I 34 0).toNat ≤ 17872
      omega)
    show 0 ≤ (zsum (fun c => zminf (fun w => w * sT (cS I p) c w) (I 34 0).toNat) (I 34 2).toNat + I 34 0 - 1) / I 34 0 ∧ (zsum (fun c => zminf (fun w => w * sT (cS I p) c w) (I 34 0).toNat) (I 34 2).toNat + I 34 0 - 1) / I 34 0 ≤ 1000000
    generalize zsum (fun c => zminf (fun w => w * sT (cS I p) c w) (I 34 0).toNat) (I 34 2).toNat = s at *
    refine ⟨Int.ediv_nonneg (by omega) (by omega), Int.ediv_le_of_le_mul (by omega) ?_⟩
    have : 1000000 * 1 ≤ 1000000 * I 34 0 := Int.mul_le_mul (Int.le_refl _) (by omega) (by omega) (by omega)
    omega
  · have hup := fun x => zup_b (ah := sA (cS I p)) (le := sLeast (cS I p)) (I 34 2).toNat (fun c c0 c1 => hmin c c0 (by omega)) x
    have := zmxf_b (P := fun _ => true) (v := zup (sA (cS I p)) (sLeast (cS I p)) (I 34 2).toNat) (B := 13404) (n := (I 34 2).toNat) (by omega) (fun i _ _ => by have := hup i; omega)
    show 0 ≤ zmxf (fun _ => true) (zup (sA (cS I p)) (sLeast (cS I p)) (I 34 2).toNat) (I 34 2).toNat ∧ zmxf (fun _ => true) (zup (sA (cS I p)) (sLeast (cS I p)) (I 34 2).toNat) (I 34 2).toNat ≤ 1000000
    omega
  · have hsum := zsum_bounds (a := 0) (b := 67020) (n := (I 34 2).toNat) (f := fun c => sLeast (cS I p) c * I 37 c) (fun c c0 c1 => by
      have g := hmin c c0 (by omega)
      have g2 := (hch.2.2.2.2.1 c c0 (by omega)).2.1
      exact zmulb (A := 2234) (B := 30) g.1 g.2 (by omega) g2.2)
    show 0 ≤ (zsum (fun c => sLeast (cS I p) c * I 37 c) (I 34 2).toNat + I 34 1 - 1) / I 34 1 ∧ (zsum (fun c => sLeast (cS I p) c * I 37 c) (I 34 2).toNat + I 34 1 - 1) / I 34 1 ≤ 1000000
    generalize zsum (fun c => sLeast (cS I p) c * I 37 c) (I 34 2).toNat = s at *
    refine ⟨Int.ediv_nonneg (by omega) (by omega), Int.ediv_le_of_le_mul (by omega) ?_⟩
    have : 1000000 * 1 ≤ 1000000 * I 34 1 := Int.mul_le_mul (Int.le_refl _) (by omega) (by omega) (by omega)
    omega
end
section
/-! the search: as a plain function, and its contract -/
set_option maxHeartbeats 4000000 in
set_option maxRecDepth 100000 in
theorem c_X0_greatest {G : zG} {d n o : Nat} {I : zMem} {R : zRef} {p : Nat} (ho : o = 70 ∨ o = 92) (hp : p = 64 ∨ p = 86) (hW : zWir n R) (hn : 115 ≤ n) (hch : zCh I) (hpl : zPl I p) : MT G mX0_greatest (d + 5) 0 0 [zR o, zR p] n I R (zP1 (fun r I' R' => r = sGreat (cS I p) ∧ (∀ b : Nat, b ≠ o + 1 → I' b = I b) ∧ R' = R)) := by
  refine MT.of (by decide +kernel) tX0_greatest_ok (Nat.le_of_ble_eq_true rfl) (fun hI0 => ?_)
  obtain ⟨hl0, hl1, hl2, hl3, hl4, hl5, hp1⟩ := zpl hp
  obtain ⟨hb0, hb1, hb2, hb3⟩ := zbo ho
  refine wp_ls (ls' := [some (zR o), some (zR p)]) rfl ?_
  have hsame : ∀ J : zMem, (∀ b : Nat, b ≠ o + 1 → J b = I b) → cS J p = cS I p ∧ zCh J ∧ zPl J p := fun J hf => ⟨cS_ext (hf _ (by omega)) (hf _ (by omega)) (hf _ (by omega)) (fun b _ _ => hf b (by omega)) (hf _ (by omega)) (hf _ (by omega)) (hf _ (by omega)) (hf _ (by omega)) (hf _ (by omega)), zCh_ext (fun b _ _ => hf b (by omega)) hch, zPl_ext (hf _ (by omega)) (hf _ (by omega)) (hf _ (by omega)) (hf _ (by omega)) (hf _ (by omega)) (hf _ (by omega)) hpl⟩
  obtain ⟨z1, z2, z3⟩ := sBounds_in hch hpl
  refine wp_aload_n (t := 0) rfl rfl ?_
  refine wp_aload_n (t := 1) rfl rfl ?_
  refine wp_vi (ci := 0) (c_X0_area (d := d + 1) ho hp hW hn hch hpl) (t := 2) rfl kX0_59 rfl rfl (by omega) (by first | rfl | assumption) ⟨_, _, rfl⟩ (Nat.le_of_ble_eq_true rfl) ⟨Nat.le_refl _, Nat.le_refl _⟩ (fun r2 I2 R2 c2 => ?_)
  refine wp_canon (fun hI1 => ?_)
  obtain ⟨rfl, rfl, rfl⟩ := c2
  refine wp_aload_n (t := 3) rfl rfl ?_
  refine wp_aload_n (t := 4) rfl rfl ?_
  refine wp_vi (ci := 0) (c_X0_path (d := d) ho hp hW hn hch hpl) (t := 5) rfl kX0_63 rfl rfl (by omega) (by first | rfl | assumption) ⟨_, _, rfl⟩ (Nat.le_of_ble_eq_true rfl) ⟨Nat.le_refl _, Nat.le_refl _⟩ (fun r7 I7 R7 c7 => ?_)
  refine wp_canon (fun hI2 => ?_)
  obtain ⟨rfl, hf7, rfl⟩ := c7
  obtain ⟨sm1, sm2, sm3⟩ := hsame I7 hf7
  refine wp_max (t := 6) rfl (wsL_law_r34_l (List.mem_of_getElem? (i := 4) rfl)) (by unfold zin; omega) (by unfold zin; omega) (Nat.le_of_ble_eq_true rfl) ⟨Nat.le_refl _, Nat.le_refl _⟩ ?_
  refine wp_aload_n (t := 7) rfl rfl ?_
  refine wp_aload_n (t := 8) rfl rfl ?_
  refine wp_vi (ci := 0) (c_X0_drawn (d := d) ho hp hW hn sm2 sm3) (t := 9) rfl kX0_66 rfl rfl (by omega) (by first | rfl | assumption) ⟨_, _, rfl⟩ (Nat.le_of_ble_eq_true rfl) ⟨Nat.le_refl _, Nat.le_refl _⟩ (fun r15 I15 R15 c15 => ?_)
  refine wp_canon (fun hI3 => ?_)
  obtain ⟨e15, rfl, rfl⟩ := c15
  rw [sm1] at e15
  subst e15
  refine wp_max (t := 10) rfl (wsL_law_r34_l (List.mem_of_getElem? (i := 4) rfl)) (by unfold zin; omega) (by unfold zin; omega) (Nat.le_of_ble_eq_true rfl) ⟨Nat.le_refl _, Nat.le_refl _⟩ ?_
  refine wp_ireturn (t := 11) rfl rfl ?_
  exact ⟨_, rfl, rfl, hf7, rfl⟩
/-- a core ahead of it that is not put; -4 -/
def sWait (S : zS) (c : Int) : Int := zfirst (fun a => sA S a c && decide (¬ 0 < sW S a)) (sN S).toNat
theorem sWait_iff {S : zS} {c : Int} : sWait S c = -4 ↔ ∀ a : Int, 0 ≤ a → a < sN S → sA S a c = true → 0 < sW S a := by
  unfold sWait
  constructor
  · intro h a h0 h1 h2
    rcases zfirst_spec (fun a => sA S a c && decide (¬ 0 < sW S a)) (sN S).toNat with ⟨-, g⟩ | ⟨g, -⟩
    · have := g a h0 (by omega)
      simp [h2] at this
      omega
    · omega
  · intro h
    refine zfirst_none (fun a h0 h1 => ?_)
    by_cases ha : sA S a c = true
    · have := h a h0 (by omega) ha
      simp [ha]
      omega
    · simp [ha]
abbrev tSt : Type := Int × (Int → Int)
def tLoop (rec : zS → (Int → Int) → Int → tSt → tSt) (fl : Int) (S : zS) (o : Int → Int) (dp len : Int) : Nat → tSt → tSt
  | 0, st => st
  | k + 1, st =>
    if 0 < sW S (sN S - (k + 1)) ∨ ¬ sWait S (sN S - (k + 1)) = -4 then tLoop rec fl S o dp len k st
    else if st.1 ≤ len ∨ st.1 ≤ fl then st
    else if (sFl S (sN S - (k + 1)) st.1 (sL S).toNat).1 = 0 then st
    else tLoop rec fl S o dp len k (rec (sPut S (sN S - (k + 1)) (sFl S (sN S - (k + 1)) st.1 (sL S).toNat).1 (sFl S (sN S - (k + 1)) st.1 (sL S).toNat).2.1) (fun j => if j = dp then sN S - (k + 1) else o j) (max len ((sFl S (sN S - (k + 1)) st.1 (sL S).toNat).2.1 + sT S (sN S - (k + 1)) (sFl S (sN S - (k + 1)) st.1 (sL S).toNat).1)) st)
/-- all orders that begin as o up to dp, f cores being left: the least length and the order kept so far -/
def tTry (fl : Int) : Nat → zS → (Int → Int) → Int → Int → tSt → tSt
  | 0, _, o, _, len, _ => (len, o)
  | f + 1, S, o, dp, len, st => tLoop (fun S' o' len' st' => tTry fl f S' o' (dp + 1) len' st') fl S o dp len (sN S).toNat st
theorem zand_not_all : ∀ x y : Fin 64, (ziand (x : Nat) (zixor (y : Nat) (-1)) = 0 ↔ ∀ a : Fin 6, zbt (x : Nat) (a : Nat) = true → zbt (y : Nat) (a : Nat) = true) := by decide +kernel
theorem zand_not {x y : Int} (hx : 0 ≤ x ∧ x < 64) (hy : 0 ≤ y ∧ y < 64) : ziand x (zixor y (-1)) = 0 ↔ ∀ a : Int, 0 ≤ a → a < 6 → zbt x a = true → zbt y a = true := by
  obtain ⟨x, rfl⟩ := zfinI (m := 64) hx.1 hx.2
  obtain ⟨y, rfl⟩ := zfinI (m := 64) hy.1 hy.2
  rw [zand_not_all x y]
  constructor
  · intro h a h0 h1
    obtain ⟨a, rfl⟩ := zfinI (m := 6) h0 h1
    exact h a
  · intro h a
    exact h (a : Nat) (by omega) (by omega)
end
