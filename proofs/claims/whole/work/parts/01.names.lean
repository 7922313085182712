-- ===== PART A: goes FIRST, ahead of the names: the tables' words, and 'selects' of the private methods out of them =====
/-- a private method of a class that the tables say can be made, by its rows of tables_1 -/
def lw_okq (q : MethodName × Nat) : Prop := (q.1.cls ≠ "java/lang/invoke/MethodHandle" ∧ q.1.cls ≠ "java/lang/invoke/VarHandle") ∧ Cond.instantiable q.1.cls q.2 ∈ tables_1 ∧ Cond.privateMethod q.1 ∈ tables_1 ∧ Cond.instanceMethod q.1 ∈ tables_1
theorem lw_p0 : lw_okq (⟨"HungFromIce", "layText", "()Z"⟩, 12) := ⟨⟨by decide +kernel, by decide +kernel⟩, List.mem_of_getElem? (i := 20) (by decide +kernel), List.mem_of_getElem? (i := 440) (by decide +kernel), List.mem_of_getElem? (i := 441) (by decide +kernel)⟩
theorem lw_p1 : lw_okq (⟨"HungFromIce$Text", "splitItem", "(I)I"⟩, 4) := ⟨⟨by decide +kernel, by decide +kernel⟩, List.mem_of_getElem? (i := 28) (by decide +kernel), List.mem_of_getElem? (i := 452) (by decide +kernel), List.mem_of_getElem? (i := 453) (by decide +kernel)⟩
theorem lw_p2 : lw_okq (⟨"HungFromIce$Text", "figuresFrom", "(I)I"⟩, 4) := ⟨⟨by decide +kernel, by decide +kernel⟩, List.mem_of_getElem? (i := 28) (by decide +kernel), List.mem_of_getElem? (i := 456) (by decide +kernel), List.mem_of_getElem? (i := 457) (by decide +kernel)⟩
theorem lw_p3 : lw_okq (⟨"HungFromIce$Text", "letterAt", "(I)I"⟩, 4) := ⟨⟨by decide +kernel, by decide +kernel⟩, List.mem_of_getElem? (i := 28) (by decide +kernel), List.mem_of_getElem? (i := 460) (by decide +kernel), List.mem_of_getElem? (i := 461) (by decide +kernel)⟩
theorem lw_p4 : lw_okq (⟨"HungFromIce$Text", "numberFrom", "(II)I"⟩, 4) := ⟨⟨by decide +kernel, by decide +kernel⟩, List.mem_of_getElem? (i := 28) (by decide +kernel), List.mem_of_getElem? (i := 467) (by decide +kernel), List.mem_of_getElem? (i := 468) (by decide +kernel)⟩
theorem lw_p5 : lw_okq (⟨"HungFromIce$Told", "addPlaces", "(I)Z"⟩, 17) := ⟨⟨by decide +kernel, by decide +kernel⟩, List.mem_of_getElem? (i := 55) (by decide +kernel), List.mem_of_getElem? (i := 475) (by decide +kernel), List.mem_of_getElem? (i := 476) (by decide +kernel)⟩
theorem lw_p6 : lw_okq (⟨"HungFromIce$Told", "addLevel", "(III)Z"⟩, 17) := ⟨⟨by decide +kernel, by decide +kernel⟩, List.mem_of_getElem? (i := 55) (by decide +kernel), List.mem_of_getElem? (i := 480) (by decide +kernel), List.mem_of_getElem? (i := 481) (by decide +kernel)⟩
theorem lw_p7 : lw_okq (⟨"HungFromIce$Told", "addTown", "(IIII)Z"⟩, 17) := ⟨⟨by decide +kernel, by decide +kernel⟩, List.mem_of_getElem? (i := 55) (by decide +kernel), List.mem_of_getElem? (i := 484) (by decide +kernel), List.mem_of_getElem? (i := 485) (by decide +kernel)⟩
theorem lw_p8 : lw_okq (⟨"HungFromIce$Told", "canBeSpot", "(II)Z"⟩, 17) := ⟨⟨by decide +kernel, by decide +kernel⟩, List.mem_of_getElem? (i := 55) (by decide +kernel), List.mem_of_getElem? (i := 488) (by decide +kernel), List.mem_of_getElem? (i := 489) (by decide +kernel)⟩
theorem lw_p9 : lw_okq (⟨"HungFromIce$Told", "addMarket", "(II)Z"⟩, 17) := ⟨⟨by decide +kernel, by decide +kernel⟩, List.mem_of_getElem? (i := 55) (by decide +kernel), List.mem_of_getElem? (i := 492) (by decide +kernel), List.mem_of_getElem? (i := 493) (by decide +kernel)⟩
theorem lw_p10 : lw_okq (⟨"HungFromIce$Told", "addThing", "(III)Z"⟩, 17) := ⟨⟨by decide +kernel, by decide +kernel⟩, List.mem_of_getElem? (i := 55) (by decide +kernel), List.mem_of_getElem? (i := 496) (by decide +kernel), List.mem_of_getElem? (i := 497) (by decide +kernel)⟩
theorem lw_p11 : lw_okq (⟨"HungFromIce$Told", "allLevelsThere", "()Z"⟩, 17) := ⟨⟨by decide +kernel, by decide +kernel⟩, List.mem_of_getElem? (i := 55) (by decide +kernel), List.mem_of_getElem? (i := 504) (by decide +kernel), List.mem_of_getElem? (i := 505) (by decide +kernel)⟩
theorem lw_p12 : lw_okq (⟨"HungFromIce$Told", "townsApart", "()Z"⟩, 17) := ⟨⟨by decide +kernel, by decide +kernel⟩, List.mem_of_getElem? (i := 55) (by decide +kernel), List.mem_of_getElem? (i := 508) (by decide +kernel), List.mem_of_getElem? (i := 509) (by decide +kernel)⟩
theorem lw_p13 : lw_okq (⟨"HungFromIce$Past", "slot", "(I)I"⟩, 3) := ⟨⟨by decide +kernel, by decide +kernel⟩, List.mem_of_getElem? (i := 207) (by decide +kernel), List.mem_of_getElem? (i := 635) (by decide +kernel), List.mem_of_getElem? (i := 636) (by decide +kernel)⟩
theorem lw_p14 : lw_okq (⟨"HungFromIce$Sound", "fill", "(LHungFromIce$Row;I)V"⟩, 4) := ⟨⟨by decide +kernel, by decide +kernel⟩, List.mem_of_getElem? (i := 255) (by decide +kernel), List.mem_of_getElem? (i := 745) (by decide +kernel), List.mem_of_getElem? (i := 746) (by decide +kernel)⟩
theorem lw_p15 : lw_okq (⟨"HungFromIce$Sound", "improve", "([III)Z"⟩, 4) := ⟨⟨by decide +kernel, by decide +kernel⟩, List.mem_of_getElem? (i := 255) (by decide +kernel), List.mem_of_getElem? (i := 749) (by decide +kernel), List.mem_of_getElem? (i := 750) (by decide +kernel)⟩
def lw_privs_1 : List (MethodName × Nat) := [(⟨"HungFromIce", "layText", "()Z"⟩, 12), (⟨"HungFromIce$Text", "splitItem", "(I)I"⟩, 4), (⟨"HungFromIce$Text", "figuresFrom", "(I)I"⟩, 4), (⟨"HungFromIce$Text", "letterAt", "(I)I"⟩, 4), (⟨"HungFromIce$Text", "numberFrom", "(II)I"⟩, 4), (⟨"HungFromIce$Told", "addPlaces", "(I)Z"⟩, 17), (⟨"HungFromIce$Told", "addLevel", "(III)Z"⟩, 17), (⟨"HungFromIce$Told", "addTown", "(IIII)Z"⟩, 17), (⟨"HungFromIce$Told", "canBeSpot", "(II)Z"⟩, 17), (⟨"HungFromIce$Told", "addMarket", "(II)Z"⟩, 17), (⟨"HungFromIce$Told", "addThing", "(III)Z"⟩, 17), (⟨"HungFromIce$Told", "allLevelsThere", "()Z"⟩, 17), (⟨"HungFromIce$Told", "townsApart", "()Z"⟩, 17), (⟨"HungFromIce$Past", "slot", "(I)I"⟩, 3), (⟨"HungFromIce$Sound", "fill", "(LHungFromIce$Row;I)V"⟩, 4), (⟨"HungFromIce$Sound", "improve", "([III)Z"⟩, 4)]
theorem lw_r1 : ∀ q ∈ lw_privs_1, lw_okq q := List.forall_mem_cons.mpr ⟨lw_p0, List.forall_mem_cons.mpr ⟨lw_p1, List.forall_mem_cons.mpr ⟨lw_p2, List.forall_mem_cons.mpr ⟨lw_p3, List.forall_mem_cons.mpr ⟨lw_p4, List.forall_mem_cons.mpr ⟨lw_p5, List.forall_mem_cons.mpr ⟨lw_p6, List.forall_mem_cons.mpr ⟨lw_p7, List.forall_mem_cons.mpr ⟨lw_p8, List.forall_mem_cons.mpr ⟨lw_p9, List.forall_mem_cons.mpr ⟨lw_p10, List.forall_mem_cons.mpr ⟨lw_p11, List.forall_mem_cons.mpr ⟨lw_p12, List.forall_mem_cons.mpr ⟨lw_p13, List.forall_mem_cons.mpr ⟨lw_p14, List.forall_mem_cons.mpr ⟨lw_p15, fun _ h => absurd h List.not_mem_nil⟩⟩⟩⟩⟩⟩⟩⟩⟩⟩⟩⟩⟩⟩⟩⟩
theorem lw_p16 : lw_okq (⟨"HungFromIce$Hearing", "canBeSource", "(I)Z"⟩, 7) := ⟨⟨by decide +kernel, by decide +kernel⟩, List.mem_of_getElem? (i := 296) (by decide +kernel), List.mem_of_getElem? (i := 793) (by decide +kernel), List.mem_of_getElem? (i := 794) (by decide +kernel)⟩
theorem lw_p17 : lw_okq (⟨"HungFromIce$Moves", "hangAt", "(II)V"⟩, 8) := ⟨⟨by decide +kernel, by decide +kernel⟩, List.mem_of_getElem? (i := 327) (by decide +kernel), List.mem_of_getElem? (i := 810) (by decide +kernel), List.mem_of_getElem? (i := 811) (by decide +kernel)⟩
theorem lw_p18 : lw_okq (⟨"HungFromIce$Moves", "allHear", "(I)Z"⟩, 8) := ⟨⟨by decide +kernel, by decide +kernel⟩, List.mem_of_getElem? (i := 327) (by decide +kernel), List.mem_of_getElem? (i := 815) (by decide +kernel), List.mem_of_getElem? (i := 816) (by decide +kernel)⟩
theorem lw_p19 : lw_okq (⟨"HungFromIce$Moves", "beatsFrom", "(II)I"⟩, 8) := ⟨⟨by decide +kernel, by decide +kernel⟩, List.mem_of_getElem? (i := 327) (by decide +kernel), List.mem_of_getElem? (i := 819) (by decide +kernel), List.mem_of_getElem? (i := 820) (by decide +kernel)⟩
theorem lw_p20 : lw_okq (⟨"HungFromIce$Moves", "seekOne", "()Z"⟩, 8) := ⟨⟨by decide +kernel, by decide +kernel⟩, List.mem_of_getElem? (i := 327) (by decide +kernel), List.mem_of_getElem? (i := 824) (by decide +kernel), List.mem_of_getElem? (i := 825) (by decide +kernel)⟩
theorem lw_p21 : lw_okq (⟨"HungFromIce$Moves", "seekAbove", "(I)I"⟩, 8) := ⟨⟨by decide +kernel, by decide +kernel⟩, List.mem_of_getElem? (i := 327) (by decide +kernel), List.mem_of_getElem? (i := 828) (by decide +kernel), List.mem_of_getElem? (i := 829) (by decide +kernel)⟩
theorem lw_p22 : lw_okq (⟨"HungFromIce$Moves", "placeFor", "(I)I"⟩, 8) := ⟨⟨by decide +kernel, by decide +kernel⟩, List.mem_of_getElem? (i := 327) (by decide +kernel), List.mem_of_getElem? (i := 832) (by decide +kernel), List.mem_of_getElem? (i := 833) (by decide +kernel)⟩
theorem lw_p23 : lw_okq (⟨"HungFromIce$Moves", "isFree", "(II)Z"⟩, 8) := ⟨⟨by decide +kernel, by decide +kernel⟩, List.mem_of_getElem? (i := 327) (by decide +kernel), List.mem_of_getElem? (i := 836) (by decide +kernel), List.mem_of_getElem? (i := 837) (by decide +kernel)⟩
theorem lw_p24 : lw_okq (⟨"HungFromIce$Moves", "allHearAt", "(II)Z"⟩, 8) := ⟨⟨by decide +kernel, by decide +kernel⟩, List.mem_of_getElem? (i := 327) (by decide +kernel), List.mem_of_getElem? (i := 842) (by decide +kernel), List.mem_of_getElem? (i := 843) (by decide +kernel)⟩
theorem lw_p25 : lw_okq (⟨"HungFromIce$Moves", "seekTwo", "()Z"⟩, 8) := ⟨⟨by decide +kernel, by decide +kernel⟩, List.mem_of_getElem? (i := 327) (by decide +kernel), List.mem_of_getElem? (i := 846) (by decide +kernel), List.mem_of_getElem? (i := 847) (by decide +kernel)⟩
theorem lw_p26 : lw_okq (⟨"HungFromIce$Moves", "seekWith", "(I)Z"⟩, 8) := ⟨⟨by decide +kernel, by decide +kernel⟩, List.mem_of_getElem? (i := 327) (by decide +kernel), List.mem_of_getElem? (i := 850) (by decide +kernel), List.mem_of_getElem? (i := 851) (by decide +kernel)⟩
theorem lw_p27 : lw_okq (⟨"HungFromIce", "clearingPrice", "(II)I"⟩, 12) := ⟨⟨by decide +kernel, by decide +kernel⟩, List.mem_of_getElem? (i := 20) (by decide +kernel), List.mem_of_getElem? (i := 871) (by decide +kernel), List.mem_of_getElem? (i := 872) (by decide +kernel)⟩
theorem lw_p28 : lw_okq (⟨"HungFromIce", "anyTown", "(II)Z"⟩, 12) := ⟨⟨by decide +kernel, by decide +kernel⟩, List.mem_of_getElem? (i := 20) (by decide +kernel), List.mem_of_getElem? (i := 875) (by decide +kernel), List.mem_of_getElem? (i := 876) (by decide +kernel)⟩
theorem lw_p29 : lw_okq (⟨"HungFromIce", "lackAt", "(III)I"⟩, 12) := ⟨⟨by decide +kernel, by decide +kernel⟩, List.mem_of_getElem? (i := 20) (by decide +kernel), List.mem_of_getElem? (i := 879) (by decide +kernel), List.mem_of_getElem? (i := 880) (by decide +kernel)⟩
theorem lw_p30 : lw_okq (⟨"HungFromIce", "spreadOdds", "(III)V"⟩, 12) := ⟨⟨by decide +kernel, by decide +kernel⟩, List.mem_of_getElem? (i := 20) (by decide +kernel), List.mem_of_getElem? (i := 914) (by decide +kernel), List.mem_of_getElem? (i := 915) (by decide +kernel)⟩
theorem lw_p31 : lw_okq (⟨"HungFromIce", "putDrawn", "(II)V"⟩, 12) := ⟨⟨by decide +kernel, by decide +kernel⟩, List.mem_of_getElem? (i := 20) (by decide +kernel), List.mem_of_getElem? (i := 926) (by decide +kernel), List.mem_of_getElem? (i := 927) (by decide +kernel)⟩
def lw_privs_2 : List (MethodName × Nat) := [(⟨"HungFromIce$Hearing", "canBeSource", "(I)Z"⟩, 7), (⟨"HungFromIce$Moves", "hangAt", "(II)V"⟩, 8), (⟨"HungFromIce$Moves", "allHear", "(I)Z"⟩, 8), (⟨"HungFromIce$Moves", "beatsFrom", "(II)I"⟩, 8), (⟨"HungFromIce$Moves", "seekOne", "()Z"⟩, 8), (⟨"HungFromIce$Moves", "seekAbove", "(I)I"⟩, 8), (⟨"HungFromIce$Moves", "placeFor", "(I)I"⟩, 8), (⟨"HungFromIce$Moves", "isFree", "(II)Z"⟩, 8), (⟨"HungFromIce$Moves", "allHearAt", "(II)Z"⟩, 8), (⟨"HungFromIce$Moves", "seekTwo", "()Z"⟩, 8), (⟨"HungFromIce$Moves", "seekWith", "(I)Z"⟩, 8), (⟨"HungFromIce", "clearingPrice", "(II)I"⟩, 12), (⟨"HungFromIce", "anyTown", "(II)Z"⟩, 12), (⟨"HungFromIce", "lackAt", "(III)I"⟩, 12), (⟨"HungFromIce", "spreadOdds", "(III)V"⟩, 12), (⟨"HungFromIce", "putDrawn", "(II)V"⟩, 12)]
theorem lw_r2 : ∀ q ∈ lw_privs_2, lw_okq q := List.forall_mem_cons.mpr ⟨lw_p16, List.forall_mem_cons.mpr ⟨lw_p17, List.forall_mem_cons.mpr ⟨lw_p18, List.forall_mem_cons.mpr ⟨lw_p19, List.forall_mem_cons.mpr ⟨lw_p20, List.forall_mem_cons.mpr ⟨lw_p21, List.forall_mem_cons.mpr ⟨lw_p22, List.forall_mem_cons.mpr ⟨lw_p23, List.forall_mem_cons.mpr ⟨lw_p24, List.forall_mem_cons.mpr ⟨lw_p25, List.forall_mem_cons.mpr ⟨lw_p26, List.forall_mem_cons.mpr ⟨lw_p27, List.forall_mem_cons.mpr ⟨lw_p28, List.forall_mem_cons.mpr ⟨lw_p29, List.forall_mem_cons.mpr ⟨lw_p30, List.forall_mem_cons.mpr ⟨lw_p31, fun _ h => absurd h List.not_mem_nil⟩⟩⟩⟩⟩⟩⟩⟩⟩⟩⟩⟩⟩⟩⟩⟩
theorem lw_p32 : lw_okq (⟨"HungFromIceModel", "begins", "()V"⟩, 23) := ⟨⟨by decide +kernel, by decide +kernel⟩, List.mem_of_getElem? (i := 946) (by decide +kernel), List.mem_of_getElem? (i := 953) (by decide +kernel), List.mem_of_getElem? (i := 954) (by decide +kernel)⟩
theorem lw_p33 : lw_okq (⟨"HungFromIceModel", "takes", "()V"⟩, 23) := ⟨⟨by decide +kernel, by decide +kernel⟩, List.mem_of_getElem? (i := 946) (by decide +kernel), List.mem_of_getElem? (i := 957) (by decide +kernel), List.mem_of_getElem? (i := 958) (by decide +kernel)⟩
theorem lw_p34 : lw_okq (⟨"HungFromIceModel", "isItem", "()Z"⟩, 23) := ⟨⟨by decide +kernel, by decide +kernel⟩, List.mem_of_getElem? (i := 946) (by decide +kernel), List.mem_of_getElem? (i := 1048) (by decide +kernel), List.mem_of_getElem? (i := 1049) (by decide +kernel)⟩
theorem lw_p35 : lw_okq (⟨"HungFromIceModel", "number", "()I"⟩, 23) := ⟨⟨by decide +kernel, by decide +kernel⟩, List.mem_of_getElem? (i := 946) (by decide +kernel), List.mem_of_getElem? (i := 1055) (by decide +kernel), List.mem_of_getElem? (i := 1056) (by decide +kernel)⟩
theorem lw_p36 : lw_okq (⟨"HungFromIceModel", "isGood", "(I)Z"⟩, 23) := ⟨⟨by decide +kernel, by decide +kernel⟩, List.mem_of_getElem? (i := 946) (by decide +kernel), List.mem_of_getElem? (i := 1062) (by decide +kernel), List.mem_of_getElem? (i := 1063) (by decide +kernel)⟩
theorem lw_p37 : lw_okq (⟨"HungFromIceModel", "isPut", "([IIIII)Z"⟩, 23) := ⟨⟨by decide +kernel, by decide +kernel⟩, List.mem_of_getElem? (i := 946) (by decide +kernel), List.mem_of_getElem? (i := 1069) (by decide +kernel), List.mem_of_getElem? (i := 1070) (by decide +kernel)⟩
theorem lw_p38 : lw_okq (⟨"HungFromIceModel", "isSound", "()Z"⟩, 23) := ⟨⟨by decide +kernel, by decide +kernel⟩, List.mem_of_getElem? (i := 946) (by decide +kernel), List.mem_of_getElem? (i := 1078) (by decide +kernel), List.mem_of_getElem? (i := 1079) (by decide +kernel)⟩
theorem lw_p39 : lw_okq (⟨"HungFromIceModel", "isLevel", "(I)Z"⟩, 23) := ⟨⟨by decide +kernel, by decide +kernel⟩, List.mem_of_getElem? (i := 946) (by decide +kernel), List.mem_of_getElem? (i := 1086) (by decide +kernel), List.mem_of_getElem? (i := 1087) (by decide +kernel)⟩
theorem lw_p40 : lw_okq (⟨"HungFromIceModel", "isTown", "(I)Z"⟩, 23) := ⟨⟨by decide +kernel, by decide +kernel⟩, List.mem_of_getElem? (i := 946) (by decide +kernel), List.mem_of_getElem? (i := 1094) (by decide +kernel), List.mem_of_getElem? (i := 1095) (by decide +kernel)⟩
theorem lw_p41 : lw_okq (⟨"HungFromIceModel", "levelOf", "(I)I"⟩, 23) := ⟨⟨by decide +kernel, by decide +kernel⟩, List.mem_of_getElem? (i := 946) (by decide +kernel), List.mem_of_getElem? (i := 1098) (by decide +kernel), List.mem_of_getElem? (i := 1099) (by decide +kernel)⟩
theorem lw_p42 : lw_okq (⟨"HungFromIceModel", "isThing", "(I)Z"⟩, 23) := ⟨⟨by decide +kernel, by decide +kernel⟩, List.mem_of_getElem? (i := 946) (by decide +kernel), List.mem_of_getElem? (i := 1106) (by decide +kernel), List.mem_of_getElem? (i := 1107) (by decide +kernel)⟩
theorem lw_p43 : lw_okq (⟨"HungFromIceModel", "tells", "(III)I"⟩, 23) := ⟨⟨by decide +kernel, by decide +kernel⟩, List.mem_of_getElem? (i := 946) (by decide +kernel), List.mem_of_getElem? (i := 1111) (by decide +kernel), List.mem_of_getElem? (i := 1112) (by decide +kernel)⟩
theorem lw_p44 : lw_okq (⟨"HungFromIceModel", "known", "()V"⟩, 23) := ⟨⟨by decide +kernel, by decide +kernel⟩, List.mem_of_getElem? (i := 946) (by decide +kernel), List.mem_of_getElem? (i := 1120) (by decide +kernel), List.mem_of_getElem? (i := 1121) (by decide +kernel)⟩
theorem lw_p45 : lw_okq (⟨"HungFromIceModel", "copies", "(II)V"⟩, 23) := ⟨⟨by decide +kernel, by decide +kernel⟩, List.mem_of_getElem? (i := 946) (by decide +kernel), List.mem_of_getElem? (i := 1124) (by decide +kernel), List.mem_of_getElem? (i := 1125) (by decide +kernel)⟩
theorem lw_p46 : lw_okq (⟨"HungFromIceModel", "step", "(I)I"⟩, 23) := ⟨⟨by decide +kernel, by decide +kernel⟩, List.mem_of_getElem? (i := 946) (by decide +kernel), List.mem_of_getElem? (i := 1128) (by decide +kernel), List.mem_of_getElem? (i := 1129) (by decide +kernel)⟩
theorem lw_p47 : lw_okq (⟨"HungFromIceModel", "goes", "(III)I"⟩, 23) := ⟨⟨by decide +kernel, by decide +kernel⟩, List.mem_of_getElem? (i := 946) (by decide +kernel), List.mem_of_getElem? (i := 1132) (by decide +kernel), List.mem_of_getElem? (i := 1133) (by decide +kernel)⟩
def lw_privs_3 : List (MethodName × Nat) := [(⟨"HungFromIceModel", "begins", "()V"⟩, 23), (⟨"HungFromIceModel", "takes", "()V"⟩, 23), (⟨"HungFromIceModel", "isItem", "()Z"⟩, 23), (⟨"HungFromIceModel", "number", "()I"⟩, 23), (⟨"HungFromIceModel", "isGood", "(I)Z"⟩, 23), (⟨"HungFromIceModel", "isPut", "([IIIII)Z"⟩, 23), (⟨"HungFromIceModel", "isSound", "()Z"⟩, 23), (⟨"HungFromIceModel", "isLevel", "(I)Z"⟩, 23), (⟨"HungFromIceModel", "isTown", "(I)Z"⟩, 23), (⟨"HungFromIceModel", "levelOf", "(I)I"⟩, 23), (⟨"HungFromIceModel", "isThing", "(I)Z"⟩, 23), (⟨"HungFromIceModel", "tells", "(III)I"⟩, 23), (⟨"HungFromIceModel", "known", "()V"⟩, 23), (⟨"HungFromIceModel", "copies", "(II)V"⟩, 23), (⟨"HungFromIceModel", "step", "(I)I"⟩, 23), (⟨"HungFromIceModel", "goes", "(III)I"⟩, 23)]
theorem lw_r3 : ∀ q ∈ lw_privs_3, lw_okq q := List.forall_mem_cons.mpr ⟨lw_p32, List.forall_mem_cons.mpr ⟨lw_p33, List.forall_mem_cons.mpr ⟨lw_p34, List.forall_mem_cons.mpr ⟨lw_p35, List.forall_mem_cons.mpr ⟨lw_p36, List.forall_mem_cons.mpr ⟨lw_p37, List.forall_mem_cons.mpr ⟨lw_p38, List.forall_mem_cons.mpr ⟨lw_p39, List.forall_mem_cons.mpr ⟨lw_p40, List.forall_mem_cons.mpr ⟨lw_p41, List.forall_mem_cons.mpr ⟨lw_p42, List.forall_mem_cons.mpr ⟨lw_p43, List.forall_mem_cons.mpr ⟨lw_p44, List.forall_mem_cons.mpr ⟨lw_p45, List.forall_mem_cons.mpr ⟨lw_p46, List.forall_mem_cons.mpr ⟨lw_p47, fun _ h => absurd h List.not_mem_nil⟩⟩⟩⟩⟩⟩⟩⟩⟩⟩⟩⟩⟩⟩⟩⟩
theorem lw_p48 : lw_okq (⟨"HungFromIceModel", "drifts", "(II)V"⟩, 23) := ⟨⟨by decide +kernel, by decide +kernel⟩, List.mem_of_getElem? (i := 946) (by decide +kernel), List.mem_of_getElem? (i := 1136) (by decide +kernel), List.mem_of_getElem? (i := 1137) (by decide +kernel)⟩
theorem lw_p49 : lw_okq (⟨"HungFromIceModel", "townAt", "(III)I"⟩, 23) := ⟨⟨by decide +kernel, by decide +kernel⟩, List.mem_of_getElem? (i := 946) (by decide +kernel), List.mem_of_getElem? (i := 1140) (by decide +kernel), List.mem_of_getElem? (i := 1141) (by decide +kernel)⟩
theorem lw_p50 : lw_okq (⟨"HungFromIceModel", "isCut", "(I)Z"⟩, 23) := ⟨⟨by decide +kernel, by decide +kernel⟩, List.mem_of_getElem? (i := 946) (by decide +kernel), List.mem_of_getElem? (i := 1148) (by decide +kernel), List.mem_of_getElem? (i := 1149) (by decide +kernel)⟩
theorem lw_p51 : lw_okq (⟨"HungFromIceModel", "more", "(IIII)I"⟩, 23) := ⟨⟨by decide +kernel, by decide +kernel⟩, List.mem_of_getElem? (i := 946) (by decide +kernel), List.mem_of_getElem? (i := 1152) (by decide +kernel), List.mem_of_getElem? (i := 1153) (by decide +kernel)⟩
theorem lw_p52 : lw_okq (⟨"HungFromIceModel", "isPlace", "(I)Z"⟩, 23) := ⟨⟨by decide +kernel, by decide +kernel⟩, List.mem_of_getElem? (i := 946) (by decide +kernel), List.mem_of_getElem? (i := 1160) (by decide +kernel), List.mem_of_getElem? (i := 1161) (by decide +kernel)⟩
theorem lw_p53 : lw_okq (⟨"HungFromIceModel", "isMarket", "(II)Z"⟩, 23) := ⟨⟨by decide +kernel, by decide +kernel⟩, List.mem_of_getElem? (i := 946) (by decide +kernel), List.mem_of_getElem? (i := 1164) (by decide +kernel), List.mem_of_getElem? (i := 1165) (by decide +kernel)⟩
theorem lw_p54 : lw_okq (⟨"HungFromIceModel", "areMet", "(II)Z"⟩, 23) := ⟨⟨by decide +kernel, by decide +kernel⟩, List.mem_of_getElem? (i := 946) (by decide +kernel), List.mem_of_getElem? (i := 1184) (by decide +kernel), List.mem_of_getElem? (i := 1185) (by decide +kernel)⟩
theorem lw_p55 : lw_okq (⟨"HungFromIceModel", "sounds", "()V"⟩, 23) := ⟨⟨by decide +kernel, by decide +kernel⟩, List.mem_of_getElem? (i := 946) (by decide +kernel), List.mem_of_getElem? (i := 1196) (by decide +kernel), List.mem_of_getElem? (i := 1197) (by decide +kernel)⟩
theorem lw_p56 : lw_okq (⟨"HungFromIceModel", "isSpot", "(I)Z"⟩, 23) := ⟨⟨by decide +kernel, by decide +kernel⟩, List.mem_of_getElem? (i := 946) (by decide +kernel), List.mem_of_getElem? (i := 1200) (by decide +kernel), List.mem_of_getElem? (i := 1201) (by decide +kernel)⟩
theorem lw_p57 : lw_okq (⟨"HungFromIceModel", "isSpread", "(I)Z"⟩, 23) := ⟨⟨by decide +kernel, by decide +kernel⟩, List.mem_of_getElem? (i := 946) (by decide +kernel), List.mem_of_getElem? (i := 1205) (by decide +kernel), List.mem_of_getElem? (i := 1206) (by decide +kernel)⟩
theorem lw_p58 : lw_okq (⟨"HungFromIceModel", "isSooner", "(IIII)Z"⟩, 23) := ⟨⟨by decide +kernel, by decide +kernel⟩, List.mem_of_getElem? (i := 946) (by decide +kernel), List.mem_of_getElem? (i := 1209) (by decide +kernel), List.mem_of_getElem? (i := 1210) (by decide +kernel)⟩
theorem lw_p59 : lw_okq (⟨"HungFromIceModel", "timeOf", "(II)I"⟩, 23) := ⟨⟨by decide +kernel, by decide +kernel⟩, List.mem_of_getElem? (i := 946) (by decide +kernel), List.mem_of_getElem? (i := 1213) (by decide +kernel), List.mem_of_getElem? (i := 1214) (by decide +kernel)⟩
theorem lw_p60 : lw_okq (⟨"HungFromIceModel", "spot", "(I)I"⟩, 23) := ⟨⟨by decide +kernel, by decide +kernel⟩, List.mem_of_getElem? (i := 946) (by decide +kernel), List.mem_of_getElem? (i := 1222) (by decide +kernel), List.mem_of_getElem? (i := 1223) (by decide +kernel)⟩
theorem lw_p61 : lw_okq (⟨"HungFromIceModel", "isWhence", "(I)Z"⟩, 23) := ⟨⟨by decide +kernel, by decide +kernel⟩, List.mem_of_getElem? (i := 946) (by decide +kernel), List.mem_of_getElem? (i := 1242) (by decide +kernel), List.mem_of_getElem? (i := 1243) (by decide +kernel)⟩
theorem lw_p62 : lw_okq (⟨"HungFromIceModel", "movedOf", "(I)I"⟩, 23) := ⟨⟨by decide +kernel, by decide +kernel⟩, List.mem_of_getElem? (i := 946) (by decide +kernel), List.mem_of_getElem? (i := 1250) (by decide +kernel), List.mem_of_getElem? (i := 1251) (by decide +kernel)⟩
theorem lw_p63 : lw_okq (⟨"HungFromIceModel", "isAll", "(I)Z"⟩, 23) := ⟨⟨by decide +kernel, by decide +kernel⟩, List.mem_of_getElem? (i := 946) (by decide +kernel), List.mem_of_getElem? (i := 1254) (by decide +kernel), List.mem_of_getElem? (i := 1255) (by decide +kernel)⟩
def lw_privs_4 : List (MethodName × Nat) := [(⟨"HungFromIceModel", "drifts", "(II)V"⟩, 23), (⟨"HungFromIceModel", "townAt", "(III)I"⟩, 23), (⟨"HungFromIceModel", "isCut", "(I)Z"⟩, 23), (⟨"HungFromIceModel", "more", "(IIII)I"⟩, 23), (⟨"HungFromIceModel", "isPlace", "(I)Z"⟩, 23), (⟨"HungFromIceModel", "isMarket", "(II)Z"⟩, 23), (⟨"HungFromIceModel", "areMet", "(II)Z"⟩, 23), (⟨"HungFromIceModel", "sounds", "()V"⟩, 23), (⟨"HungFromIceModel", "isSpot", "(I)Z"⟩, 23), (⟨"HungFromIceModel", "isSpread", "(I)Z"⟩, 23), (⟨"HungFromIceModel", "isSooner", "(IIII)Z"⟩, 23), (⟨"HungFromIceModel", "timeOf", "(II)I"⟩, 23), (⟨"HungFromIceModel", "spot", "(I)I"⟩, 23), (⟨"HungFromIceModel", "isWhence", "(I)Z"⟩, 23), (⟨"HungFromIceModel", "movedOf", "(I)I"⟩, 23), (⟨"HungFromIceModel", "isAll", "(I)Z"⟩, 23)]
theorem lw_r4 : ∀ q ∈ lw_privs_4, lw_okq q := List.forall_mem_cons.mpr ⟨lw_p48, List.forall_mem_cons.mpr ⟨lw_p49, List.forall_mem_cons.mpr ⟨lw_p50, List.forall_mem_cons.mpr ⟨lw_p51, List.forall_mem_cons.mpr ⟨lw_p52, List.forall_mem_cons.mpr ⟨lw_p53, List.forall_mem_cons.mpr ⟨lw_p54, List.forall_mem_cons.mpr ⟨lw_p55, List.forall_mem_cons.mpr ⟨lw_p56, List.forall_mem_cons.mpr ⟨lw_p57, List.forall_mem_cons.mpr ⟨lw_p58, List.forall_mem_cons.mpr ⟨lw_p59, List.forall_mem_cons.mpr ⟨lw_p60, List.forall_mem_cons.mpr ⟨lw_p61, List.forall_mem_cons.mpr ⟨lw_p62, List.forall_mem_cons.mpr ⟨lw_p63, fun _ h => absurd h List.not_mem_nil⟩⟩⟩⟩⟩⟩⟩⟩⟩⟩⟩⟩⟩⟩⟩⟩
theorem lw_p64 : lw_okq (⟨"HungFromIceModel", "hangs", "(II)I"⟩, 23) := ⟨⟨by decide +kernel, by decide +kernel⟩, List.mem_of_getElem? (i := 946) (by decide +kernel), List.mem_of_getElem? (i := 1258) (by decide +kernel), List.mem_of_getElem? (i := 1259) (by decide +kernel)⟩
theorem lw_p65 : lw_okq (⟨"HungFromIceModel", "canHang", "(II)Z"⟩, 23) := ⟨⟨by decide +kernel, by decide +kernel⟩, List.mem_of_getElem? (i := 946) (by decide +kernel), List.mem_of_getElem? (i := 1262) (by decide +kernel), List.mem_of_getElem? (i := 1263) (by decide +kernel)⟩
theorem lw_p66 : lw_okq (⟨"HungFromIceModel", "alone", "()V"⟩, 23) := ⟨⟨by decide +kernel, by decide +kernel⟩, List.mem_of_getElem? (i := 946) (by decide +kernel), List.mem_of_getElem? (i := 1270) (by decide +kernel), List.mem_of_getElem? (i := 1271) (by decide +kernel)⟩
theorem lw_p67 : lw_okq (⟨"HungFromIceModel", "lands", "(IIII)I"⟩, 23) := ⟨⟨by decide +kernel, by decide +kernel⟩, List.mem_of_getElem? (i := 946) (by decide +kernel), List.mem_of_getElem? (i := 1274) (by decide +kernel), List.mem_of_getElem? (i := 1275) (by decide +kernel)⟩
theorem lw_p68 : lw_okq (⟨"HungFromIceModel", "clearOf", "(II)I"⟩, 23) := ⟨⟨by decide +kernel, by decide +kernel⟩, List.mem_of_getElem? (i := 946) (by decide +kernel), List.mem_of_getElem? (i := 1286) (by decide +kernel), List.mem_of_getElem? (i := 1287) (by decide +kernel)⟩
def lw_privs_5 : List (MethodName × Nat) := [(⟨"HungFromIceModel", "hangs", "(II)I"⟩, 23), (⟨"HungFromIceModel", "canHang", "(II)Z"⟩, 23), (⟨"HungFromIceModel", "alone", "()V"⟩, 23), (⟨"HungFromIceModel", "lands", "(IIII)I"⟩, 23), (⟨"HungFromIceModel", "clearOf", "(II)I"⟩, 23)]
theorem lw_r5 : ∀ q ∈ lw_privs_5, lw_okq q := List.forall_mem_cons.mpr ⟨lw_p64, List.forall_mem_cons.mpr ⟨lw_p65, List.forall_mem_cons.mpr ⟨lw_p66, List.forall_mem_cons.mpr ⟨lw_p67, List.forall_mem_cons.mpr ⟨lw_p68, fun _ h => absurd h List.not_mem_nil⟩⟩⟩⟩⟩
def lw_privs : List (MethodName × Nat) := lw_privs_1 ++ (lw_privs_2 ++ (lw_privs_3 ++ (lw_privs_4 ++ (lw_privs_5))))
def lw_tbl : List Cond := k2_sels lw_privs ++ tables_1
theorem lw_privs_ok : ∀ q ∈ lw_privs, lw_okq q := by
  show ∀ q ∈ lw_privs_1 ++ (lw_privs_2 ++ (lw_privs_3 ++ (lw_privs_4 ++ (lw_privs_5)))), lw_okq q
  exact List.forall_mem_append.mpr ⟨lw_r1, List.forall_mem_append.mpr ⟨lw_r2, List.forall_mem_append.mpr ⟨lw_r3, List.forall_mem_append.mpr ⟨lw_r4, lw_r5⟩⟩⟩⟩
-- ===== end of PART A; then your names; then what follows =====
def RX0 : String := "HungFromIce$Drifter"
def TX0 : u_T := fun k => match k with
  | 0 => ("HungFromIce$Drifter", "sea", "LHungFromIce$Sea;", true)
  | 1 => ("HungFromIce$Drifter", "level", "I", false)
  | 2 => ("HungFromIce$Drifter", "place", "I", false)
  | 3 => ("HungFromIce$Drifter", "weight", "I", false)
  | _ => ("HungFromIce$Drifter", "by", "I", false)
def tyX0 : Nat → FieldType := fun k => match k with
  | 0 => .object "HungFromIce$Sea"
  | 1 => .int
  | 2 => .int
  | 3 => .int
  | _ => .int
abbrev wsX00 : List Cond := u_ws RX0 TX0 5
theorem nmX0 : ∀ a, a < 5 → ∀ b, b < 5 → a ≠ b → (TX0 a).2.1 ≠ (TX0 b).2.1 := by decide +kernel
theorem tyX0_ok : ∀ k, k < 5 → parseFieldDescriptor (TX0 k).2.2.1 = some (tyX0 k) := by decide +kernel
abbrev cX0_init : ByteArray := prog_2_method_1_code
def yX0_init : MethodName := ⟨RX0, "<init>", "(LHungFromIce$Sea;)V"⟩
abbrev cX0_put : ByteArray := prog_2_method_2_code
def yX0_put : MethodName := ⟨RX0, "put", "(III)V"⟩
abbrev cX0_take : ByteArray := prog_2_method_3_code
def yX0_take : MethodName := ⟨RX0, "take", "(I)V"⟩
abbrev cX0_give : ByteArray := prog_2_method_4_code
def yX0_give : MethodName := ⟨RX0, "give", "(I)V"⟩
abbrev cX0_isWhere : ByteArray := prog_2_method_5_code
def yX0_isWhere : MethodName := ⟨RX0, "isWhere", "(II)Z"⟩
abbrev cX0_flow : ByteArray := prog_2_method_6_code
def yX0_flow : MethodName := ⟨RX0, "flow", "()V"⟩
abbrev cX0_pass : ByteArray := prog_2_method_7_code
def yX0_pass : MethodName := ⟨RX0, "pass", "(I)V"⟩
abbrev cX0_passMany : ByteArray := prog_2_method_8_code
def yX0_passMany : MethodName := ⟨RX0, "passMany", "(I)V"⟩
abbrev cX0_passUntilCaught : ByteArray := prog_2_method_9_code
def yX0_passUntilCaught : MethodName := ⟨RX0, "passUntilCaught", "(I)I"⟩
def RX1 : String := "HungFromIce$Drifts"
def TX1 : u_T := fun k => match k with
  | 0 => ("HungFromIce$Drifts", "levels", "[I", true)
  | 1 => ("HungFromIce$Drifts", "starts", "[I", true)
  | 2 => ("HungFromIce$Drifts", "ends", "[I", true)
  | 3 => ("HungFromIce$Drifts", "lengths", "[I", true)
  | _ => ("HungFromIce$Drifts", "amount", "I", false)
def tyX1 : Nat → FieldType := fun k => match k with
  | 0 => .array .int
  | 1 => .array .int
  | 2 => .array .int
  | 3 => .array .int
  | _ => .int
abbrev wsX10 : List Cond := u_ws RX1 TX1 5
theorem nmX1 : ∀ a, a < 5 → ∀ b, b < 5 → a ≠ b → (TX1 a).2.1 ≠ (TX1 b).2.1 := by decide +kernel
theorem tyX1_ok : ∀ k, k < 5 → parseFieldDescriptor (TX1 k).2.2.1 = some (tyX1 k) := by decide +kernel
abbrev cX1_init : ByteArray := prog_3_method_1_code
def yX1_init : MethodName := ⟨RX1, "<init>", "()V"⟩
abbrev cX1_add : ByteArray := prog_3_method_2_code
def yX1_add : MethodName := ⟨RX1, "add", "(IIII)Z"⟩
abbrev cX1_empty : ByteArray := prog_3_method_3_code
def yX1_empty : MethodName := ⟨RX1, "empty", "()I"⟩
abbrev cX1_allBy : ByteArray := prog_3_method_4_code
def yX1_allBy : MethodName := ⟨RX1, "allBy", "(LHungFromIce$Told;II)Z"⟩
def RX2 : String := "HungFromIce$Hearing"
def TX2 : u_T := fun k => match k with
  | 0 => ("HungFromIce$Hearing", "sea", "LHungFromIce$Sea;", true)
  | 1 => ("HungFromIce$Hearing", "sound", "LHungFromIce$Sound;", true)
  | 2 => ("HungFromIce$Hearing", "towns", "[I", true)
  | 3 => ("HungFromIce$Hearing", "beats", "[I", true)
  | 4 => ("HungFromIce$Hearing", "amount", "I", false)
  | 5 => ("HungFromIce$Hearing", "sources", "I", false)
  | _ => ("HungFromIce$Hearing", "lowest", "I", false)
def tyX2 : Nat → FieldType := fun k => match k with
  | 0 => .object "HungFromIce$Sea"
  | 1 => .object "HungFromIce$Sound"
  | 2 => .array .int
  | 3 => .array .int
  | 4 => .int
  | 5 => .int
  | _ => .int
abbrev wsX20 : List Cond := u_ws RX2 TX2 7
theorem nmX2 : ∀ a, a < 7 → ∀ b, b < 7 → a ≠ b → (TX2 a).2.1 ≠ (TX2 b).2.1 := by decide +kernel
theorem tyX2_ok : ∀ k, k < 7 → parseFieldDescriptor (TX2 k).2.2.1 = some (tyX2 k) := by decide +kernel
abbrev cX2_init : ByteArray := prog_4_method_1_code
def yX2_init : MethodName := ⟨RX2, "<init>", "(LHungFromIce$Sea;LHungFromIce$Sound;)V"⟩
abbrev cX2_add : ByteArray := prog_4_method_2_code
def yX2_add : MethodName := ⟨RX2, "add", "(II)Z"⟩
abbrev cX2_empty : ByteArray := prog_4_method_3_code
def yX2_empty : MethodName := ⟨RX2, "empty", "()I"⟩
abbrev cX2_seek : ByteArray := prog_4_method_4_code
def yX2_seek : MethodName := ⟨RX2, "seek", "()V"⟩
abbrev cX2_canBeSource : ByteArray := prog_4_method_5_code
def yX2_canBeSource : MethodName := ⟨RX2, "canBeSource", "(I)Z"⟩
def RX3 : String := "HungFromIce$Moves"
def TX3 : u_T := fun k => match k with
  | 0 => ("HungFromIce$Moves", "sea", "LHungFromIce$Sea;", true)
  | 1 => ("HungFromIce$Moves", "sound", "LHungFromIce$Sound;", true)
  | 2 => ("HungFromIce$Moves", "spots", "[I", true)
  | 3 => ("HungFromIce$Moves", "rows", "[LHungFromIce$Row;", true)
  | 4 => ("HungFromIce$Moves", "most", "I", false)
  | 5 => ("HungFromIce$Moves", "fewest", "I", false)
  | 6 => ("HungFromIce$Moves", "lower", "I", false)
  | _ => ("HungFromIce$Moves", "upper", "I", false)
def tyX3 : Nat → FieldType := fun k => match k with
  | 0 => .object "HungFromIce$Sea"
  | 1 => .object "HungFromIce$Sound"
  | 2 => .array .int
  | 3 => .array (.object "HungFromIce$Row")
  | 4 => .int
  | 5 => .int
  | 6 => .int
  | _ => .int
abbrev wsX30 : List Cond := u_ws RX3 TX3 8
theorem nmX3 : ∀ a, a < 8 → ∀ b, b < 8 → a ≠ b → (TX3 a).2.1 ≠ (TX3 b).2.1 := by decide +kernel
theorem tyX3_ok : ∀ k, k < 8 → parseFieldDescriptor (TX3 k).2.2.1 = some (tyX3 k) := by decide +kernel
abbrev cX3_init : ByteArray := prog_5_method_1_code
def yX3_init : MethodName := ⟨RX3, "<init>", "(LHungFromIce$Sea;LHungFromIce$Sound;)V"⟩
abbrev cX3_seek : ByteArray := prog_5_method_2_code
def yX3_seek : MethodName := ⟨RX3, "seek", "(I)V"⟩
abbrev cX3_hangAt : ByteArray := prog_5_method_3_code
def yX3_hangAt : MethodName := ⟨RX3, "hangAt", "(II)V"⟩
abbrev cX3_seekOne : ByteArray := prog_5_method_4_code
def yX3_seekOne : MethodName := ⟨RX3, "seekOne", "()Z"⟩
abbrev cX3_seekTwo : ByteArray := prog_5_method_5_code
def yX3_seekTwo : MethodName := ⟨RX3, "seekTwo", "()Z"⟩
abbrev cX3_seekWith : ByteArray := prog_5_method_6_code
def yX3_seekWith : MethodName := ⟨RX3, "seekWith", "(I)Z"⟩
abbrev cX3_seekAbove : ByteArray := prog_5_method_7_code
def yX3_seekAbove : MethodName := ⟨RX3, "seekAbove", "(I)I"⟩
abbrev cX3_placeFor : ByteArray := prog_5_method_8_code
def yX3_placeFor : MethodName := ⟨RX3, "placeFor", "(I)I"⟩
abbrev cX3_isFree : ByteArray := prog_5_method_9_code
def yX3_isFree : MethodName := ⟨RX3, "isFree", "(II)Z"⟩
abbrev cX3_allHear : ByteArray := prog_5_method_10_code
def yX3_allHear : MethodName := ⟨RX3, "allHear", "(I)Z"⟩
abbrev cX3_allHearAt : ByteArray := prog_5_method_11_code
def yX3_allHearAt : MethodName := ⟨RX3, "allHearAt", "(II)Z"⟩
abbrev cX3_beatsFrom : ByteArray := prog_5_method_12_code
def yX3_beatsFrom : MethodName := ⟨RX3, "beatsFrom", "(II)I"⟩
def RX4 : String := "HungFromIce$Past"
def TX4 : u_T := fun k => match k with
  | 0 => ("HungFromIce$Past", "states", "[LHungFromIce$State;", true)
  | 1 => ("HungFromIce$Past", "oldest", "I", false)
  | _ => ("HungFromIce$Past", "amount", "I", false)
def tyX4 : Nat → FieldType := fun k => match k with
  | 0 => .array (.object "HungFromIce$State")
  | 1 => .int
  | _ => .int
abbrev wsX40 : List Cond := u_ws RX4 TX4 3
theorem nmX4 : ∀ a, a < 3 → ∀ b, b < 3 → a ≠ b → (TX4 a).2.1 ≠ (TX4 b).2.1 := by decide +kernel
theorem tyX4_ok : ∀ k, k < 3 → parseFieldDescriptor (TX4 k).2.2.1 = some (tyX4 k) := by decide +kernel
abbrev cX4_init : ByteArray := prog_6_method_1_code
def yX4_init : MethodName := ⟨RX4, "<init>", "(I)V"⟩
abbrev cX4_empty : ByteArray := prog_6_method_2_code
def yX4_empty : MethodName := ⟨RX4, "empty", "()V"⟩
abbrev cX4_push : ByteArray := prog_6_method_3_code
def yX4_push : MethodName := ⟨RX4, "push", "(LHungFromIce$State;)V"⟩
abbrev cX4_pop : ByteArray := prog_6_method_4_code
def yX4_pop : MethodName := ⟨RX4, "pop", "(LHungFromIce$State;)Z"⟩
abbrev cX4_slot : ByteArray := prog_6_method_5_code
def yX4_slot : MethodName := ⟨RX4, "slot", "(I)I"⟩
def RX5 : String := "HungFromIce$Row"
def TX5 : u_T := fun k => match k with
  | 0 => ("HungFromIce$Row", "beats", "[I", true)
  | _ => ("HungFromIce$Row", "known", "Z", false)
def tyX5 : Nat → FieldType := fun k => match k with
  | 0 => .array .int
  | _ => .boolean
abbrev wsX50 : List Cond := u_ws RX5 TX5 2
theorem nmX5 : ∀ a, a < 2 → ∀ b, b < 2 → a ≠ b → (TX5 a).2.1 ≠ (TX5 b).2.1 := by decide +kernel
theorem tyX5_ok : ∀ k, k < 2 → parseFieldDescriptor (TX5 k).2.2.1 = some (tyX5 k) := by decide +kernel
abbrev cX5_init : ByteArray := prog_7_method_1_code
def yX5_init : MethodName := ⟨RX5, "<init>", "()V"⟩
abbrev cX5_silence : ByteArray := prog_7_method_2_code
def yX5_silence : MethodName := ⟨RX5, "silence", "()V"⟩
abbrev cX5_beatsTo : ByteArray := prog_7_method_3_code
def yX5_beatsTo : MethodName := ⟨RX5, "beatsTo", "(I)I"⟩
def RX6 : String := "HungFromIce$Sea"
def TX6 : u_T := fun k => match k with
  | 0 => ("HungFromIce$Sea", "told", "LHungFromIce$Told;", false)
  | _ => ("HungFromIce$Sea", "now", "LHungFromIce$State;", true)
def tyX6 : Nat → FieldType := fun k => match k with
  | 0 => .object "HungFromIce$Told"
  | _ => .object "HungFromIce$State"
abbrev wsX60 : List Cond := u_ws RX6 TX6 2
theorem nmX6 : ∀ a, a < 2 → ∀ b, b < 2 → a ≠ b → (TX6 a).2.1 ≠ (TX6 b).2.1 := by decide +kernel
theorem tyX6_ok : ∀ k, k < 2 → parseFieldDescriptor (TX6 k).2.2.1 = some (tyX6 k) := by decide +kernel
abbrev cX6_init : ByteArray := prog_8_method_1_code
def yX6_init : MethodName := ⟨RX6, "<init>", "()V"⟩
abbrev cX6_start : ByteArray := prog_8_method_2_code
def yX6_start : MethodName := ⟨RX6, "start", "()V"⟩
abbrev cX6_isLevel : ByteArray := prog_8_method_3_code
def yX6_isLevel : MethodName := ⟨RX6, "isLevel", "(I)Z"⟩
abbrev cX6_isPlace : ByteArray := prog_8_method_4_code
def yX6_isPlace : MethodName := ⟨RX6, "isPlace", "(I)Z"⟩
abbrev cX6_isTown : ByteArray := prog_8_method_5_code
def yX6_isTown : MethodName := ⟨RX6, "isTown", "(I)Z"⟩
abbrev cX6_isThing : ByteArray := prog_8_method_6_code
def yX6_isThing : MethodName := ⟨RX6, "isThing", "(I)Z"⟩
abbrev cX6_townSpot : ByteArray := prog_8_method_7_code
def yX6_townSpot : MethodName := ⟨RX6, "townSpot", "(I)I"⟩
abbrev cX6_townAt : ByteArray := prog_8_method_8_code
def yX6_townAt : MethodName := ⟨RX6, "townAt", "(III)I"⟩
def RX7 : String := "HungFromIce$Sound"
def TX7 : u_T := fun k => match k with
  | 0 => ("HungFromIce$Sound", "sea", "LHungFromIce$Sea;", true)
  | 1 => ("HungFromIce$Sound", "rows", "[LHungFromIce$Row;", true)
  | 2 => ("HungFromIce$Sound", "nowhere", "LHungFromIce$Row;", true)
  | _ => ("HungFromIce$Sound", "shut", "[Z", true)
def tyX7 : Nat → FieldType := fun k => match k with
  | 0 => .object "HungFromIce$Sea"
  | 1 => .array (.object "HungFromIce$Row")
  | 2 => .object "HungFromIce$Row"
  | _ => .array .boolean
abbrev wsX70 : List Cond := u_ws RX7 TX7 4
theorem nmX7 : ∀ a, a < 4 → ∀ b, b < 4 → a ≠ b → (TX7 a).2.1 ≠ (TX7 b).2.1 := by decide +kernel
theorem tyX7_ok : ∀ k, k < 4 → parseFieldDescriptor (TX7 k).2.2.1 = some (tyX7 k) := by decide +kernel
abbrev cX7_init : ByteArray := prog_9_method_1_code
def yX7_init : MethodName := ⟨RX7, "<init>", "(LHungFromIce$Sea;)V"⟩
abbrev cX7_start : ByteArray := prog_9_method_2_code
def yX7_start : MethodName := ⟨RX7, "start", "()V"⟩
abbrev cX7_isOpen : ByteArray := prog_9_method_3_code
def yX7_isOpen : MethodName := ⟨RX7, "isOpen", "(I)Z"⟩
abbrev cX7_rowFrom : ByteArray := prog_9_method_4_code
def yX7_rowFrom : MethodName := ⟨RX7, "rowFrom", "(I)LHungFromIce$Row;"⟩
abbrev cX7_fill : ByteArray := prog_9_method_5_code
def yX7_fill : MethodName := ⟨RX7, "fill", "(LHungFromIce$Row;I)V"⟩
abbrev cX7_improve : ByteArray := prog_9_method_6_code
def yX7_improve : MethodName := ⟨RX7, "improve", "([III)Z"⟩
def RX8 : String := "HungFromIce$State"
def TX8 : u_T := fun k => match k with
  | 0 => ("HungFromIce$State", "gone", "I", false)
  | 1 => ("HungFromIce$State", "things", "I", false)
  | 2 => ("HungFromIce$State", "townPlace", "[I", true)
  | 3 => ("HungFromIce$State", "townCut", "[Z", true)
  | 4 => ("HungFromIce$State", "thingLevel", "[I", true)
  | 5 => ("HungFromIce$State", "thingPlace", "[I", true)
  | 6 => ("HungFromIce$State", "thingWeight", "[I", true)
  | _ => ("HungFromIce$State", "thingBy", "[I", true)
def tyX8 : Nat → FieldType := fun k => match k with
  | 0 => .int
  | 1 => .int
  | 2 => .array .int
  | 3 => .array .boolean
  | 4 => .array .int
  | 5 => .array .int
  | 6 => .array .int
  | _ => .array .int
abbrev wsX80 : List Cond := u_ws RX8 TX8 8
theorem nmX8 : ∀ a, a < 8 → ∀ b, b < 8 → a ≠ b → (TX8 a).2.1 ≠ (TX8 b).2.1 := by decide +kernel
theorem tyX8_ok : ∀ k, k < 8 → parseFieldDescriptor (TX8 k).2.2.1 = some (tyX8 k) := by decide +kernel
abbrev cX8_init : ByteArray := prog_10_method_1_code
def yX8_init : MethodName := ⟨RX8, "<init>", "()V"⟩
abbrev cX8_start : ByteArray := prog_10_method_2_code
def yX8_start : MethodName := ⟨RX8, "start", "(LHungFromIce$Told;)V"⟩
abbrev cX8_copyFrom : ByteArray := prog_10_method_3_code
def yX8_copyFrom : MethodName := ⟨RX8, "copyFrom", "(LHungFromIce$State;)V"⟩
abbrev cX8_addThing : ByteArray := prog_10_method_4_code
def yX8_addThing : MethodName := ⟨RX8, "addThing", "(III)I"⟩
abbrev cX8_hangTown : ByteArray := prog_10_method_5_code
def yX8_hangTown : MethodName := ⟨RX8, "hangTown", "(II)V"⟩
abbrev cX8_cutTown : ByteArray := prog_10_method_6_code
def yX8_cutTown : MethodName := ⟨RX8, "cutTown", "(I)V"⟩
def RX9 : String := "HungFromIce$Text"
def TX9 : u_T := fun k => match k with
  | 0 => ("HungFromIce$Text", "letters", "[I", true)
  | 1 => ("HungFromIce$Text", "numbers", "[I", true)
  | 2 => ("HungFromIce$Text", "numbersRead", "I", false)
  | _ => ("HungFromIce$Text", "length", "I", false)
def tyX9 : Nat → FieldType := fun k => match k with
  | 0 => .array .int
  | 1 => .array .int
  | 2 => .int
  | _ => .int
abbrev wsX90 : List Cond := u_ws RX9 TX9 4
theorem nmX9 : ∀ a, a < 4 → ∀ b, b < 4 → a ≠ b → (TX9 a).2.1 ≠ (TX9 b).2.1 := by decide +kernel
theorem tyX9_ok : ∀ k, k < 4 → parseFieldDescriptor (TX9 k).2.2.1 = some (tyX9 k) := by decide +kernel
abbrev cX9_init : ByteArray := prog_11_method_1_code
def yX9_init : MethodName := ⟨RX9, "<init>", "()V"⟩
abbrev cX9_add : ByteArray := prog_11_method_2_code
def yX9_add : MethodName := ⟨RX9, "add", "(I)Z"⟩
abbrev cX9_empty : ByteArray := prog_11_method_3_code
def yX9_empty : MethodName := ⟨RX9, "empty", "()I"⟩
abbrev cX9_readInto : ByteArray := prog_11_method_4_code
def yX9_readInto : MethodName := ⟨RX9, "readInto", "(LHungFromIce$Told;)I"⟩
abbrev cX9_splitItem : ByteArray := prog_11_method_5_code
def yX9_splitItem : MethodName := ⟨RX9, "splitItem", "(I)I"⟩
abbrev cX9_figuresFrom : ByteArray := prog_11_method_6_code
def yX9_figuresFrom : MethodName := ⟨RX9, "figuresFrom", "(I)I"⟩
abbrev cX9_numberFrom : ByteArray := prog_11_method_7_code
def yX9_numberFrom : MethodName := ⟨RX9, "numberFrom", "(II)I"⟩
abbrev cX9_letterAt : ByteArray := prog_11_method_8_code
def yX9_letterAt : MethodName := ⟨RX9, "letterAt", "(I)I"⟩
def RX10 : String := "HungFromIce$Told"
def TX10 : u_T := fun k => match k with
  | 0 => ("HungFromIce$Told", "places", "I", false)
  | 1 => ("HungFromIce$Told", "levels", "I", false)
  | 2 => ("HungFromIce$Told", "current", "[I", true)
  | 3 => ("HungFromIce$Told", "warmth", "[I", true)
  | 4 => ("HungFromIce$Told", "beats", "[I", true)
  | 5 => ("HungFromIce$Told", "towns", "I", false)
  | 6 => ("HungFromIce$Told", "townLevel", "[I", true)
  | 7 => ("HungFromIce$Told", "townPlace", "[I", true)
  | 8 => ("HungFromIce$Told", "townHas", "[I", true)
  | 9 => ("HungFromIce$Told", "townWants", "[I", true)
  | 10 => ("HungFromIce$Told", "markets", "I", false)
  | 11 => ("HungFromIce$Told", "marketLevel", "[I", true)
  | 12 => ("HungFromIce$Told", "marketPlace", "[I", true)
  | 13 => ("HungFromIce$Told", "things", "I", false)
  | 14 => ("HungFromIce$Told", "thingLevel", "[I", true)
  | 15 => ("HungFromIce$Told", "thingPlace", "[I", true)
  | _ => ("HungFromIce$Told", "thingWeight", "[I", true)
def tyX10 : Nat → FieldType := fun k => match k with
  | 0 => .int
  | 1 => .int
  | 2 => .array .int
  | 3 => .array .int
  | 4 => .array .int
  | 5 => .int
  | 6 => .array .int
  | 7 => .array .int
  | 8 => .array .int
  | 9 => .array .int
  | 10 => .int
  | 11 => .array .int
  | 12 => .array .int
  | 13 => .int
  | 14 => .array .int
  | 15 => .array .int
  | _ => .array .int
abbrev wsX100 : List Cond := u_ws RX10 TX10 17
theorem nmX10 : ∀ a, a < 17 → ∀ b, b < 17 → a ≠ b → (TX10 a).2.1 ≠ (TX10 b).2.1 := by decide +kernel
theorem tyX10_ok : ∀ k, k < 17 → parseFieldDescriptor (TX10 k).2.2.1 = some (tyX10 k) := by decide +kernel
abbrev cX10_init : ByteArray := prog_12_method_1_code
def yX10_init : MethodName := ⟨RX10, "<init>", "()V"⟩
abbrev cX10_start : ByteArray := prog_12_method_2_code
def yX10_start : MethodName := ⟨RX10, "start", "()V"⟩
abbrev cX10_wrap : ByteArray := prog_12_method_3_code
def yX10_wrap : MethodName := ⟨RX10, "wrap", "(I)I"⟩
abbrev cX10_addItem : ByteArray := prog_12_method_4_code
def yX10_addItem : MethodName := ⟨RX10, "addItem", "(I[II)Z"⟩
abbrev cX10_addPlaces : ByteArray := prog_12_method_5_code
def yX10_addPlaces : MethodName := ⟨RX10, "addPlaces", "(I)Z"⟩
abbrev cX10_addLevel : ByteArray := prog_12_method_6_code
def yX10_addLevel : MethodName := ⟨RX10, "addLevel", "(III)Z"⟩
abbrev cX10_addTown : ByteArray := prog_12_method_7_code
def yX10_addTown : MethodName := ⟨RX10, "addTown", "(IIII)Z"⟩
abbrev cX10_addMarket : ByteArray := prog_12_method_8_code
def yX10_addMarket : MethodName := ⟨RX10, "addMarket", "(II)Z"⟩
abbrev cX10_addThing : ByteArray := prog_12_method_9_code
def yX10_addThing : MethodName := ⟨RX10, "addThing", "(III)Z"⟩
abbrev cX10_canBeSpot : ByteArray := prog_12_method_10_code
def yX10_canBeSpot : MethodName := ⟨RX10, "canBeSpot", "(II)Z"⟩
abbrev cX10_holds : ByteArray := prog_12_method_11_code
def yX10_holds : MethodName := ⟨RX10, "holds", "()Z"⟩
abbrev cX10_allLevelsThere : ByteArray := prog_12_method_12_code
def yX10_allLevelsThere : MethodName := ⟨RX10, "allLevelsThere", "()Z"⟩
abbrev cX10_townsApart : ByteArray := prog_12_method_13_code
def yX10_townsApart : MethodName := ⟨RX10, "townsApart", "()Z"⟩
def RX11 : String := "HungFromIce"
def TX11 : u_T := fun k => match k with
  | 0 => ("HungFromIce", "text", "LHungFromIce$Text;", true)
  | 1 => ("HungFromIce", "sea", "LHungFromIce$Sea;", true)
  | 2 => ("HungFromIce", "undoable", "LHungFromIce$Past;", true)
  | 3 => ("HungFromIce", "kept", "LHungFromIce$Past;", true)
  | 4 => ("HungFromIce", "one", "LHungFromIce$Drifter;", true)
  | 5 => ("HungFromIce", "other", "LHungFromIce$Drifter;", true)
  | 6 => ("HungFromIce", "sound", "LHungFromIce$Sound;", true)
  | 7 => ("HungFromIce", "hearing", "LHungFromIce$Hearing;", true)
  | 8 => ("HungFromIce", "moves", "LHungFromIce$Moves;", true)
  | 9 => ("HungFromIce", "drifts", "LHungFromIce$Drifts;", true)
  | 10 => ("HungFromIce", "odds", "[J", true)
  | _ => ("HungFromIce", "draft", "LHungFromIce$Told;", false)
def tyX11 : Nat → FieldType := fun k => match k with
  | 0 => .object "HungFromIce$Text"
  | 1 => .object "HungFromIce$Sea"
  | 2 => .object "HungFromIce$Past"
  | 3 => .object "HungFromIce$Past"
  | 4 => .object "HungFromIce$Drifter"
  | 5 => .object "HungFromIce$Drifter"
  | 6 => .object "HungFromIce$Sound"
  | 7 => .object "HungFromIce$Hearing"
  | 8 => .object "HungFromIce$Moves"
  | 9 => .object "HungFromIce$Drifts"
  | 10 => .array .long
  | _ => .object "HungFromIce$Told"
abbrev wsX110 : List Cond := u_ws RX11 TX11 12
theorem nmX11 : ∀ a, a < 12 → ∀ b, b < 12 → a ≠ b → (TX11 a).2.1 ≠ (TX11 b).2.1 := by decide +kernel
theorem tyX11_ok : ∀ k, k < 12 → parseFieldDescriptor (TX11 k).2.2.1 = some (tyX11 k) := by decide +kernel
abbrev cX11_init : ByteArray := prog_1_method_1_code
def yX11_init : MethodName := ⟨RX11, "<init>", "()V"⟩
abbrev cX11_write : ByteArray := prog_1_method_2_code
def yX11_write : MethodName := ⟨RX11, "write", "(I)I"⟩
abbrev cX11_wipe : ByteArray := prog_1_method_3_code
def yX11_wipe : MethodName := ⟨RX11, "wipe", "()I"⟩
abbrev cX11_fault : ByteArray := prog_1_method_4_code
def yX11_fault : MethodName := ⟨RX11, "fault", "()I"⟩
abbrev cX11_lay : ByteArray := prog_1_method_5_code
def yX11_lay : MethodName := ⟨RX11, "lay", "()I"⟩
abbrev cX11_level : ByteArray := prog_1_method_6_code
def yX11_level : MethodName := ⟨RX11, "level", "(II)I"⟩
abbrev cX11_town : ByteArray := prog_1_method_7_code
def yX11_town : MethodName := ⟨RX11, "town", "(II)I"⟩
abbrev cX11_thing : ByteArray := prog_1_method_8_code
def yX11_thing : MethodName := ⟨RX11, "thing", "(II)I"⟩
abbrev cX11_steps : ByteArray := prog_1_method_9_code
def yX11_steps : MethodName := ⟨RX11, "steps", "(I)I"⟩
abbrev cX11_letGo : ByteArray := prog_1_method_10_code
def yX11_letGo : MethodName := ⟨RX11, "letGo", "(II)I"⟩
abbrev cX11_hang : ByteArray := prog_1_method_11_code
def yX11_hang : MethodName := ⟨RX11, "hang", "(II)I"⟩
abbrev cX11_cut : ByteArray := prog_1_method_12_code
def yX11_cut : MethodName := ⟨RX11, "cut", "(I)I"⟩
abbrev cX11_undo : ByteArray := prog_1_method_13_code
def yX11_undo : MethodName := ⟨RX11, "undo", "()I"⟩
abbrev cX11_behind : ByteArray := prog_1_method_14_code
def yX11_behind : MethodName := ⟨RX11, "behind", "(III)I"⟩
abbrev cX11_meet : ByteArray := prog_1_method_15_code
def yX11_meet : MethodName := ⟨RX11, "meet", "(II)I"⟩
abbrev cX11_round : ByteArray := prog_1_method_16_code
def yX11_round : MethodName := ⟨RX11, "round", "(I)I"⟩
abbrev cX11_time : ByteArray := prog_1_method_17_code
def yX11_time : MethodName := ⟨RX11, "time", "(IIII)I"⟩
abbrev cX11_hears : ByteArray := prog_1_method_18_code
def yX11_hears : MethodName := ⟨RX11, "hears", "(II)I"⟩
abbrev cX11_shadow : ByteArray := prog_1_method_19_code
def yX11_shadow : MethodName := ⟨RX11, "shadow", "(I)I"⟩
abbrev cX11_heard : ByteArray := prog_1_method_20_code
def yX11_heard : MethodName := ⟨RX11, "heard", "(II)I"⟩
abbrev cX11_hush : ByteArray := prog_1_method_21_code
def yX11_hush : MethodName := ⟨RX11, "hush", "()I"⟩
abbrev cX11_whence : ByteArray := prog_1_method_22_code
def yX11_whence : MethodName := ⟨RX11, "whence", "(I)I"⟩
abbrev cX11_moved : ByteArray := prog_1_method_23_code
def yX11_moved : MethodName := ⟨RX11, "moved", "(II)I"⟩
abbrev cX11_sent : ByteArray := prog_1_method_24_code
def yX11_sent : MethodName := ⟨RX11, "sent", "(III)I"⟩
abbrev cX11_fall : ByteArray := prog_1_method_25_code
def yX11_fall : MethodName := ⟨RX11, "fall", "(II)I"⟩
abbrev cX11_clear : ByteArray := prog_1_method_26_code
def yX11_clear : MethodName := ⟨RX11, "clear", "(II)I"⟩
abbrev cX11_gain : ByteArray := prog_1_method_27_code
def yX11_gain : MethodName := ⟨RX11, "gain", "(I)I"⟩
abbrev cX11_drifted : ByteArray := prog_1_method_28_code
def yX11_drifted : MethodName := ⟨RX11, "drifted", "(IIII)I"⟩
abbrev cX11_forget : ByteArray := prog_1_method_29_code
def yX11_forget : MethodName := ⟨RX11, "forget", "()I"⟩
abbrev cX11_currents : ByteArray := prog_1_method_30_code
def yX11_currents : MethodName := ⟨RX11, "currents", "(I)I"⟩
abbrev cX11_leak : ByteArray := prog_1_method_31_code
def yX11_leak : MethodName := ⟨RX11, "leak", "(IIIII)J"⟩
abbrev cX11_year : ByteArray := prog_1_method_32_code
def yX11_year : MethodName := ⟨RX11, "year", "(III)I"⟩
abbrev cX11_keep : ByteArray := prog_1_method_33_code
def yX11_keep : MethodName := ⟨RX11, "keep", "()I"⟩
abbrev cX11_back : ByteArray := prog_1_method_34_code
def yX11_back : MethodName := ⟨RX11, "back", "()I"⟩
abbrev cX11_count : ByteArray := prog_1_method_35_code
def yX11_count : MethodName := ⟨RX11, "count", "(I)I"⟩
abbrev cX11_within : ByteArray := prog_1_method_36_code
def yX11_within : MethodName := ⟨RX11, "within", "(III)Z"⟩
abbrev cX11_spotOf : ByteArray := prog_1_method_37_code
def yX11_spotOf : MethodName := ⟨RX11, "spotOf", "(II)I"⟩
abbrev cX11_layText : ByteArray := prog_1_method_38_code
def yX11_layText : MethodName := ⟨RX11, "layText", "()Z"⟩
abbrev cX11_clearingPrice : ByteArray := prog_1_method_39_code
def yX11_clearingPrice : MethodName := ⟨RX11, "clearingPrice", "(II)I"⟩
abbrev cX11_anyTown : ByteArray := prog_1_method_40_code
def yX11_anyTown : MethodName := ⟨RX11, "anyTown", "(II)Z"⟩
abbrev cX11_lackAt : ByteArray := prog_1_method_41_code
def yX11_lackAt : MethodName := ⟨RX11, "lackAt", "(III)I"⟩
abbrev cX11_spreadOdds : ByteArray := prog_1_method_42_code
def yX11_spreadOdds : MethodName := ⟨RX11, "spreadOdds", "(III)V"⟩
abbrev cX11_commonDivisor : ByteArray := prog_1_method_43_code
def yX11_commonDivisor : MethodName := ⟨RX11, "commonDivisor", "(JJ)J"⟩
abbrev cX11_putDrawn : ByteArray := prog_1_method_44_code
def yX11_putDrawn : MethodName := ⟨RX11, "putDrawn", "(II)V"⟩
def RX12 : String := "HungFromIceModel"
def TX12 : u_T := fun k => match k with
  | 0 => ("HungFromIceModel", "length", "I", false)
  | 1 => ("HungFromIceModel", "text", "[B", true)
  | 2 => ("HungFromIceModel", "at", "I", false)
  | 3 => ("HungFromIceModel", "told", "[I", true)
  | 4 => ("HungFromIceModel", "levels", "[I", true)
  | 5 => ("HungFromIceModel", "towns", "[I", true)
  | 6 => ("HungFromIceModel", "markets", "[I", true)
  | 7 => ("HungFromIceModel", "things", "[I", true)
  | 8 => ("HungFromIceModel", "slot", "[I", true)
  | 9 => ("HungFromIceModel", "kept", "I", false)
  | 10 => ("HungFromIceModel", "done", "I", false)
  | 11 => ("HungFromIceModel", "heards", "I", false)
  | 12 => ("HungFromIceModel", "heard", "[I", true)
  | 13 => ("HungFromIceModel", "drifts", "I", false)
  | 14 => ("HungFromIceModel", "drift", "[I", true)
  | 15 => ("HungFromIceModel", "far", "[I", true)
  | 16 => ("HungFromIceModel", "isFar", "Z", false)
  | 17 => ("HungFromIceModel", "hung", "[I", true)
  | 18 => ("HungFromIceModel", "wantOne", "I", false)
  | 19 => ("HungFromIceModel", "wantTwo", "I", false)
  | 20 => ("HungFromIceModel", "chance", "[J", true)
  | 21 => ("HungFromIceModel", "got", "[I", true)
  | _ => ("HungFromIceModel", "stepsTaken", "I", false)
def tyX12 : Nat → FieldType := fun k => match k with
  | 0 => .int
  | 1 => .array .byte
  | 2 => .int
  | 3 => .array .int
  | 4 => .array .int
  | 5 => .array .int
  | 6 => .array .int
  | 7 => .array .int
  | 8 => .array .int
  | 9 => .int
  | 10 => .int
  | 11 => .int
  | 12 => .array .int
  | 13 => .int
  | 14 => .array .int
  | 15 => .array .int
  | 16 => .boolean
  | 17 => .array .int
  | 18 => .int
  | 19 => .int
  | 20 => .array .long
  | 21 => .array .int
  | _ => .int
abbrev wsX120 : List Cond := u_ws RX12 TX12 23
theorem nmX12 : ∀ a, a < 23 → ∀ b, b < 23 → a ≠ b → (TX12 a).2.1 ≠ (TX12 b).2.1 := by decide +kernel
theorem tyX12_ok : ∀ k, k < 23 → parseFieldDescriptor (TX12 k).2.2.1 = some (tyX12 k) := by decide +kernel
abbrev cX12_init : ByteArray := prog_14_method_1_code
def yX12_init : MethodName := ⟨RX12, "<init>", "()V"⟩
abbrev cX12_in : ByteArray := prog_14_method_2_code
def yX12_in : MethodName := ⟨RX12, "in", "(JJJ)Z"⟩
abbrev cX12_write : ByteArray := prog_14_method_3_code
def yX12_write : MethodName := ⟨RX12, "write", "(I)I"⟩
abbrev cX12_wipe : ByteArray := prog_14_method_4_code
def yX12_wipe : MethodName := ⟨RX12, "wipe", "()I"⟩
abbrev cX12_number : ByteArray := prog_14_method_5_code
def yX12_number : MethodName := ⟨RX12, "number", "()I"⟩
abbrev cX12_numbers : ByteArray := prog_14_method_6_code
def yX12_numbers : MethodName := ⟨RX12, "numbers", "(I)I"⟩
abbrev cX12_isItem : ByteArray := prog_14_method_7_code
def yX12_isItem : MethodName := ⟨RX12, "isItem", "()Z"⟩
abbrev cX12_isGood : ByteArray := prog_14_method_8_code
def yX12_isGood : MethodName := ⟨RX12, "isGood", "(I)Z"⟩
abbrev cX12_isPut : ByteArray := prog_14_method_9_code
def yX12_isPut : MethodName := ⟨RX12, "isPut", "([IIIII)Z"⟩
abbrev cX12_begins : ByteArray := prog_14_method_10_code
def yX12_begins : MethodName := ⟨RX12, "begins", "()V"⟩
abbrev cX12_takes : ByteArray := prog_14_method_11_code
def yX12_takes : MethodName := ⟨RX12, "takes", "()V"⟩
abbrev cX12_fault : ByteArray := prog_14_method_12_code
def yX12_fault : MethodName := ⟨RX12, "fault", "()I"⟩
abbrev cX12_isSound : ByteArray := prog_14_method_13_code
def yX12_isSound : MethodName := ⟨RX12, "isSound", "()Z"⟩
abbrev cX12_lay : ByteArray := prog_14_method_14_code
def yX12_lay : MethodName := ⟨RX12, "lay", "()I"⟩
abbrev cX12_isLevel : ByteArray := prog_14_method_15_code
def yX12_isLevel : MethodName := ⟨RX12, "isLevel", "(I)Z"⟩
abbrev cX12_isPlace : ByteArray := prog_14_method_16_code
def yX12_isPlace : MethodName := ⟨RX12, "isPlace", "(I)Z"⟩
abbrev cX12_isTown : ByteArray := prog_14_method_17_code
def yX12_isTown : MethodName := ⟨RX12, "isTown", "(I)Z"⟩
abbrev cX12_isThing : ByteArray := prog_14_method_18_code
def yX12_isThing : MethodName := ⟨RX12, "isThing", "(I)Z"⟩
abbrev cX12_isCut : ByteArray := prog_14_method_19_code
def yX12_isCut : MethodName := ⟨RX12, "isCut", "(I)Z"⟩
abbrev cX12_isMarket : ByteArray := prog_14_method_20_code
def yX12_isMarket : MethodName := ⟨RX12, "isMarket", "(II)Z"⟩
abbrev cX12_levelOf : ByteArray := prog_14_method_21_code
def yX12_levelOf : MethodName := ⟨RX12, "levelOf", "(I)I"⟩
abbrev cX12_townAt : ByteArray := prog_14_method_22_code
def yX12_townAt : MethodName := ⟨RX12, "townAt", "(III)I"⟩
abbrev cX12_level : ByteArray := prog_14_method_23_code
def yX12_level : MethodName := ⟨RX12, "level", "(II)I"⟩
abbrev cX12_town : ByteArray := prog_14_method_24_code
def yX12_town : MethodName := ⟨RX12, "town", "(II)I"⟩
abbrev cX12_tells : ByteArray := prog_14_method_25_code
def yX12_tells : MethodName := ⟨RX12, "tells", "(III)I"⟩
abbrev cX12_thing : ByteArray := prog_14_method_26_code
def yX12_thing : MethodName := ⟨RX12, "thing", "(II)I"⟩
abbrev cX12_copies : ByteArray := prog_14_method_27_code
def yX12_copies : MethodName := ⟨RX12, "copies", "(II)V"⟩
abbrev cX12_known : ByteArray := prog_14_method_28_code
def yX12_known : MethodName := ⟨RX12, "known", "()V"⟩
abbrev cX12_drifts : ByteArray := prog_14_method_29_code
def yX12_drifts : MethodName := ⟨RX12, "drifts", "(II)V"⟩
abbrev cX12_goes : ByteArray := prog_14_method_30_code
def yX12_goes : MethodName := ⟨RX12, "goes", "(III)I"⟩
abbrev cX12_step : ByteArray := prog_14_method_31_code
def yX12_step : MethodName := ⟨RX12, "step", "(I)I"⟩
abbrev cX12_steps : ByteArray := prog_14_method_32_code
def yX12_steps : MethodName := ⟨RX12, "steps", "(I)I"⟩
abbrev cX12_more : ByteArray := prog_14_method_33_code
def yX12_more : MethodName := ⟨RX12, "more", "(IIII)I"⟩
abbrev cX12_letGo : ByteArray := prog_14_method_34_code
def yX12_letGo : MethodName := ⟨RX12, "letGo", "(II)I"⟩
abbrev cX12_hang : ByteArray := prog_14_method_35_code
def yX12_hang : MethodName := ⟨RX12, "hang", "(II)I"⟩
abbrev cX12_cut : ByteArray := prog_14_method_36_code
def yX12_cut : MethodName := ⟨RX12, "cut", "(I)I"⟩
abbrev cX12_undo : ByteArray := prog_14_method_37_code
def yX12_undo : MethodName := ⟨RX12, "undo", "()I"⟩
abbrev cX12_behind : ByteArray := prog_14_method_38_code
def yX12_behind : MethodName := ⟨RX12, "behind", "(III)I"⟩
abbrev cX12_areMet : ByteArray := prog_14_method_39_code
def yX12_areMet : MethodName := ⟨RX12, "areMet", "(II)Z"⟩
abbrev cX12_meet : ByteArray := prog_14_method_40_code
def yX12_meet : MethodName := ⟨RX12, "meet", "(II)I"⟩
abbrev cX12_round : ByteArray := prog_14_method_41_code
def yX12_round : MethodName := ⟨RX12, "round", "(I)I"⟩
abbrev cX12_isSpot : ByteArray := prog_14_method_42_code
def yX12_isSpot : MethodName := ⟨RX12, "isSpot", "(I)Z"⟩
abbrev cX12_isSooner : ByteArray := prog_14_method_43_code
def yX12_isSooner : MethodName := ⟨RX12, "isSooner", "(IIII)Z"⟩
abbrev cX12_isSpread : ByteArray := prog_14_method_44_code
def yX12_isSpread : MethodName := ⟨RX12, "isSpread", "(I)Z"⟩
abbrev cX12_sounds : ByteArray := prog_14_method_45_code
def yX12_sounds : MethodName := ⟨RX12, "sounds", "()V"⟩
abbrev cX12_timeOf : ByteArray := prog_14_method_46_code
def yX12_timeOf : MethodName := ⟨RX12, "timeOf", "(II)I"⟩
abbrev cX12_spot : ByteArray := prog_14_method_47_code
def yX12_spot : MethodName := ⟨RX12, "spot", "(I)I"⟩
abbrev cX12_time : ByteArray := prog_14_method_48_code
def yX12_time : MethodName := ⟨RX12, "time", "(IIII)I"⟩
abbrev cX12_hears : ByteArray := prog_14_method_49_code
def yX12_hears : MethodName := ⟨RX12, "hears", "(II)I"⟩
abbrev cX12_shadow : ByteArray := prog_14_method_50_code
def yX12_shadow : MethodName := ⟨RX12, "shadow", "(I)I"⟩
abbrev cX12_heard : ByteArray := prog_14_method_51_code
def yX12_heard : MethodName := ⟨RX12, "heard", "(II)I"⟩
abbrev cX12_hush : ByteArray := prog_14_method_52_code
def yX12_hush : MethodName := ⟨RX12, "hush", "()I"⟩
abbrev cX12_isWhence : ByteArray := prog_14_method_53_code
def yX12_isWhence : MethodName := ⟨RX12, "isWhence", "(I)Z"⟩
abbrev cX12_whence : ByteArray := prog_14_method_54_code
def yX12_whence : MethodName := ⟨RX12, "whence", "(I)I"⟩
abbrev cX12_isAll : ByteArray := prog_14_method_55_code
def yX12_isAll : MethodName := ⟨RX12, "isAll", "(I)Z"⟩
abbrev cX12_canHang : ByteArray := prog_14_method_56_code
def yX12_canHang : MethodName := ⟨RX12, "canHang", "(II)Z"⟩
abbrev cX12_hangs : ByteArray := prog_14_method_57_code
def yX12_hangs : MethodName := ⟨RX12, "hangs", "(II)I"⟩
abbrev cX12_movedOf : ByteArray := prog_14_method_58_code
def yX12_movedOf : MethodName := ⟨RX12, "movedOf", "(I)I"⟩
abbrev cX12_moved : ByteArray := prog_14_method_59_code
def yX12_moved : MethodName := ⟨RX12, "moved", "(II)I"⟩
abbrev cX12_lands : ByteArray := prog_14_method_60_code
def yX12_lands : MethodName := ⟨RX12, "lands", "(IIII)I"⟩
abbrev cX12_sent : ByteArray := prog_14_method_61_code
def yX12_sent : MethodName := ⟨RX12, "sent", "(III)I"⟩
abbrev cX12_alone : ByteArray := prog_14_method_62_code
def yX12_alone : MethodName := ⟨RX12, "alone", "()V"⟩
abbrev cX12_fall : ByteArray := prog_14_method_63_code
def yX12_fall : MethodName := ⟨RX12, "fall", "(II)I"⟩
abbrev cX12_clearOf : ByteArray := prog_14_method_64_code
def yX12_clearOf : MethodName := ⟨RX12, "clearOf", "(II)I"⟩
abbrev cX12_clear : ByteArray := prog_14_method_65_code
def yX12_clear : MethodName := ⟨RX12, "clear", "(II)I"⟩
abbrev cX12_gain : ByteArray := prog_14_method_66_code
def yX12_gain : MethodName := ⟨RX12, "gain", "(I)I"⟩
abbrev cX12_drifted : ByteArray := prog_14_method_67_code
def yX12_drifted : MethodName := ⟨RX12, "drifted", "(IIII)I"⟩
abbrev cX12_forget : ByteArray := prog_14_method_68_code
def yX12_forget : MethodName := ⟨RX12, "forget", "()I"⟩
abbrev cX12_currents : ByteArray := prog_14_method_69_code
def yX12_currents : MethodName := ⟨RX12, "currents", "(I)I"⟩
abbrev cX12_leak : ByteArray := prog_14_method_70_code
def yX12_leak : MethodName := ⟨RX12, "leak", "(IIIII)J"⟩
abbrev cX12_year : ByteArray := prog_14_method_71_code
def yX12_year : MethodName := ⟨RX12, "year", "(III)I"⟩
abbrev cX12_keep : ByteArray := prog_14_method_72_code
def yX12_keep : MethodName := ⟨RX12, "keep", "()I"⟩
abbrev cX12_back : ByteArray := prog_14_method_73_code
def yX12_back : MethodName := ⟨RX12, "back", "()I"⟩
abbrev cX12_count : ByteArray := prog_14_method_74_code
def yX12_count : MethodName := ⟨RX12, "count", "(I)I"⟩
def RJ9 : String := "java/lang/Math"
def TJ9 : u_T := fun k => match k with
  | _ => ("", "", "", false)
abbrev cJ9_floorMod_7cf53 : ByteArray := prog_15_method_50_code
def yJ9_floorMod_7cf53 : MethodName := ⟨RJ9, "floorMod", "(II)I"⟩
abbrev cJ9_max_7cf53 : ByteArray := prog_15_method_65_code
def yJ9_max_7cf53 : MethodName := ⟨RJ9, "max", "(II)I"⟩
def RJ0 : String := "java/lang/String"
def TJ0 : u_T := fun k => match k with
  | _ => ("", "", "", false)
abbrev cJ0_length_8abf5 : ByteArray := prog_16_method_54_code
def yJ0_length_8abf5 : MethodName := ⟨RJ0, "length", "()I"⟩
abbrev cJ0_charAt_5068e : ByteArray := prog_16_method_56_code
def yJ0_charAt_5068e : MethodName := ⟨RJ0, "charAt", "(I)C"⟩
abbrev cJ0_coder_7d493 : ByteArray := prog_16_method_152_code
def yJ0_coder_7d493 : MethodName := ⟨RJ0, "coder", "()B"⟩
abbrev cJ0_isLatin1_aae02 : ByteArray := prog_16_method_154_code
def yJ0_isLatin1_aae02 : MethodName := ⟨RJ0, "isLatin1", "()Z"⟩
abbrev cJ0_checkIndex_df160 : ByteArray := prog_16_method_155_code
def yJ0_checkIndex_df160 : MethodName := ⟨RJ0, "checkIndex", "(II)V"⟩
def RJ1 : String := "java/lang/StringLatin1"
def TJ1 : u_T := fun k => match k with
  | _ => ("", "", "", false)
abbrev cJ1_charAt_3b067 : ByteArray := prog_17_method_2_code
def yJ1_charAt_3b067 : MethodName := ⟨RJ1, "charAt", "([BI)C"⟩
def RJ2 : String := "java/lang/StringUTF16"
def TJ2 : u_T := fun k => match k with
  | _ => ("", "", "", false)
abbrev cJ2_getChar_3b067 : ByteArray := prog_18_method_5_code
def yJ2_getChar_3b067 : MethodName := ⟨RJ2, "getChar", "([BI)C"⟩
abbrev cJ2_length_9d52b : ByteArray := prog_18_method_6_code
def yJ2_length_9d52b : MethodName := ⟨RJ2, "length", "([B)I"⟩
abbrev cJ2_charAt_3b067 : ByteArray := prog_18_method_83_code
def yJ2_charAt_3b067 : MethodName := ⟨RJ2, "charAt", "([BI)C"⟩
abbrev cJ2_checkIndex_2214a : ByteArray := prog_18_method_91_code
def yJ2_checkIndex_2214a : MethodName := ⟨RJ2, "checkIndex", "(I[B)V"⟩
def RJ3 : String := "jdk/internal/util/Preconditions"
def TJ3 : u_T := fun k => match k with
  | _ => ("", "", "", false)
abbrev cJ3_checkIndex_8e157 : ByteArray := prog_19_method_11_code
def yJ3_checkIndex_8e157 : MethodName := ⟨RJ3, "checkIndex", "(IILjava/util/function/BiFunction;)I"⟩
def RL : String := "HungFromIceLaw"
abbrev cL_law : ByteArray := code
def yL_law : MethodName := ⟨RL, "law", "([I)Z"⟩
abbrev vwCl : List vw_C := [(RX0, TX0, 5), (RX1, TX1, 5), (RX2, TX2, 7), (RX3, TX3, 8), (RX4, TX4, 3), (RX5, TX5, 2), (RX6, TX6, 2), (RX7, TX7, 4), (RX8, TX8, 8), (RX9, TX9, 4), (RX10, TX10, 17), (RX11, TX11, 12), (RX12, TX12, 23)]
